/-! the class: a statement is read -/
theorem lk_off {x : Int} (h1 : ¬ x = 33) (h2 : ¬ x = 35) (h3 : ¬ x = 63) (h4 : ¬ x = 91) : Op.lookupswitch.offset (#[(33, 43), (35, 48), (63, 97), (91, 89)] : Array (Int × Int)).toList 105 x = 105 := by
  simp only [Op.lookupswitch.offset]
  rw [if_neg (by omega), if_neg (by omega), if_neg (by omega), if_neg (by omega)]
def dadd (σ : xS) (k kd : Nat) (z : Nat → Nat) (u : Int32) : xS := if kd = 0 then lset σ k z u else ladd σ k (nI (kd + 1)) (nI (z 1)) u
def rsP (ρ τ : xS) (b : Bool) (pl dp k kd : Nat) : Prop := τ 3 0 = nI pl ∧ (b = true → 3 ≤ kd → τ 0 = upd (ρ 0) (dp + 1) (nI k) ∧ τ 1 = upd (ρ 1) (dp + 1) (nI (if kd = 3 then 93 else 58)) ∧ τ 2 0 = nI (dp + 1)) ∧ (b = false ∨ kd < 3 → ∀ w, w ≠ 3 → τ w = ρ w)
theorem nt_ne {c : Int32} {k : Nat} (hk : k < 2 ^ 31) (h : ¬ c = nI k) : ¬ c.toInt = (k : Int) := fun z => h (by rw [i_eq, nt _ hk]; exact z)
theorem kd_neg {c : Int32} (h1 : ¬ isL c) (h2 : ¬ c = nI 33) (h3 : ¬ c = nI 35) (h4 : ¬ c = nI 91) (h5 : ¬ c = nI 63) : kdI c < 0 := by
  unfold kdI
  rw [if_neg h1, if_neg h2, if_neg h3, if_neg h4, if_neg h5]
  decide +kernel
theorem s_X3_readStatement {G : xG} {d : Nat} {f : Nat → xC} {r : Nat × Nat} {Q : Option Value → xM → Prop} {q x e n a k dp : Nat} {χ ρ σ : xS} (hX : xat f x χ) (hd : x + 2 ≤ q ∨ q + 3 ≤ x) (hxe : x + 2 ≤ e ∨ e + 10 ≤ x) (hde : e + 10 ≤ q ∨ q + 3 ≤ e) (hn : χ 1 0 = nI n) (hn2 : n ≤ 120) (hch : ∀ i, i < n → 0 ≤ (χ 0 i).toInt) (hp : ρ 3 0 = nI a) (ha : a ≤ n) (h2 : ρ 2 0 = nI dp) (hdp : dp ≤ 5) (hk : σ 9 0 = nI k) (hk6 : k ≤ 60) (hsk : skp (χ 0) n a = a) (hq0 : kdI (hr (χ 0) n a) < 0 → ∀ τ, (∀ w, w ≠ 3 → τ w = ρ w) → τ 3 0 = nI a → Q (some (.int (nI 0))) (qput (lput f e σ) q x e τ, r)) (hq : ∀ kd, kd ≤ 4 → kdI (hr (χ 0) n a) = nI kd → ∀ τ, rsP ρ τ (stG (χ 0) n a kd k dp).1 (stG (χ 0) n a kd k dp).2.1 dp k kd → Q (some (.int (b2i ((stG (χ 0) n a kd k dp).1 = true)))) (qput (lput f e (if (stG (χ 0) n a kd k dp).1 = true then dadd σ k kd (stG (χ 0) n a kd k dp).2.2 (ρ 0 dp) else σ)) q x e τ, r)) : xMet G (d + 6) mX3_readStatement [.ref q, .int (hr (χ 0) n a)] (qput (lput f e σ) q x e ρ, r) r Q := by
  refine xMet_0 (by decide +kernel) rfl (Nat.le_of_ble_eq_true rfl) ?_
  show xX G (d + 6) mX3_readStatement r r (xΦ G r r Q) 0 [(0, .ref q), (1, .int (hr (χ 0) n a))] [] (qput (lput f e σ) q x e ρ, r)
  have hX2 : ∀ κ, xat (lput f e κ) x χ := fun κ => rmem_x hX hxe
  have hlt : ¬ hr (χ 0) n a = nI 0 → a < n := fun z => by have := hr_lt z; omega
  have hc0 : 0 ≤ (hr (χ 0) n a).toInt := hr_0 hch
  refine xr_aload_n (n := 1) dX3_readStatement_0 rfl rfl ?_
  refine xr_get (n := 4) dX3_readStatement_1 fl_X3_22 (by first | exact qat_0 (qput_at _ _ _ _ _) | exact qat_r (qput_at _ _ _ _ _) (by decide) | exact xat_0 (bat_out (hX2 _) hd) | exact lat_0 (bat_out (lput_at _ _ _) (by omega))) (by rfl) rfl ?_
  refine xr_callV (y2 := mX1_isFull) (As := []) (n := 7) dX3_readStatement_4 lm_X3_56 pm_X1_isFull pi_X1_isFull (by first | exact qat_0 (qput_at _ _ _ _ _) | exact qat_r (qput_at _ _ _ _ _) (by decide) | exact xat_0 (bat_out (hX2 _) hd) | exact lat_0 (bat_out (lput_at _ _ _) (by omega))) rfl rfl rfl (by simp [Value.category]) rfl ⟨Nat.le_refl _, Nat.le_refl _⟩ ?_
  refine s_X1_isFull (n := k) (bat_out (lput_at _ _ _) (by omega)) hk hk6 ?_
  dsimp only [xK, xps]
  refine xr_beq (tgt := 12) (n := 10) dX3_readStatement_7 (by decide) rfl (fun h7 => ?_) (fun h7 => ?_)
  · refine xr_iload_n (n := 13) dX3_readStatement_12 rfl rfl ?_
    have hk7 : k < 60 := by omega
    by_cases c33 : hr (χ 0) n a = nI 33
    · refine xr_lookup (n := 56) (off := 43) dX3_readStatement_13 (by decide) (by rw [c33]; decide +kernel) (by decide) ?_
      have hke : kdI (hr (χ 0) n a) = nI 1 := by rw [c33]; decide +kernel
      have han : a < n := hlt (by rw [c33]; exact nz 33 (by omega) (by omega))
      have hG : stG (χ 0) n a 1 k dp = stF (χ 0) n a 1 := if_neg (fun z => by unfold ful at z; omega)
      have h9 := hq 1 (by omega) hke
      rw [hG] at h9
      refine xr_aload_n (n := 57) dX3_readStatement_56 rfl rfl ?_
      refine xr_callV (y2 := mX3_readTell) (As := []) (n := 60) dX3_readStatement_57 lm_X3_60 pm_X3_readTell pi_X3_readTell (by first | exact qat_0 (qput_at _ _ _ _ _) | exact qat_r (qput_at _ _ _ _ _) (by decide) | exact xat_0 (bat_out (hX2 _) hd) | exact lat_0 (bat_out (lput_at _ _ _) (by omega))) rfl rfl rfl (by simp [Value.category]) rfl ⟨Nat.le_refl _, Nat.le_refl _⟩ ?_
      refine s_X3_readTell hX hd hxe hde hn hn2 hch hp han h2 hdp hk (by omega) (fun τ t1 t2 => ?_)
      dsimp only [xK, xps]
      refine xr_ireturn dX3_readStatement_60 rfl (by first | exact b2i_nar | exact nar_1 | exact nar_0) rfl ?_
      exact h9 τ ⟨t2, fun _ z => absurd z (by omega), fun _ => t1⟩
    · by_cases c35 : hr (χ 0) n a = nI 35
      · refine xr_lookup (n := 61) (off := 48) dX3_readStatement_13 (by decide) (by rw [c35]; decide +kernel) (by decide) ?_
        have hke : kdI (hr (χ 0) n a) = nI 2 := by rw [c35]; decide +kernel
        have han : a < n := hlt (by rw [c35]; exact nz 35 (by omega) (by omega))
        have hG : stG (χ 0) n a 2 k dp = (decide (hr (χ 0) n (a + 1) = nI 59), pas (χ 0) n (a + 1) (nI 59), ti 2) := (if_neg (fun z => by unfold ful at z; omega)).trans ((if_neg (by omega)).trans (if_pos rfl))
        have h9 := hq 2 (by omega) hke (up2 ρ 3 0 (nI (pas (χ 0) n (a + 1) (nI 59)))) ⟨by rw [hG]; exact up2_ss _ _ _ _, fun _ z => absurd z (by omega), fun _ w hw => up2_n _ _ _ hw⟩
        rw [hG] at h9
        refine xr_aload_n (n := 62) dX3_readStatement_61 rfl rfl ?_
        refine xr_dup (n := 63) dX3_readStatement_62 rfl rfl ?_
        refine xr_get (n := 66) dX3_readStatement_63 fl_X3_35 (by first | exact qat_0 (qput_at _ _ _ _ _) | exact qat_r (qput_at _ _ _ _ _) (by decide) | exact xat_0 (bat_out (hX2 _) hd) | exact lat_0 (bat_out (lput_at _ _ _) (by omega))) (by rfl) rfl ?_
        (first | (simp (disch := omega) only [nI_clamp, pk_mul, nI_add, oi1, up2_ss, up2_n, up2_sn, ur_s, ur_n, Nat.reduceMul, Nat.reduceAdd, Nat.add_zero, hp, h2]) | skip)
        refine xr_iconst (v := nI 1) (n := 67) dX3_readStatement_66 (by decide) rfl ?_
        refine xr_iadd (n := 68) dX3_readStatement_67 rfl ?_
        (first | (simp (disch := omega) only [nI_clamp, pk_mul, nI_add, oi1, up2_ss, up2_n, up2_sn, ur_s, ur_n, Nat.reduceMul, Nat.reduceAdd, Nat.add_zero, hp, h2]) | skip)
        refine xq_put (n := 71) dX3_readStatement_68 fl_X3_35 rfl (by first | exact qat_0 (qput_at _ _ _ _ _) | exact qat_r (qput_at _ _ _ _ _) (by decide) | exact xat_0 (bat_out (hX2 _) hd) | exact lat_0 (bat_out (lput_at _ _ _) (by omega))) (by rfl) (by rfl) (by rfl) rfl ?_
        simp (disch := omega) only [nI_clamp, List.set, qw_0, qw_1, qw_2, qw_3]
        refine xr_aload_n (n := 72) dX3_readStatement_71 rfl rfl ?_
        refine xr_bipush (v := nI 59) (n := 74) dX3_readStatement_72 (by decide) rfl ?_
        refine xr_callV (y2 := mX3_take) (As := [_]) (n := 77) dX3_readStatement_74 lm_X3_63 pm_X3_take pi_X3_take (by first | exact qat_0 (qput_at _ _ _ _ _) | exact qat_r (qput_at _ _ _ _ _) (by decide) | exact xat_0 (bat_out (hX2 _) hd) | exact lat_0 (bat_out (lput_at _ _ _) (by omega))) rfl rfl rfl (by simp [Value.category]) rfl ⟨Nat.le_refl _, Nat.le_refl _⟩ ?_
        refine s_X3_take (hX2 _) hd hn hn2 (up2_ss _ _ _ _) (by omega) (nz 59 (by omega) (by omega)) ?_
        rw [up2_up2]
        dsimp only [xK, xps]
        refine xr_beq (tgt := 100) (n := 80) dX3_readStatement_77 (by decide) rfl (fun h77 => ?_) (fun h77 => ?_)
        · refine xr_iconst (v := nI 0) (n := 101) dX3_readStatement_100 (by decide) rfl ?_
          refine xr_ireturn dX3_readStatement_101 rfl (by first | exact b2i_nar | exact nar_1 | exact nar_0) rfl ?_
          rw [decide_eq_false h77] at h9
          exact h9
        · refine xr_aload_n (n := 81) dX3_readStatement_80 rfl rfl ?_
          refine xr_get (n := 84) dX3_readStatement_81 fl_X3_22 (by first | exact qat_0 (qput_at _ _ _ _ _) | exact qat_r (qput_at _ _ _ _ _) (by decide) | exact xat_0 (bat_out (hX2 _) hd) | exact lat_0 (bat_out (lput_at _ _ _) (by omega))) (by rfl) rfl ?_
          refine xr_iconst (v := nI 3) (n := 85) dX3_readStatement_84 (by decide) rfl ?_
          refine xr_iconst (v := nI 0) (n := 86) dX3_readStatement_85 (by decide) rfl ?_
          refine xr_aload_n (n := 87) dX3_readStatement_86 rfl rfl ?_
          refine xr_callV (y2 := mX3_innermost) (As := []) (n := 90) dX3_readStatement_87 lm_X3_66 pm_X3_innermost pi_X3_innermost (by first | exact qat_0 (qput_at _ _ _ _ _) | exact qat_r (qput_at _ _ _ _ _) (by decide) | exact xat_0 (bat_out (hX2 _) hd) | exact lat_0 (bat_out (lput_at _ _ _) (by omega))) rfl rfl rfl (by simp [Value.category]) rfl ⟨Nat.le_refl _, Nat.le_refl _⟩ ?_
          refine s_X3_innermost (dp := dp) (by rw [up2_n _ _ _ (by omega)]; exact h2) hdp ?_
          rw [up2_n _ _ _ (by omega)]
          dsimp only [xK, xps]
          refine xr_callV (y2 := mX1_add) (As := [_, _, _]) (n := 93) dX3_readStatement_90 lm_X3_69 pm_X1_add pi_X1_add (by first | exact qat_0 (qput_at _ _ _ _ _) | exact qat_r (qput_at _ _ _ _ _) (by decide) | exact xat_0 (bat_out (hX2 _) hd) | exact lat_0 (bat_out (lput_at _ _ _) (by omega))) rfl rfl rfl (by simp [Value.category]) rfl ⟨Nat.le_refl _, Nat.le_refl _⟩ ?_
          refine s_X1_add_r hde hk hk6 ?_
          dsimp only [xK, xps]
          refine xr_beq (tgt := 100) (n := 96) dX3_readStatement_93 (by decide) rfl (fun h93 => ?_) (fun h93 => ?_)
          · refine xr_iconst (v := nI 0) (n := 101) dX3_readStatement_100 (by decide) rfl ?_
            refine xr_ireturn dX3_readStatement_101 rfl (by first | exact b2i_nar | exact nar_1 | exact nar_0) rfl ?_
            exact absurd (show k < 60 by omega) h93
          · refine xr_iconst (v := nI 1) (n := 97) dX3_readStatement_96 (by decide) rfl ?_
            refine xr_goto (n := 101) dX3_readStatement_97 (by decide) ?_
            refine xr_ireturn dX3_readStatement_101 rfl (by first | exact b2i_nar | exact nar_1 | exact nar_0) rfl ?_
            rw [decide_eq_true h77] at h9
            rw [if_pos (show k < 60 by omega)]
            exact h9
      · by_cases c91 : hr (χ 0) n a = nI 91
        · refine xr_lookup (n := 102) (off := 89) dX3_readStatement_13 (by decide) (by rw [c91]; decide +kernel) (by decide) ?_
          have hke : kdI (hr (χ 0) n a) = nI 3 := by rw [c91]; decide +kernel
          have han : a < n := hlt (by rw [c91]; exact nz 91 (by omega) (by omega))
          have h9 := hq 3 (by omega) hke
          refine xr_aload_n (n := 103) dX3_readStatement_102 rfl rfl ?_
          refine xr_iconst (v := nI 4) (n := 104) dX3_readStatement_103 (by decide) rfl ?_
          refine xr_bipush (v := nI 93) (n := 106) dX3_readStatement_104 (by decide) rfl ?_
          refine xr_callV (y2 := mX3_readOpening) (As := [_, _]) (n := 109) dX3_readStatement_106 lm_X3_73 pm_X3_readOpening pi_X3_readOpening (by first | exact qat_0 (qput_at _ _ _ _ _) | exact qat_r (qput_at _ _ _ _ _) (by decide) | exact xat_0 (bat_out (hX2 _) hd) | exact lat_0 (bat_out (lput_at _ _ _) (by omega))) rfl rfl rfl (by simp [Value.category]) rfl ⟨Nat.le_refl _, Nat.le_refl _⟩ ?_
          refine s_X3_readOpening (kd := 3) (cl := 93) hX hd hxe hde hn hn2 hch hp han h2 hdp hk (by omega) (by omega) (fun z5 => ?_) (fun h4 τ hτ => ?_)
          · have hG : stG (χ 0) n a 3 k dp = (false, a, fun _ => 0) := if_pos (Or.inr ⟨by omega, z5⟩)
            have h8 := h9 ρ
            rw [hG] at h8
            dsimp only [xK, xps]
            refine xr_ireturn dX3_readStatement_109 rfl (by first | exact b2i_nar | exact nar_1 | exact nar_0) rfl ?_
            exact h8 ⟨hp, fun z => (by cases z), fun _ _ _ => rfl⟩
          dsimp only [xK, xps]
          refine xr_ireturn dX3_readStatement_109 rfl (by first | exact b2i_nar | exact nar_1 | exact nar_0) rfl ?_
          have hG : stG (χ 0) n a 3 k dp = stF (χ 0) n a 3 := if_neg (fun z => by unfold ful at z; omega)
          rw [hG] at h9
          exact h9 τ ⟨hτ.1, fun a1 _ => hτ.2.1 a1, fun z w hw => hτ.2.2 (by rcases z with z | z; exact z; omega) w hw⟩
        · by_cases c63 : hr (χ 0) n a = nI 63
          · refine xr_lookup (n := 110) (off := 97) dX3_readStatement_13 (by decide) (by rw [c63]; decide +kernel) (by decide) ?_
            have hke : kdI (hr (χ 0) n a) = nI 4 := by rw [c63]; decide +kernel
            have han : a < n := hlt (by rw [c63]; exact nz 63 (by omega) (by omega))
            have h9 := hq 4 (by omega) hke
            refine xr_aload_n (n := 111) dX3_readStatement_110 rfl rfl ?_
            refine xr_iconst (v := nI 5) (n := 112) dX3_readStatement_111 (by decide) rfl ?_
            refine xr_bipush (v := nI 58) (n := 114) dX3_readStatement_112 (by decide) rfl ?_
            refine xr_callV (y2 := mX3_readOpening) (As := [_, _]) (n := 117) dX3_readStatement_114 lm_X3_73 pm_X3_readOpening pi_X3_readOpening (by first | exact qat_0 (qput_at _ _ _ _ _) | exact qat_r (qput_at _ _ _ _ _) (by decide) | exact xat_0 (bat_out (hX2 _) hd) | exact lat_0 (bat_out (lput_at _ _ _) (by omega))) rfl rfl rfl (by simp [Value.category]) rfl ⟨Nat.le_refl _, Nat.le_refl _⟩ ?_
            refine s_X3_readOpening (kd := 4) (cl := 58) hX hd hxe hde hn hn2 hch hp han h2 hdp hk (by omega) (by omega) (fun z5 => ?_) (fun h4 τ hτ => ?_)
            · have hG : stG (χ 0) n a 4 k dp = (false, a, fun _ => 0) := if_pos (Or.inr ⟨by omega, z5⟩)
              have h8 := h9 ρ
              rw [hG] at h8
              dsimp only [xK, xps]
              refine xr_ireturn dX3_readStatement_117 rfl (by first | exact b2i_nar | exact nar_1 | exact nar_0) rfl ?_
              exact h8 ⟨hp, fun z => (by cases z), fun _ _ _ => rfl⟩
            dsimp only [xK, xps]
            refine xr_ireturn dX3_readStatement_117 rfl (by first | exact b2i_nar | exact nar_1 | exact nar_0) rfl ?_
            have hG : stG (χ 0) n a 4 k dp = stF (χ 0) n a 4 := if_neg (fun z => by unfold ful at z; omega)
            rw [hG] at h9
            exact h9 τ ⟨hτ.1, fun a1 _ => hτ.2.1 a1, fun z w hw => hτ.2.2 (by rcases z with z | z; exact z; omega) w hw⟩
          · refine xr_lookup (n := 118) (off := 105) dX3_readStatement_13 (by decide) (lk_off (nt_ne (k := 33) (by omega) c33) (nt_ne (k := 35) (by omega) c35) (nt_ne (k := 63) (by omega) c63) (nt_ne (k := 91) (by omega) c91)) (by decide) ?_
            refine xr_aload_n (n := 119) dX3_readStatement_118 rfl rfl ?_
            refine xr_callV (y2 := mX3_readSetting) (As := []) (n := 122) dX3_readStatement_119 lm_X3_77 pm_X3_readSetting pi_X3_readSetting (by first | exact qat_0 (qput_at _ _ _ _ _) | exact qat_r (qput_at _ _ _ _ _) (by decide) | exact xat_0 (bat_out (hX2 _) hd) | exact lat_0 (bat_out (lput_at _ _ _) (by omega))) rfl rfl rfl (by simp [Value.category]) rfl ⟨Nat.le_refl _, Nat.le_refl _⟩ ?_
            refine s_X3_readSetting hX hd hxe hde hn hn2 hch hp ha h2 hdp hk (by omega) (fun τ t1 t2 => ?_)
            dsimp only [xK, xps]
            refine xr_ireturn dX3_readStatement_122 rfl (by first | exact b2i_nar | exact nar_1 | exact nar_0) rfl ?_
            by_cases hL : isL (hr (χ 0) n a)
            · have hke : kdI (hr (χ 0) n a) = nI 0 := if_pos hL
              have h9 := hq 0 (by omega) hke
              have hG : stG (χ 0) n a 0 k dp = seF (χ 0) n a := (if_neg (fun z => by unfold ful at z; omega)).trans (if_pos rfl)
              rw [hG] at h9
              exact h9 τ ⟨t2, fun _ z => absurd z (by omega), fun _ => t1⟩
            · have hF : ceF (χ 0) n a = (false, skp (χ 0) n a, 0) := if_neg hL
              have hS : seF (χ 0) n a = (false, a, fun _ => 0) := by
                unfold seF
                rw [hF, hsk]
                rfl
              rw [hS] at t2 ⊢
              exact hq0 (kd_neg hL c33 c35 c91 c63) τ t1 t2
  · refine xr_iconst (v := nI 0) (n := 11) dX3_readStatement_10 (by decide) rfl ?_
    refine xr_ireturn dX3_readStatement_11 rfl (by first | exact b2i_nar | exact nar_1 | exact nar_0) rfl ?_
    by_cases hneg : kdI (hr (χ 0) n a) < 0
    · exact hq0 hneg ρ (fun _ _ => rfl) hp
    · obtain ⟨kd, hkd, hke⟩ := kd_of hneg
      have h9 := hq kd hkd hke ρ
      have hG : stG (χ 0) n a kd k dp = (false, a, fun _ => 0) := if_pos (Or.inl (by omega))
      rw [hG] at h9
      exact h9 ⟨hp, fun z => (by cases z), fun _ _ _ => rfl⟩
