theorem lset_op {σ : xS} {k c x0 y0 : Nat} {o u : Int32} (h : opc o) : lset σ k (seR c (ix o) x0 y0) u = up2 (up2 (up2 (ladd σ k (nI 1) (nI c) u) 2 k (nI (tmv x0))) 3 k o) 4 k (nI (tmv y0)) := by
  have hnz : ¬ ix o = 0 := fun z => (opc_n h).2 (by rw [(opc_n h).1, z])
  unfold lset
  rw [show seR c (ix o) x0 y0 2 = ix o from rfl, if_neg hnz, ← (opc_n h).1]
  rfl
theorem opt_t2 {b : Bool} {v : Int32} (h : ¬ (if b = true then v else (-1)) = (-1)) : b = true := by
  cases b with
  | true => rfl
  | false => exact absurd rfl h
theorem s_X3_readSetting {G : xG} {d : Nat} {f : Nat → xC} {r : Nat × Nat} {Q : Option Value → xM → Prop} {q x e n a k dp : Nat} {χ ρ σ : xS} (hX : xat f x χ) (hd : x + 2 ≤ q ∨ q + 3 ≤ x) (hxe : x + 2 ≤ e ∨ e + 10 ≤ x) (hde : e + 10 ≤ q ∨ q + 3 ≤ e) (hn : χ 1 0 = nI n) (hn2 : n ≤ 120) (hch : ∀ i, i < n → 0 ≤ (χ 0 i).toInt) (hp : ρ 3 0 = nI a) (ha : a ≤ n) (h2 : ρ 2 0 = nI dp) (hdp : dp ≤ 5) (hk : σ 9 0 = nI k) (hk6 : k < 60) (hq : ∀ τ, (∀ w, w ≠ 3 → τ w = ρ w) → τ 3 0 = nI (seF (χ 0) n a).2.1 → Q (some (.int (b2i ((seF (χ 0) n a).1 = true)))) (qput (lput f e (if (seF (χ 0) n a).1 = true then lset σ k (seF (χ 0) n a).2.2 (ρ 0 dp) else σ)) q x e τ, r)) : xMet G (d + 5) mX3_readSetting [.ref q] (qput (lput f e σ) q x e ρ, r) r Q := by
  refine xMet_0 (by decide +kernel) rfl (Nat.le_of_ble_eq_true rfl) ?_
  show xX G (d + 5) mX3_readSetting r r (xΦ G r r Q) 0 [(0, .ref q)] [] (qput (lput f e σ) q x e ρ, r)
  have hX2 : ∀ κ, xat (lput f e κ) x χ := fun κ => rmem_x hX hxe
  have hcb := ceF_b (t := χ 0) (n := n) (a := a) (by omega)
  have hk60 : k ≤ 60 := by omega
  refine xr_aload_n (n := 1) dX3_readSetting_0 rfl rfl ?_
  refine xr_callV (y2 := mX3_takeCell) (As := []) (n := 4) dX3_readSetting_1 lm_X3_80 pm_X3_takeCell pi_X3_takeCell (by first | exact qat_0 (qput_at _ _ _ _ _) | exact qat_r (qput_at _ _ _ _ _) (by decide) | exact xat_0 (bat_out (hX2 _) hd) | exact lat_0 (bat_out (lput_at _ _ _) (by omega))) rfl rfl rfl (by simp [Value.category]) rfl ⟨Nat.le_refl _, Nat.le_refl _⟩ ?_
  refine s_X3_takeCell (hX2 _) hd hn hn2 hp (by omega) (hr_0 hch) ?_
  dsimp only [xK, xps]
  refine xq_istore_n 1 (n := 5) dX3_readSetting_4 rfl rfl rfl ?_
  simp only [xst, Nat.beq, List.filter, Bool.not_true, Bool.not_false]
  refine xr_iload_n (n := 6) dX3_readSetting_5 rfl rfl ?_
  refine xr_iconst (v := (-1)) (n := 7) dX3_readSetting_6 (by decide) rfl ?_
  refine xr_icmp_eq (tgt := 19) (n := 10) dX3_readSetting_7 (by decide) rfl (fun h7 => ?_) (fun h7 => ?_)
  · have hB1 := opt_f (fun _ => by omega) h7
    have hs1 : seF (χ 0) n a = _ := if_neg hB1
    refine xr_iconst (v := nI 0) (n := 20) dX3_readSetting_19 (by decide) rfl ?_
    refine xr_ireturn dX3_readSetting_20 rfl (by first | exact b2i_nar | exact nar_1 | exact nar_0) rfl ?_
    have hF := hs1
    have hq9 := hq (up2 ρ 3 0 (nI (ceF (χ 0) n a).2.1)) (fun w hw => up2_n _ _ _ hw) (by rw [hF]; exact up2_ss _ _ _ _)
    rw [hF] at hq9
    exact hq9
  · have hB1 := opt_t (by omega) h7
    rw [if_pos hB1]
    have hs1 : seF (χ 0) n a = _ := if_pos hB1
    have ha2 := pas_le (t := χ 0) hcb.1 (nz 61 (by omega) (by omega))
    refine xr_aload_n (n := 11) dX3_readSetting_10 rfl rfl ?_
    refine xr_bipush (v := nI 61) (n := 13) dX3_readSetting_11 (by decide) rfl ?_
    refine xr_callV (y2 := mX3_take) (As := [_]) (n := 16) dX3_readSetting_13 lm_X3_63 pm_X3_take pi_X3_take (by first | exact qat_0 (qput_at _ _ _ _ _) | exact qat_r (qput_at _ _ _ _ _) (by decide) | exact xat_0 (bat_out (hX2 _) hd) | exact lat_0 (bat_out (lput_at _ _ _) (by omega))) rfl rfl rfl (by simp [Value.category]) rfl ⟨Nat.le_refl _, Nat.le_refl _⟩ ?_
    refine s_X3_take (hX2 _) hd hn hn2 (up2_ss _ _ _ _) hcb.1 (nz 61 (by omega) (by omega)) ?_
    rw [up2_up2]
    dsimp only [xK, xps]
    refine xr_bne (tgt := 21) (n := 19) dX3_readSetting_16 (by decide) rfl (fun h16 => ?_) (fun h16 => ?_)
    · have hs2 := hs1.trans (if_pos h16)
      have htb := teF_b (t := χ 0) ha2
      have hska := skp_le (t := χ 0) htb.1
      refine xr_aload_n (n := 22) dX3_readSetting_21 rfl rfl ?_
      refine xr_callV (y2 := mX3_takeTerm) (As := []) (n := 25) dX3_readSetting_22 lm_X3_83 pm_X3_takeTerm pi_X3_takeTerm (by first | exact qat_0 (qput_at _ _ _ _ _) | exact qat_r (qput_at _ _ _ _ _) (by decide) | exact xat_0 (bat_out (hX2 _) hd) | exact lat_0 (bat_out (lput_at _ _ _) (by omega))) rfl rfl rfl (by simp [Value.category]) rfl ⟨Nat.le_refl _, Nat.le_refl _⟩ ?_
      refine s_X3_takeTerm (hX2 _) hd hn hn2 (up2_ss _ _ _ _) ha2 hch ?_
      rw [up2_up2]
      dsimp only [xK, xps]
      refine xq_istore_n 2 (n := 26) dX3_readSetting_25 rfl rfl rfl ?_
      simp only [xst, Nat.beq, List.filter, Bool.not_true, Bool.not_false]
      refine xr_iload_n (n := 27) dX3_readSetting_26 rfl rfl ?_
      refine xr_iconst (v := (-1)) (n := 28) dX3_readSetting_27 (by decide) rfl ?_
      refine xr_icmp_ne (tgt := 33) (n := 31) dX3_readSetting_28 (by decide) rfl (fun h28 => ?_) (fun h28 => ?_)
      · have hB3 : (teF (χ 0) n (pas (χ 0) n (ceF (χ 0) n a).2.1 (nI 61))).1 = true := by
          by_cases z : (teF (χ 0) n (pas (χ 0) n (ceF (χ 0) n a).2.1 (nI 61))).1 = true
          · exact z
          · exact absurd (if_neg z) h28
        have hs3 := hs2.trans (if_pos hB3)
        rw [if_pos hB3]
        refine xr_aload_n (n := 34) dX3_readSetting_33 rfl rfl ?_
        refine xr_callV (y2 := mX3_takeOperator) (As := []) (n := 37) dX3_readSetting_34 lm_X3_86 pm_X3_takeOperator pi_X3_takeOperator (by first | exact qat_0 (qput_at _ _ _ _ _) | exact qat_r (qput_at _ _ _ _ _) (by decide) | exact xat_0 (bat_out (hX2 _) hd) | exact lat_0 (bat_out (lput_at _ _ _) (by omega))) rfl rfl rfl (by simp [Value.category]) rfl ⟨Nat.le_refl _, Nat.le_refl _⟩ ?_
        refine s_X3_takeOperator (hX2 _) hd hn hn2 (up2_ss _ _ _ _) htb.1 ?_
        rw [up2_up2]
        dsimp only [xK, xps]
        refine xq_istore_n 3 (n := 38) dX3_readSetting_37 rfl rfl rfl ?_
        simp only [xst, Nat.beq, List.filter, Bool.not_true, Bool.not_false]
        refine xr_iload_n (n := 39) dX3_readSetting_38 rfl rfl ?_
        refine xr_if_ne (tgt := 46) (n := 42) dX3_readSetting_39 (by decide) rfl (fun h39 => ?_) (fun h39 => ?_)
        · have hop : opc (hr (χ 0) n (teF (χ 0) n (pas (χ 0) n (ceF (χ 0) n a).2.1 (nI 61))).2.1) := by
            by_cases z : opc (hr (χ 0) n (teF (χ 0) n (pas (χ 0) n (ceF (χ 0) n a).2.1 (nI 61))).2.1)
            · exact z
            · exact absurd (if_neg z) h39
          have hs4 := hs3.trans (if_pos hop)
          have hlo := hr_lt (opc_n hop).2
          have hub := teF_b (t := χ 0) (n := n) (a := (skp (χ 0) n (teF (χ 0) n (pas (χ 0) n (ceF (χ 0) n a).2.1 (nI 61))).2.1 + 1)) (by omega)
          rw [if_pos hop, if_pos hop]
          refine xr_aload_n (n := 47) dX3_readSetting_46 rfl rfl ?_
          refine xr_callV (y2 := mX3_takeTerm) (As := []) (n := 50) dX3_readSetting_47 lm_X3_83 pm_X3_takeTerm pi_X3_takeTerm (by first | exact qat_0 (qput_at _ _ _ _ _) | exact qat_r (qput_at _ _ _ _ _) (by decide) | exact xat_0 (bat_out (hX2 _) hd) | exact lat_0 (bat_out (lput_at _ _ _) (by omega))) rfl rfl rfl (by simp [Value.category]) rfl ⟨Nat.le_refl _, Nat.le_refl _⟩ ?_
          refine s_X3_takeTerm (hX2 _) hd hn hn2 (up2_ss _ _ _ _) (by omega) hch ?_
          rw [up2_up2]
          dsimp only [xK, xps]
          refine xr_istore (n := 52) dX3_readSetting_50 rfl rfl ?_
          simp only [xst, Nat.beq, List.filter, Bool.not_true, Bool.not_false]
          refine xr_iload (n := 54) dX3_readSetting_52 rfl rfl ?_
          refine xr_iconst (v := (-1)) (n := 55) dX3_readSetting_54 (by decide) rfl ?_
          refine xr_icmp_eq (tgt := 83) (n := 58) dX3_readSetting_55 (by decide) rfl (fun h55 => ?_) (fun h55 => ?_)
          · refine xr_iconst (v := nI 0) (n := 84) dX3_readSetting_83 (by decide) rfl ?_
            refine xr_ireturn dX3_readSetting_84 rfl (by first | exact b2i_nar | exact nar_1 | exact nar_0) rfl ?_
            have hB5 := opt_f (fun z => tmv_lt (hub.2.2 z)) h55
            have hF := hs4.trans (if_neg hB5)
            have hq9 := hq (up2 ρ 3 0 (nI (teF (χ 0) n (skp (χ 0) n (teF (χ 0) n (pas (χ 0) n (ceF (χ 0) n a).2.1 (nI 61))).2.1 + 1)).2.1)) (fun w hw => up2_n _ _ _ hw) (by rw [hF]; exact up2_ss _ _ _ _)
            rw [hF] at hq9
            exact hq9
          · refine xr_aload_n (n := 59) dX3_readSetting_58 rfl rfl ?_
            refine xr_bipush (v := nI 59) (n := 61) dX3_readSetting_59 (by decide) rfl ?_
            refine xr_callV (y2 := mX3_take) (As := [_]) (n := 64) dX3_readSetting_61 lm_X3_63 pm_X3_take pi_X3_take (by first | exact qat_0 (qput_at _ _ _ _ _) | exact qat_r (qput_at _ _ _ _ _) (by decide) | exact xat_0 (bat_out (hX2 _) hd) | exact lat_0 (bat_out (lput_at _ _ _) (by omega))) rfl rfl rfl (by simp [Value.category]) rfl ⟨Nat.le_refl _, Nat.le_refl _⟩ ?_
            have hB5 := opt_t2 h55
            rw [if_pos hB5]
            refine s_X3_take (hX2 _) hd hn hn2 (up2_ss _ _ _ _) hub.1 (nz 59 (by omega) (by omega)) ?_
            rw [up2_up2]
            dsimp only [xK, xps]
            refine xr_beq (tgt := 83) (n := 67) dX3_readSetting_64 (by decide) rfl (fun h64 => ?_) (fun h64 => ?_)
            · refine xr_iconst (v := nI 0) (n := 84) dX3_readSetting_83 (by decide) rfl ?_
              refine xr_ireturn dX3_readSetting_84 rfl (by first | exact b2i_nar | exact nar_1 | exact nar_0) rfl ?_
              have hs5 := hs4.trans (if_pos hB5)
              have hF := hs5
              unfold sE5 at hF
              rw [decide_eq_false h64] at hF
              have hq9 := hq (up2 ρ 3 0 (nI (pas (χ 0) n (teF (χ 0) n (skp (χ 0) n (teF (χ 0) n (pas (χ 0) n (ceF (χ 0) n a).2.1 (nI 61))).2.1 + 1)).2.1 (nI 59)))) (fun w hw => up2_n _ _ _ hw) (by rw [hF]; exact up2_ss _ _ _ _)
              rw [hF] at hq9
              exact hq9
            · refine xr_aload_n (n := 68) dX3_readSetting_67 rfl rfl ?_
              refine xr_get (n := 71) dX3_readSetting_68 fl_X3_22 (by first | exact qat_0 (qput_at _ _ _ _ _) | exact qat_r (qput_at _ _ _ _ _) (by decide) | exact xat_0 (bat_out (hX2 _) hd) | exact lat_0 (bat_out (lput_at _ _ _) (by omega))) (by rfl) rfl ?_
              refine xr_iconst (v := nI 1) (n := 72) dX3_readSetting_71 (by decide) rfl ?_
              refine xr_iload_n (n := 73) dX3_readSetting_72 rfl rfl ?_
              refine xr_aload_n (n := 74) dX3_readSetting_73 rfl rfl ?_
              refine xr_callV (y2 := mX3_innermost) (As := []) (n := 77) dX3_readSetting_74 lm_X3_66 pm_X3_innermost pi_X3_innermost (by first | exact qat_0 (qput_at _ _ _ _ _) | exact qat_r (qput_at _ _ _ _ _) (by decide) | exact xat_0 (bat_out (hX2 _) hd) | exact lat_0 (bat_out (lput_at _ _ _) (by omega))) rfl rfl rfl (by simp [Value.category]) rfl ⟨Nat.le_refl _, Nat.le_refl _⟩ ?_
              refine s_X3_innermost (dp := dp) (by rw [up2_n _ _ _ (by omega)]; exact h2) hdp ?_
              rw [up2_n _ _ _ (by omega)]
              dsimp only [xK, xps]
              refine xr_callV (y2 := mX1_add) (As := [_, _, _]) (n := 80) dX3_readSetting_77 lm_X3_69 pm_X1_add pi_X1_add (by first | exact qat_0 (qput_at _ _ _ _ _) | exact qat_r (qput_at _ _ _ _ _) (by decide) | exact xat_0 (bat_out (hX2 _) hd) | exact lat_0 (bat_out (lput_at _ _ _) (by omega))) rfl rfl rfl (by simp [Value.category]) rfl ⟨Nat.le_refl _, Nat.le_refl _⟩ ?_
              refine s_X1_add_r hde hk hk60 ?_
              rw [if_pos hk6]
              dsimp only [xK, xps]
              refine xr_bne (tgt := 85) (n := 83) dX3_readSetting_80 (by decide) rfl (fun h80 => ?_) (fun h80 => ?_)
              · refine xr_aload_n (n := 86) dX3_readSetting_85 rfl rfl ?_
                refine xr_get (n := 89) dX3_readSetting_86 fl_X3_22 (by first | exact qat_0 (qput_at _ _ _ _ _) | exact qat_r (qput_at _ _ _ _ _) (by decide) | exact xat_0 (bat_out (hX2 _) hd) | exact lat_0 (bat_out (lput_at _ _ _) (by omega))) (by rfl) rfl ?_
                refine xr_iload_n (n := 90) dX3_readSetting_89 rfl rfl ?_
                refine xr_iload_n (n := 91) dX3_readSetting_90 rfl rfl ?_
                refine xr_iload (n := 93) dX3_readSetting_91 rfl rfl ?_
                refine xr_callV (y2 := mX1_setTerms) (As := [_, _, _]) (n := 96) dX3_readSetting_93 lm_X3_89 pm_X1_setTerms pi_X1_setTerms (by first | exact qat_0 (qput_at _ _ _ _ _) | exact qat_r (qput_at _ _ _ _ _) (by decide) | exact xat_0 (bat_out (hX2 _) hd) | exact lat_0 (bat_out (lput_at _ _ _) (by omega))) rfl rfl rfl (by simp [Value.category]) rfl ⟨Nat.le_refl _, Nat.le_refl _⟩ ?_
                refine s_X1_setTerms_r (n := k) hde (up2_ss _ _ _ _) (by omega) ?_
                dsimp only [xK, xps]
                refine xr_iconst (v := nI 1) (n := 97) dX3_readSetting_96 (by decide) rfl ?_
                refine xr_ireturn dX3_readSetting_97 rfl (by first | exact b2i_nar | exact nar_1 | exact nar_0) rfl ?_
                have hs5 := hs4.trans (if_pos hB5)
                have hF := hs5
                unfold sE5 at hF
                rw [decide_eq_true h64] at hF
                have hq9 := hq (up2 ρ 3 0 (nI (pas (χ 0) n (teF (χ 0) n (skp (χ 0) n (teF (χ 0) n (pas (χ 0) n (ceF (χ 0) n a).2.1 (nI 61))).2.1 + 1)).2.1 (nI 59)))) (fun w hw => up2_n _ _ _ hw) (by rw [hF]; exact up2_ss _ _ _ _)
                rw [hF] at hq9
                rw [if_pos rfl] at hq9
                dsimp only at hq9
                rw [lset_op hop] at hq9
                exact hq9
              · refine xr_iconst (v := nI 0) (n := 84) dX3_readSetting_83 (by decide) rfl ?_
                refine xr_ireturn dX3_readSetting_84 rfl (by first | exact b2i_nar | exact nar_1 | exact nar_0) rfl ?_
                exact absurd (show k < 60 from hk6) h80
        · have hop : ¬ opc (hr (χ 0) n (teF (χ 0) n (pas (χ 0) n (ceF (χ 0) n a).2.1 (nI 61))).2.1) := fun z => by
            rw [if_pos z] at h39
            exact (opc_n z).2 (by first | exact h39 | exact Decidable.not_not.mp h39)
          have hs4 := hs3.trans (if_neg hop)
          rw [if_neg hop, if_neg hop]
          refine xr_iconst (v := nI 0) (n := 43) dX3_readSetting_42 (by decide) rfl ?_
          refine xr_goto (n := 50) dX3_readSetting_43 (by decide) ?_
          refine xr_istore (n := 52) dX3_readSetting_50 rfl rfl ?_
          simp only [xst, Nat.beq, List.filter, Bool.not_true, Bool.not_false]
          refine xr_iload (n := 54) dX3_readSetting_52 rfl rfl ?_
          refine xr_iconst (v := (-1)) (n := 55) dX3_readSetting_54 (by decide) rfl ?_
          refine xr_icmp_eq (tgt := 83) (n := 58) dX3_readSetting_55 (by decide) rfl (fun h55 => ?_) (fun h55 => ?_)
          · refine xr_iconst (v := nI 0) (n := 84) dX3_readSetting_83 (by decide) rfl ?_
            refine xr_ireturn dX3_readSetting_84 rfl (by first | exact b2i_nar | exact nar_1 | exact nar_0) rfl ?_
            exact absurd h55 (by decide)
          · refine xr_aload_n (n := 59) dX3_readSetting_58 rfl rfl ?_
            refine xr_bipush (v := nI 59) (n := 61) dX3_readSetting_59 (by decide) rfl ?_
            refine xr_callV (y2 := mX3_take) (As := [_]) (n := 64) dX3_readSetting_61 lm_X3_63 pm_X3_take pi_X3_take (by first | exact qat_0 (qput_at _ _ _ _ _) | exact qat_r (qput_at _ _ _ _ _) (by decide) | exact xat_0 (bat_out (hX2 _) hd) | exact lat_0 (bat_out (lput_at _ _ _) (by omega))) rfl rfl rfl (by simp [Value.category]) rfl ⟨Nat.le_refl _, Nat.le_refl _⟩ ?_
            refine s_X3_take (hX2 _) hd hn hn2 (up2_ss _ _ _ _) hska (nz 59 (by omega) (by omega)) ?_
            rw [up2_up2]
            rw [show hr (χ 0) n (skp (χ 0) n (teF (χ 0) n (pas (χ 0) n (ceF (χ 0) n a).2.1 (nI 61))).2.1) = hr (χ 0) n (skp (χ 0) n (teF (χ 0) n (pas (χ 0) n (ceF (χ 0) n a).2.1 (nI 61))).2.1) from rfl]
            dsimp only [xK, xps]
            refine xr_beq (tgt := 83) (n := 67) dX3_readSetting_64 (by decide) rfl (fun h64 => ?_) (fun h64 => ?_)
            · refine xr_iconst (v := nI 0) (n := 84) dX3_readSetting_83 (by decide) rfl ?_
              refine xr_ireturn dX3_readSetting_84 rfl (by first | exact b2i_nar | exact nar_1 | exact nar_0) rfl ?_
              have hs5 := hs4
              have hF := hs5
              unfold sE5 at hF
              rw [decide_eq_false h64] at hF
              have hq9 := hq (up2 ρ 3 0 (nI (pas (χ 0) n (skp (χ 0) n (teF (χ 0) n (pas (χ 0) n (ceF (χ 0) n a).2.1 (nI 61))).2.1) (nI 59)))) (fun w hw => up2_n _ _ _ hw) (by rw [hF]; exact up2_ss _ _ _ _)
              rw [hF] at hq9
              exact hq9
            · refine xr_aload_n (n := 68) dX3_readSetting_67 rfl rfl ?_
              refine xr_get (n := 71) dX3_readSetting_68 fl_X3_22 (by first | exact qat_0 (qput_at _ _ _ _ _) | exact qat_r (qput_at _ _ _ _ _) (by decide) | exact xat_0 (bat_out (hX2 _) hd) | exact lat_0 (bat_out (lput_at _ _ _) (by omega))) (by rfl) rfl ?_
              refine xr_iconst (v := nI 1) (n := 72) dX3_readSetting_71 (by decide) rfl ?_
              refine xr_iload_n (n := 73) dX3_readSetting_72 rfl rfl ?_
              refine xr_aload_n (n := 74) dX3_readSetting_73 rfl rfl ?_
              refine xr_callV (y2 := mX3_innermost) (As := []) (n := 77) dX3_readSetting_74 lm_X3_66 pm_X3_innermost pi_X3_innermost (by first | exact qat_0 (qput_at _ _ _ _ _) | exact qat_r (qput_at _ _ _ _ _) (by decide) | exact xat_0 (bat_out (hX2 _) hd) | exact lat_0 (bat_out (lput_at _ _ _) (by omega))) rfl rfl rfl (by simp [Value.category]) rfl ⟨Nat.le_refl _, Nat.le_refl _⟩ ?_
              refine s_X3_innermost (dp := dp) (by rw [up2_n _ _ _ (by omega)]; exact h2) hdp ?_
              rw [up2_n _ _ _ (by omega)]
              dsimp only [xK, xps]
              refine xr_callV (y2 := mX1_add) (As := [_, _, _]) (n := 80) dX3_readSetting_77 lm_X3_69 pm_X1_add pi_X1_add (by first | exact qat_0 (qput_at _ _ _ _ _) | exact qat_r (qput_at _ _ _ _ _) (by decide) | exact xat_0 (bat_out (hX2 _) hd) | exact lat_0 (bat_out (lput_at _ _ _) (by omega))) rfl rfl rfl (by simp [Value.category]) rfl ⟨Nat.le_refl _, Nat.le_refl _⟩ ?_
              refine s_X1_add_r hde hk hk60 ?_
              rw [if_pos hk6]
              dsimp only [xK, xps]
              refine xr_bne (tgt := 85) (n := 83) dX3_readSetting_80 (by decide) rfl (fun h80 => ?_) (fun h80 => ?_)
              · refine xr_aload_n (n := 86) dX3_readSetting_85 rfl rfl ?_
                refine xr_get (n := 89) dX3_readSetting_86 fl_X3_22 (by first | exact qat_0 (qput_at _ _ _ _ _) | exact qat_r (qput_at _ _ _ _ _) (by decide) | exact xat_0 (bat_out (hX2 _) hd) | exact lat_0 (bat_out (lput_at _ _ _) (by omega))) (by rfl) rfl ?_
                refine xr_iload_n (n := 90) dX3_readSetting_89 rfl rfl ?_
                refine xr_iload_n (n := 91) dX3_readSetting_90 rfl rfl ?_
                refine xr_iload (n := 93) dX3_readSetting_91 rfl rfl ?_
                refine xr_callV (y2 := mX1_setTerms) (As := [_, _, _]) (n := 96) dX3_readSetting_93 lm_X3_89 pm_X1_setTerms pi_X1_setTerms (by first | exact qat_0 (qput_at _ _ _ _ _) | exact qat_r (qput_at _ _ _ _ _) (by decide) | exact xat_0 (bat_out (hX2 _) hd) | exact lat_0 (bat_out (lput_at _ _ _) (by omega))) rfl rfl rfl (by simp [Value.category]) rfl ⟨Nat.le_refl _, Nat.le_refl _⟩ ?_
                refine s_X1_setTerms_r (n := k) hde (up2_ss _ _ _ _) (by omega) ?_
                dsimp only [xK, xps]
                refine xr_iconst (v := nI 1) (n := 97) dX3_readSetting_96 (by decide) rfl ?_
                refine xr_ireturn dX3_readSetting_97 rfl (by first | exact b2i_nar | exact nar_1 | exact nar_0) rfl ?_
                have hs5 := hs4
                have hF := hs5
                unfold sE5 at hF
                rw [decide_eq_true h64] at hF
                have hq9 := hq (up2 ρ 3 0 (nI (pas (χ 0) n (skp (χ 0) n (teF (χ 0) n (pas (χ 0) n (ceF (χ 0) n a).2.1 (nI 61))).2.1) (nI 59)))) (fun w hw => up2_n _ _ _ hw) (by rw [hF]; exact up2_ss _ _ _ _)
                rw [hF] at hq9
                exact hq9
              · refine xr_iconst (v := nI 0) (n := 84) dX3_readSetting_83 (by decide) rfl ?_
                refine xr_ireturn dX3_readSetting_84 rfl (by first | exact b2i_nar | exact nar_1 | exact nar_0) rfl ?_
                exact absurd (show k < 60 from hk6) h80
      · have hB3 := opt_f (fun z => tmv_lt (htb.2.2 z)) h28
        have hs3 := hs2.trans (if_neg hB3)
        refine xr_iconst (v := nI 0) (n := 32) dX3_readSetting_31 (by decide) rfl ?_
        refine xr_ireturn dX3_readSetting_32 rfl (by first | exact b2i_nar | exact nar_1 | exact nar_0) rfl ?_
        have hF := hs3
        have hq9 := hq (up2 ρ 3 0 (nI (teF (χ 0) n (pas (χ 0) n (ceF (χ 0) n a).2.1 (nI 61))).2.1)) (fun w hw => up2_n _ _ _ hw) (by rw [hF]; exact up2_ss _ _ _ _)
        rw [hF] at hq9
        exact hq9
    · have hs2 := hs1.trans (if_neg h16)
      refine xr_iconst (v := nI 0) (n := 20) dX3_readSetting_19 (by decide) rfl ?_
      refine xr_ireturn dX3_readSetting_20 rfl (by first | exact b2i_nar | exact nar_1 | exact nar_0) rfl ?_
      have hF := hs2
      have hq9 := hq (up2 ρ 3 0 (nI (pas (χ 0) n (ceF (χ 0) n a).2.1 (nI 61)))) (fun w hw => up2_n _ _ _ hw) (by rw [hF]; exact up2_ss _ _ _ _)
      rw [hF] at hq9
      exact hq9
