/-! the class: an opening, a mark -/
def opP (ρ τ : xS) (b : Bool) (pl dp k cl : Nat) : Prop := τ 3 0 = nI pl ∧ (b = true → τ 0 = upd (ρ 0) (dp + 1) (nI k) ∧ τ 1 = upd (ρ 1) (dp + 1) (nI cl) ∧ τ 2 0 = nI (dp + 1)) ∧ (b = false → ∀ w, w ≠ 3 → τ w = ρ w)
theorem s_X3_readOpening {G : xG} {d : Nat} {f : Nat → xC} {r : Nat × Nat} {Q : Option Value → xM → Prop} {q x e n a k dp : Nat} {χ ρ σ : xS} {kd cl : Nat} (hX : xat f x χ) (hd : x + 2 ≤ q ∨ q + 3 ≤ x) (hxe : x + 2 ≤ e ∨ e + 10 ≤ x) (hde : e + 10 ≤ q ∨ q + 3 ≤ e) (hn : χ 1 0 = nI n) (hn2 : n ≤ 120) (hch : ∀ i, i < n → 0 ≤ (χ 0 i).toInt) (hp : ρ 3 0 = nI a) (ha : a < n) (h2 : ρ 2 0 = nI dp) (hdp : dp ≤ 5) (hk : σ 9 0 = nI k) (hk6 : k < 60) (hk3 : kd = 3 ∨ kd = 4) (hq0 : dp = 5 → Q (some (.int (nI 0))) (qput (lput f e σ) q x e ρ, r)) (hq : dp ≤ 4 → ∀ τ, opP ρ τ (stF (χ 0) n a kd).1 (stF (χ 0) n a kd).2.1 dp k cl → Q (some (.int (b2i ((stF (χ 0) n a kd).1 = true)))) (qput (lput f e (if (stF (χ 0) n a kd).1 = true then ladd σ k (nI (kd + 1)) (nI ((stF (χ 0) n a kd).2.2 1)) (ρ 0 dp) else σ)) q x e τ, r)) : xMet G (d + 5) mX3_readOpening [.ref q, .int (nI (kd + 1)), .int (nI cl)] (qput (lput f e σ) q x e ρ, r) r Q := by
  refine xMet_0 (by decide +kernel) rfl (Nat.le_of_ble_eq_true rfl) ?_
  show xX G (d + 5) mX3_readOpening r r (xΦ G r r Q) 0 [(0, .ref q), (1, .int (nI (kd + 1))), (2, .int (nI cl))] [] (qput (lput f e σ) q x e ρ, r)
  have hX2 : ∀ κ, xat (lput f e κ) x χ := fun κ => rmem_x hX hxe
  have hcb := ceF_b (t := χ 0) (n := n) (a := a + 1) (by omega)
  have hk60 : k ≤ 60 := by omega
  refine xr_aload_n (n := 1) dX3_readOpening_0 rfl rfl ?_
  refine xr_get (n := 4) dX3_readOpening_1 fl_X3_32 (by first | exact qat_0 (qput_at _ _ _ _ _) | exact qat_r (qput_at _ _ _ _ _) (by decide) | exact xat_0 (bat_out (hX2 _) hd) | exact lat_0 (bat_out (lput_at _ _ _) (by omega))) (by rfl) rfl ?_
  (first | (simp (disch := omega) only [nI_clamp, pk_mul, nI_add, oi1, up2_ss, up2_n, up2_sn, ur_s, ur_n, Nat.reduceMul, Nat.reduceAdd, Nat.add_zero, hp, h2]) | skip)
  refine xr_iconst (v := nI 0) (n := 5) dX3_readOpening_4 (by decide) rfl ?_
  refine xr_iconst (v := nI 4) (n := 6) dX3_readOpening_5 (by decide) rfl ?_
  refine xr_callS (y2 := mX7_isWithin) (As := [_, _, _]) (n := 9) dX3_readOpening_6 lm_X3_93 pm_X7_isWithin kp_static_yX7_isWithin rfl rfl (by simp [Value.category]) rfl ⟨Nat.le_refl _, Nat.le_refl _⟩ ?_
  refine s_X7_isWithin ?_
  dsimp only [xK, xps]
  refine xr_bne (tgt := 14) (n := 12) dX3_readOpening_9 (by decide) rfl (fun h9 => ?_) (fun h9 => ?_)
  · have hdp4 : dp ≤ 4 := by (rw [nt _ (by omega), nt _ (by omega), nt _ (by omega)] at h9; omega)
    refine xr_aload_n (n := 15) dX3_readOpening_14 rfl rfl ?_
    refine xr_dup (n := 16) dX3_readOpening_15 rfl rfl ?_
    refine xr_get (n := 19) dX3_readOpening_16 fl_X3_35 (by first | exact qat_0 (qput_at _ _ _ _ _) | exact qat_r (qput_at _ _ _ _ _) (by decide) | exact xat_0 (bat_out (hX2 _) hd) | exact lat_0 (bat_out (lput_at _ _ _) (by omega))) (by rfl) rfl ?_
    (first | (simp (disch := omega) only [nI_clamp, pk_mul, nI_add, oi1, up2_ss, up2_n, up2_sn, ur_s, ur_n, Nat.reduceMul, Nat.reduceAdd, Nat.add_zero, hp, h2]) | skip)
    refine xr_iconst (v := nI 1) (n := 20) dX3_readOpening_19 (by decide) rfl ?_
    refine xr_iadd (n := 21) dX3_readOpening_20 rfl ?_
    (first | (simp (disch := omega) only [nI_clamp, pk_mul, nI_add, oi1, up2_ss, up2_n, up2_sn, ur_s, ur_n, Nat.reduceMul, Nat.reduceAdd, Nat.add_zero, hp, h2]) | skip)
    refine xq_put (n := 24) dX3_readOpening_21 fl_X3_35 rfl (by first | exact qat_0 (qput_at _ _ _ _ _) | exact qat_r (qput_at _ _ _ _ _) (by decide) | exact xat_0 (bat_out (hX2 _) hd) | exact lat_0 (bat_out (lput_at _ _ _) (by omega))) (by rfl) (by rfl) (by rfl) rfl ?_
    simp (disch := omega) only [nI_clamp, List.set, qw_0, qw_1, qw_2, qw_3]
    refine xr_aload_n (n := 25) dX3_readOpening_24 rfl rfl ?_
    refine xr_callV (y2 := mX3_takeCell) (As := []) (n := 28) dX3_readOpening_25 lm_X3_80 pm_X3_takeCell pi_X3_takeCell (by first | exact qat_0 (qput_at _ _ _ _ _) | exact qat_r (qput_at _ _ _ _ _) (by decide) | exact xat_0 (bat_out (hX2 _) hd) | exact lat_0 (bat_out (lput_at _ _ _) (by omega))) rfl rfl rfl (by simp [Value.category]) rfl ⟨Nat.le_refl _, Nat.le_refl _⟩ ?_
    refine s_X3_takeCell (hX2 _) hd hn hn2 (up2_ss _ _ _ _) (by omega) (hr_0 hch) ?_
    rw [up2_up2]
    dsimp only [xK, xps]
    refine xq_istore_n 3 (n := 29) dX3_readOpening_28 rfl rfl rfl ?_
    simp only [xst, Nat.beq, List.filter, Bool.not_true, Bool.not_false]
    refine xr_iload_n (n := 30) dX3_readOpening_29 rfl rfl ?_
    refine xr_iconst (v := (-1)) (n := 31) dX3_readOpening_30 (by decide) rfl ?_
    refine xr_icmp_eq (tgt := 50) (n := 34) dX3_readOpening_31 (by decide) rfl (fun h31 => ?_) (fun h31 => ?_)
    · have hB : ¬ (ceF (χ 0) n (a + 1)).1 = true := fun z => by
        rw [if_pos z, i_eq, i_m1, nt _ (by omega)] at h31
        omega
      have hF : stF (χ 0) n a kd = (false, (ceF (χ 0) n (a + 1)).2.1, fun _ => 0) := (if_neg (by omega)).trans ((if_neg (by omega)).trans (if_neg hB))
      refine xr_iconst (v := nI 0) (n := 51) dX3_readOpening_50 (by decide) rfl ?_
      refine xr_ireturn dX3_readOpening_51 rfl (by first | exact b2i_nar | exact nar_1 | exact nar_0) rfl ?_
      have hq9 := hq (by omega) (up2 ρ 3 0 (nI (ceF (χ 0) n (a + 1)).2.1)) ⟨by rw [hF]; exact up2_ss _ _ _ _, fun z => (by rw [hF] at z; cases z), fun _ w hw => up2_n _ _ _ hw⟩
      rw [hF] at hq9
      exact hq9
    · have hB : (ceF (χ 0) n (a + 1)).1 = true := by
        by_cases z : (ceF (χ 0) n (a + 1)).1 = true
        · exact z
        · exact absurd (if_neg z) h31
      rw [if_pos hB]
      have hF : stF (χ 0) n a kd = (true, (ceF (χ 0) n (a + 1)).2.1, tc kd (ceF (χ 0) n (a + 1)).2.2) := (if_neg (by omega)).trans ((if_neg (by omega)).trans ((if_pos hB).trans (if_neg (by omega))))
      refine xr_aload_n (n := 35) dX3_readOpening_34 rfl rfl ?_
      refine xr_get (n := 38) dX3_readOpening_35 fl_X3_22 (by first | exact qat_0 (qput_at _ _ _ _ _) | exact qat_r (qput_at _ _ _ _ _) (by decide) | exact xat_0 (bat_out (hX2 _) hd) | exact lat_0 (bat_out (lput_at _ _ _) (by omega))) (by rfl) rfl ?_
      refine xr_iload_n (n := 39) dX3_readOpening_38 rfl rfl ?_
      refine xr_iload_n (n := 40) dX3_readOpening_39 rfl rfl ?_
      refine xr_aload_n (n := 41) dX3_readOpening_40 rfl rfl ?_
      refine xr_callV (y2 := mX3_innermost) (As := []) (n := 44) dX3_readOpening_41 lm_X3_66 pm_X3_innermost pi_X3_innermost (by first | exact qat_0 (qput_at _ _ _ _ _) | exact qat_r (qput_at _ _ _ _ _) (by decide) | exact xat_0 (bat_out (hX2 _) hd) | exact lat_0 (bat_out (lput_at _ _ _) (by omega))) rfl rfl rfl (by simp [Value.category]) rfl ⟨Nat.le_refl _, Nat.le_refl _⟩ ?_
      refine s_X3_innermost (dp := dp) (by rw [up2_n _ _ _ (by omega)]; exact h2) hdp ?_
      rw [up2_n _ _ _ (by omega)]
      dsimp only [xK, xps]
      refine xr_callV (y2 := mX1_add) (As := [_, _, _]) (n := 47) dX3_readOpening_44 lm_X3_69 pm_X1_add pi_X1_add (by first | exact qat_0 (qput_at _ _ _ _ _) | exact qat_r (qput_at _ _ _ _ _) (by decide) | exact xat_0 (bat_out (hX2 _) hd) | exact lat_0 (bat_out (lput_at _ _ _) (by omega))) rfl rfl rfl (by simp [Value.category]) rfl ⟨Nat.le_refl _, Nat.le_refl _⟩ ?_
      refine s_X1_add_r hde hk hk60 ?_
      dsimp only [xK, xps]
      refine xr_bne (tgt := 52) (n := 50) dX3_readOpening_47 (by decide) rfl (fun h47 => ?_) (fun h47 => ?_)
      · rw [if_pos hk6]
        have hsz : ∀ k1 t1 u1, ladd σ k k1 t1 u1 9 0 = nI (k + 1) := fun k1 t1 u1 => up2_ss _ _ _ _
        refine xr_aload_n (n := 53) dX3_readOpening_52 rfl rfl ?_
        refine xr_dup (n := 54) dX3_readOpening_53 rfl rfl ?_
        refine xr_get (n := 57) dX3_readOpening_54 fl_X3_32 (by first | exact qat_0 (qput_at _ _ _ _ _) | exact qat_r (qput_at _ _ _ _ _) (by decide) | exact xat_0 (bat_out (hX2 _) hd) | exact lat_0 (bat_out (lput_at _ _ _) (by omega))) (by rfl) rfl ?_
        (first | (simp (disch := omega) only [nI_clamp, pk_mul, nI_add, oi1, up2_ss, up2_n, up2_sn, ur_s, ur_n, Nat.reduceMul, Nat.reduceAdd, Nat.add_zero, hp, h2]) | skip)
        refine xr_iconst (v := nI 1) (n := 58) dX3_readOpening_57 (by decide) rfl ?_
        refine xr_iadd (n := 59) dX3_readOpening_58 rfl ?_
        (first | (simp (disch := omega) only [nI_clamp, pk_mul, nI_add, oi1, up2_ss, up2_n, up2_sn, ur_s, ur_n, Nat.reduceMul, Nat.reduceAdd, Nat.add_zero, hp, h2]) | skip)
        refine xq_put (n := 62) dX3_readOpening_59 fl_X3_32 rfl (by first | exact qat_0 (qput_at _ _ _ _ _) | exact qat_r (qput_at _ _ _ _ _) (by decide) | exact xat_0 (bat_out (hX2 _) hd) | exact lat_0 (bat_out (lput_at _ _ _) (by omega))) (by rfl) (by rfl) (by rfl) rfl ?_
        simp (disch := omega) only [nI_clamp, List.set, qw_0, qw_1, qw_2, qw_3]
        refine xr_aload_n (n := 63) dX3_readOpening_62 rfl rfl ?_
        refine xr_get (n := 66) dX3_readOpening_63 fl_X3_9 (by first | exact qat_0 (qput_at _ _ _ _ _) | exact qat_r (qput_at _ _ _ _ _) (by decide) | exact xat_0 (bat_out (hX2 _) hd) | exact lat_0 (bat_out (lput_at _ _ _) (by omega))) (by rfl) rfl ?_
        refine xr_aload_n (n := 67) dX3_readOpening_66 rfl rfl ?_
        refine xr_get (n := 70) dX3_readOpening_67 fl_X3_32 (by first | exact qat_0 (qput_at _ _ _ _ _) | exact qat_r (qput_at _ _ _ _ _) (by decide) | exact xat_0 (bat_out (hX2 _) hd) | exact lat_0 (bat_out (lput_at _ _ _) (by omega))) (by rfl) rfl ?_
        (first | (simp (disch := omega) only [nI_clamp, pk_mul, nI_add, oi1, up2_ss, up2_n, up2_sn, ur_s, ur_n, Nat.reduceMul, Nat.reduceAdd, Nat.add_zero, hp, h2]) | skip)
        refine xr_aload_n (n := 71) dX3_readOpening_70 rfl rfl ?_
        refine xr_get (n := 74) dX3_readOpening_71 fl_X3_22 (by first | exact qat_0 (qput_at _ _ _ _ _) | exact qat_r (qput_at _ _ _ _ _) (by decide) | exact xat_0 (bat_out (hX2 _) hd) | exact lat_0 (bat_out (lput_at _ _ _) (by omega))) (by rfl) rfl ?_
        refine xr_get (n := 77) dX3_readOpening_74 fl_X3_26 (by first | exact qat_0 (qput_at _ _ _ _ _) | exact qat_r (qput_at _ _ _ _ _) (by decide) | exact xat_0 (bat_out (hX2 _) hd) | exact lat_0 (bat_out (lput_at _ _ _) (by omega))) (by rfl) rfl ?_
        rw [hsz]
        refine xr_iconst (v := nI 1) (n := 78) dX3_readOpening_77 (by decide) rfl ?_
        refine xr_isub (n := 79) dX3_readOpening_78 rfl ?_
        rw [pk_sub (by omega), Nat.add_sub_cancel]
        refine xq_iastore (n := 80) dX3_readOpening_79 (by first | exact qat_0 (qput_at _ _ _ _ _) | exact qat_r (qput_at _ _ _ _ _) (by decide) | exact xat_0 (bat_out (hX2 _) hd) | exact lat_0 (bat_out (lput_at _ _ _) (by omega))) (by first | exact vp_in_nI (by omega) (by omega)) rfl ?_
        simp (disch := omega) only [nI_clamp, List.set, qw_0, qw_1, qw_2, qw_3]
        refine xr_aload_n (n := 81) dX3_readOpening_80 rfl rfl ?_
        refine xr_get (n := 84) dX3_readOpening_81 fl_X3_15 (by first | exact qat_0 (qput_at _ _ _ _ _) | exact qat_r (qput_at _ _ _ _ _) (by decide) | exact xat_0 (bat_out (hX2 _) hd) | exact lat_0 (bat_out (lput_at _ _ _) (by omega))) (by rfl) rfl ?_
        refine xr_aload_n (n := 85) dX3_readOpening_84 rfl rfl ?_
        refine xr_get (n := 88) dX3_readOpening_85 fl_X3_32 (by first | exact qat_0 (qput_at _ _ _ _ _) | exact qat_r (qput_at _ _ _ _ _) (by decide) | exact xat_0 (bat_out (hX2 _) hd) | exact lat_0 (bat_out (lput_at _ _ _) (by omega))) (by rfl) rfl ?_
        (first | (simp (disch := omega) only [nI_clamp, pk_mul, nI_add, oi1, up2_ss, up2_n, up2_sn, ur_s, ur_n, Nat.reduceMul, Nat.reduceAdd, Nat.add_zero, hp, h2]) | skip)
        refine xr_iload_n (n := 89) dX3_readOpening_88 rfl rfl ?_
        refine xq_iastore (n := 90) dX3_readOpening_89 (by first | exact qat_0 (qput_at _ _ _ _ _) | exact qat_r (qput_at _ _ _ _ _) (by decide) | exact xat_0 (bat_out (hX2 _) hd) | exact lat_0 (bat_out (lput_at _ _ _) (by omega))) (by first | exact vp_in_nI (by omega) (by omega)) rfl ?_
        simp (disch := omega) only [nI_clamp, List.set, qw_0, qw_1, qw_2, qw_3]
        refine xr_iconst (v := nI 1) (n := 91) dX3_readOpening_90 (by decide) rfl ?_
        refine xr_ireturn dX3_readOpening_91 rfl (by first | exact b2i_nar | exact nar_1 | exact nar_0) rfl ?_
        have hq9 := hq (by omega) (up2 (up2 (up2 (up2 ρ 3 0 (nI (ceF (χ 0) n (a + 1)).2.1)) 2 0 (nI (dp + 1))) 0 (dp + 1) (nI k)) 1 (dp + 1) (nI cl)) ⟨by rw [hF]; simp (disch := omega) only [up2_n, up2_ss], fun _ => ⟨by rw [up2_n _ _ _ (by omega), up2_s, up2_n _ _ _ (by omega), up2_n _ _ _ (by omega)], by rw [up2_s, up2_n _ _ _ (by omega), up2_n _ _ _ (by omega), up2_n _ _ _ (by omega)], by simp (disch := omega) only [up2_n, up2_ss]⟩, fun z => by rw [hF] at z; cases z⟩
        rw [hF] at hq9
        exact hq9
      · refine xr_iconst (v := nI 0) (n := 51) dX3_readOpening_50 (by decide) rfl ?_
        refine xr_ireturn dX3_readOpening_51 rfl (by first | exact b2i_nar | exact nar_1 | exact nar_0) rfl ?_
        exact absurd (show k < 60 from hk6) h47
  · refine xr_iconst (v := nI 0) (n := 13) dX3_readOpening_12 (by decide) rfl ?_
    refine xr_ireturn dX3_readOpening_13 rfl (by first | exact b2i_nar | exact nar_1 | exact nar_0) rfl ?_
    exact hq0 (by rw [nt _ (by omega), nt _ (by omega), nt _ (by omega)] at h9; omega)
