/-! the class: going on behind a part -/
theorem s_X1_endFirstPart_r {G : xG} {d : Nat} {f : Nat → xC} {r : Nat × Nat} {Q : Option Value → xM → Prop} {q x e n s : Nat} {ρ σ : xS} (hde : e + 10 ≤ q ∨ q + 3 ≤ e) (hn : σ 9 0 = nI n) (hn2 : n ≤ 60) (hs : s < n) (hq : Q none (qput (lput f e (up2 σ 6 s (nI n))) q x e ρ, r)) : xMet G (d + 2) mX1_endFirstPart [.ref e, .int (nI s)] (qput (lput f e σ) q x e ρ, r) r Q := by
  have h := s_X1_endFirstPart (G := G) (d := d) (r := r) (f := qput f q x e ρ) (a := e) (σ := σ) (s := s) (Q := Q) hn hn2 hs (by
    rw [← rmem_c hde]
    exact hq)
  rw [← rmem_c hde] at h
  exact h
theorem s_X1_close_r {G : xG} {d : Nat} {f : Nat → xC} {r : Nat × Nat} {Q : Option Value → xM → Prop} {q x e n s kd : Nat} {ρ σ : xS} (hde : e + 10 ≤ q ∨ q + 3 ≤ e) (hn : σ 9 0 = nI n) (hn2 : n ≤ 60) (hs : s < n) (h0 : σ 0 s = nI kd) (hk : kd ≤ 5) (hq : Q none (qput (lput f e (if kd = 4 then up2 (up2 σ 7 s (nI n)) 6 s (nI n) else up2 σ 7 s (nI n))) q x e ρ, r)) : xMet G (d + 2) mX1_close [.ref e, .int (nI s)] (qput (lput f e σ) q x e ρ, r) r Q := by
  have h := s_X1_close (G := G) (d := d) (r := r) (f := qput f q x e ρ) (a := e) (σ := σ) (s := s) (kd := kd) (Q := Q) hn hn2 hs h0 hk (by
    rw [← rmem_c hde]
    exact hq)
  rw [← rmem_c hde] at h
  exact h
theorem s_X3_goOn {G : xG} {d : Nat} {f : Nat → xC} {r : Nat × Nat} {Q : Option Value → xM → Prop} {q x e a k dp s kd : Nat} {ρ σ : xS} {c : Int32} (hde : e + 10 ≤ q ∨ q + 3 ≤ e) (hp : ρ 3 0 = nI a) (h2 : ρ 2 0 = nI dp) (hdp : dp ≤ 5) (hdp1 : 1 ≤ dp) (ho : ρ 0 dp = nI s) (hs : s < k) (hk : σ 9 0 = nI k) (hk6 : k ≤ 60) (h0 : σ 0 s = nI kd) (hkd : kd ≤ 5) (hq1 : c = nI 58 → Q none (qput (lput f e (up2 σ 6 s (nI k))) q x e (up2 (up2 ρ 3 0 (nI (a + 1))) 1 dp (nI 46)), r)) (hq : ¬ c = nI 58 → Q none (qput (lput f e (if kd = 4 then up2 (up2 σ 7 s (nI k)) 6 s (nI k) else up2 σ 7 s (nI k))) q x e (up2 (up2 ρ 3 0 (nI (a + 1))) 2 0 (nI (dp - 1))), r)) : xMet G (d + 4) mX3_goOn [.ref q, .int c] (qput (lput f e σ) q x e ρ, r) r Q := by
  refine xMet_0 (by decide +kernel) rfl (Nat.le_of_ble_eq_true rfl) ?_
  show xX G (d + 4) mX3_goOn r r (xΦ G r r Q) 0 [(0, .ref q), (1, .int c)] [] (qput (lput f e σ) q x e ρ, r)
  refine xr_aload_n (n := 1) dX3_goOn_0 rfl rfl ?_
  refine xr_dup (n := 2) dX3_goOn_1 rfl rfl ?_
  refine xr_get (n := 5) dX3_goOn_2 fl_X3_35 (by first | exact qat_0 (qput_at _ _ _ _ _) | exact qat_r (qput_at _ _ _ _ _) (by decide) | exact lat_0 (bat_out (lput_at _ _ _) (by omega))) (by rfl) rfl ?_
  (first | (simp (disch := omega) only [nI_clamp, pk_mul, nI_add, oi1, up2_ss, up2_n, up2_sn, ur_s, ur_n, Nat.reduceMul, Nat.reduceAdd, Nat.add_zero, hp, h2]) | skip)
  refine xr_iconst (v := nI 1) (n := 6) dX3_goOn_5 (by decide) rfl ?_
  refine xr_iadd (n := 7) dX3_goOn_6 rfl ?_
  (first | (simp (disch := omega) only [nI_clamp, pk_mul, nI_add, oi1, up2_ss, up2_n, up2_sn, ur_s, ur_n, Nat.reduceMul, Nat.reduceAdd, Nat.add_zero, hp, h2]) | skip)
  refine xq_put (n := 10) dX3_goOn_7 fl_X3_35 rfl (by first | exact qat_0 (qput_at _ _ _ _ _) | exact qat_r (qput_at _ _ _ _ _) (by decide) | exact lat_0 (bat_out (lput_at _ _ _) (by omega))) (by rfl) (by rfl) (by rfl) rfl ?_
  simp (disch := omega) only [nI_clamp, List.set, qw_0, qw_1, qw_2, qw_3]
  refine xr_aload_n (n := 11) dX3_goOn_10 rfl rfl ?_
  refine xr_get (n := 14) dX3_goOn_11 fl_X3_32 (by first | exact qat_0 (qput_at _ _ _ _ _) | exact qat_r (qput_at _ _ _ _ _) (by decide) | exact lat_0 (bat_out (lput_at _ _ _) (by omega))) (by rfl) rfl ?_
  (first | (simp (disch := omega) only [nI_clamp, pk_mul, nI_add, oi1, up2_ss, up2_n, up2_sn, ur_s, ur_n, Nat.reduceMul, Nat.reduceAdd, Nat.add_zero, hp, h2]) | skip)
  refine xr_iconst (v := nI 1) (n := 15) dX3_goOn_14 (by decide) rfl ?_
  refine xr_iconst (v := nI 5) (n := 16) dX3_goOn_15 (by decide) rfl ?_
  refine xr_callS (y2 := mX7_isWithin) (As := [_, _, _]) (n := 19) dX3_goOn_16 lm_X3_93 pm_X7_isWithin kp_static_yX7_isWithin rfl rfl (by simp [Value.category]) rfl ⟨Nat.le_refl _, Nat.le_refl _⟩ ?_
  refine s_X7_isWithin ?_
  dsimp only [xK, xps]
  refine xr_bne (tgt := 23) (n := 22) dX3_goOn_19 (by decide) rfl (fun h19 => ?_) (fun h19 => ?_)
  · refine xr_iload_n (n := 24) dX3_goOn_23 rfl rfl ?_
    refine xr_bipush (v := nI 58) (n := 26) dX3_goOn_24 (by decide) rfl ?_
    refine xr_icmp_ne (tgt := 54) (n := 29) dX3_goOn_26 (by decide) rfl (fun h26 => ?_) (fun h26 => ?_)
    · refine xr_aload_n (n := 55) dX3_goOn_54 rfl rfl ?_
      refine xr_get (n := 58) dX3_goOn_55 fl_X3_22 (by first | exact qat_0 (qput_at _ _ _ _ _) | exact qat_r (qput_at _ _ _ _ _) (by decide) | exact lat_0 (bat_out (lput_at _ _ _) (by omega))) (by rfl) rfl ?_
      refine xr_aload_n (n := 59) dX3_goOn_58 rfl rfl ?_
      refine xr_callV (y2 := mX3_innermost) (As := []) (n := 62) dX3_goOn_59 lm_X3_66 pm_X3_innermost pi_X3_innermost (by first | exact qat_0 (qput_at _ _ _ _ _) | exact qat_r (qput_at _ _ _ _ _) (by decide) | exact lat_0 (bat_out (lput_at _ _ _) (by omega))) rfl rfl rfl (by simp [Value.category]) rfl ⟨Nat.le_refl _, Nat.le_refl _⟩ ?_
      refine s_X3_innermost (dp := dp) (by rw [up2_n _ _ _ (by omega)]; exact h2) hdp ?_
      rw [up2_n _ _ _ (by omega), ho]
      dsimp only [xK, xps]
      refine xr_callV (y2 := mX1_close) (As := [_]) (n := 65) dX3_goOn_62 lm_X3_99 pm_X1_close pi_X1_close (by first | exact qat_0 (qput_at _ _ _ _ _) | exact qat_r (qput_at _ _ _ _ _) (by decide) | exact lat_0 (bat_out (lput_at _ _ _) (by omega))) rfl rfl rfl (by simp [Value.category]) rfl ⟨Nat.le_refl _, Nat.le_refl _⟩ ?_
      refine s_X1_close_r hde hk hk6 hs h0 hkd ?_
      dsimp only [xK, xps]
      refine xr_aload_n (n := 66) dX3_goOn_65 rfl rfl ?_
      refine xr_dup (n := 67) dX3_goOn_66 rfl rfl ?_
      refine xr_get (n := 70) dX3_goOn_67 fl_X3_32 (by first | exact qat_0 (qput_at _ _ _ _ _) | exact qat_r (qput_at _ _ _ _ _) (by decide) | exact lat_0 (bat_out (lput_at _ _ _) (by omega))) (by rfl) rfl ?_
      (first | (simp (disch := omega) only [nI_clamp, pk_mul, nI_add, oi1, up2_ss, up2_n, up2_sn, ur_s, ur_n, Nat.reduceMul, Nat.reduceAdd, Nat.add_zero, hp, h2]) | skip)
      refine xr_iconst (v := nI 1) (n := 71) dX3_goOn_70 (by decide) rfl ?_
      refine xr_isub (n := 72) dX3_goOn_71 rfl ?_
      (first | (simp (disch := omega) only [nI_clamp, pk_mul, nI_add, oi1, up2_ss, up2_n, up2_sn, ur_s, ur_n, Nat.reduceMul, Nat.reduceAdd, Nat.add_zero, hp, h2]) | skip)
      refine xq_put (n := 75) dX3_goOn_72 fl_X3_32 rfl (by first | exact qat_0 (qput_at _ _ _ _ _) | exact qat_r (qput_at _ _ _ _ _) (by decide) | exact lat_0 (bat_out (lput_at _ _ _) (by omega))) (by rfl) (by rfl) (by rfl) rfl ?_
      simp (disch := omega) only [nI_clamp, List.set, qw_0, qw_1, qw_2, qw_3]
      refine xr_return dX3_goOn_75 rfl rfl ?_
      first | exact hq1 (by first | assumption | exact Decidable.not_not.mp (by assumption)) | exact hq (by first | assumption | exact fun z => absurd z (by assumption)) | (rw [pk_sub hdp1]; exact hq (by first | assumption | exact fun z => absurd z (by assumption)))
    · refine xr_aload_n (n := 30) dX3_goOn_29 rfl rfl ?_
      refine xr_get (n := 33) dX3_goOn_30 fl_X3_22 (by first | exact qat_0 (qput_at _ _ _ _ _) | exact qat_r (qput_at _ _ _ _ _) (by decide) | exact lat_0 (bat_out (lput_at _ _ _) (by omega))) (by rfl) rfl ?_
      refine xr_aload_n (n := 34) dX3_goOn_33 rfl rfl ?_
      refine xr_callV (y2 := mX3_innermost) (As := []) (n := 37) dX3_goOn_34 lm_X3_66 pm_X3_innermost pi_X3_innermost (by first | exact qat_0 (qput_at _ _ _ _ _) | exact qat_r (qput_at _ _ _ _ _) (by decide) | exact lat_0 (bat_out (lput_at _ _ _) (by omega))) rfl rfl rfl (by simp [Value.category]) rfl ⟨Nat.le_refl _, Nat.le_refl _⟩ ?_
      refine s_X3_innermost (dp := dp) (by rw [up2_n _ _ _ (by omega)]; exact h2) hdp ?_
      rw [up2_n _ _ _ (by omega), ho]
      dsimp only [xK, xps]
      refine xr_callV (y2 := mX1_endFirstPart) (As := [_]) (n := 40) dX3_goOn_37 lm_X3_96 pm_X1_endFirstPart pi_X1_endFirstPart (by first | exact qat_0 (qput_at _ _ _ _ _) | exact qat_r (qput_at _ _ _ _ _) (by decide) | exact lat_0 (bat_out (lput_at _ _ _) (by omega))) rfl rfl rfl (by simp [Value.category]) rfl ⟨Nat.le_refl _, Nat.le_refl _⟩ ?_
      refine s_X1_endFirstPart_r hde hk hk6 hs ?_
      dsimp only [xK, xps]
      refine xr_aload_n (n := 41) dX3_goOn_40 rfl rfl ?_
      refine xr_get (n := 44) dX3_goOn_41 fl_X3_15 (by first | exact qat_0 (qput_at _ _ _ _ _) | exact qat_r (qput_at _ _ _ _ _) (by decide) | exact lat_0 (bat_out (lput_at _ _ _) (by omega))) (by rfl) rfl ?_
      refine xr_aload_n (n := 45) dX3_goOn_44 rfl rfl ?_
      refine xr_get (n := 48) dX3_goOn_45 fl_X3_32 (by first | exact qat_0 (qput_at _ _ _ _ _) | exact qat_r (qput_at _ _ _ _ _) (by decide) | exact lat_0 (bat_out (lput_at _ _ _) (by omega))) (by rfl) rfl ?_
      (first | (simp (disch := omega) only [nI_clamp, pk_mul, nI_add, oi1, up2_ss, up2_n, up2_sn, ur_s, ur_n, Nat.reduceMul, Nat.reduceAdd, Nat.add_zero, hp, h2]) | skip)
      refine xr_bipush (v := nI 46) (n := 50) dX3_goOn_48 (by decide) rfl ?_
      refine xq_iastore (n := 51) dX3_goOn_50 (by first | exact qat_0 (qput_at _ _ _ _ _) | exact qat_r (qput_at _ _ _ _ _) (by decide) | exact lat_0 (bat_out (lput_at _ _ _) (by omega))) (by first | exact vp_in_nI (by omega) (by omega)) rfl ?_
      simp (disch := omega) only [nI_clamp, List.set, qw_0, qw_1, qw_2, qw_3]
      refine xr_goto (n := 75) dX3_goOn_51 (by decide) ?_
      refine xr_return dX3_goOn_75 rfl rfl ?_
      first | exact hq1 (by first | assumption | exact Decidable.not_not.mp (by assumption)) | exact hq (by first | assumption | exact fun z => absurd z (by assumption)) | (rw [pk_sub hdp1]; exact hq (by first | assumption | exact fun z => absurd z (by assumption)))
  · refine xr_return dX3_goOn_22 rfl rfl ?_
    exact absurd (show (nI 1).toInt ≤ (nI dp).toInt ∧ (nI dp).toInt ≤ (nI 5).toInt from by rw [nt _ (by omega), nt _ (by omega), nt _ (by omega)]; omega) h19
