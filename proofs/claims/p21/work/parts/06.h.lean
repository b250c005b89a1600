/-! the class: a listing is changed -/
def ladd (σ : xS) (n : Nat) (k t u : Int32) : xS := up2 (up2 (up2 (up2 (up2 (up2 (up2 (up2 (up2 σ 0 n k) 1 n t) 2 n (nI 0)) 3 n (nI 0)) 4 n (nI 0)) 5 n u) 6 n (nI (n + 1))) 7 n (nI (n + 1))) 9 0 (nI (n + 1))
theorem w_59 {n : Nat} (h : n ≤ 60) : ((nI 0).toInt ≤ (nI n).toInt ∧ (nI n).toInt ≤ (nI 59).toInt) ↔ n < 60 := by
  rw [nt _ (by omega), nt _ (by omega), nt _ (by omega)]
  omega
def LsQ (σ : xS) (n : Nat) (P : Nat → Nat → Nat) : Prop := σ 9 0 = nI n ∧ n ≤ 60 ∧ ∀ s, s < n → LsS σ P s
theorem s_X1_add {G : xG} {d : Nat} {f : Nat → xC} {r : Nat × Nat} {Q : Option Value → xM → Prop} {a n : Nat} {σ : xS} {k t u : Int32} (hn : σ 9 0 = nI n) (hn2 : n ≤ 60) (hq : Q (some (.int (b2i (n < 60)))) (lput f a (if n < 60 then ladd σ n k t u else σ), r)) : xMet G (d + 1) mX1_add [.ref a, .int k, .int t, .int u] (lput f a σ, r) r Q := by
  refine xMet_0 (by decide +kernel) rfl (Nat.le_of_ble_eq_true rfl) ?_
  show xX G (d + 1) mX1_add r r (xΦ G r r Q) 0 [(0, .ref a), (1, .int k), (2, .int t), (3, .int u)] [] (lput f a σ, r)
  refine xr_aload_n (n := 1) dX1_add_0 rfl rfl ?_
  refine xr_get (n := 4) dX1_add_1 fl_X1_39 (by first | exact lat_0 (lput_at _ _ _) | exact lat_r (lput_at _ _ _) (by decide)) (by rfl) rfl ?_
  (first | (simp (disch := omega) only [nI_clamp, pk_mul, nI_add, oi1, up2_ss, up2_n, up2_sn, ur_s, ur_n, Nat.reduceMul, Nat.reduceAdd, Nat.add_zero, hn]) | skip)
  refine xr_iconst (v := nI 0) (n := 5) dX1_add_4 (by decide) rfl ?_
  refine xr_bipush (v := nI 59) (n := 7) dX1_add_5 (by decide) rfl ?_
  refine xr_callS (y2 := mX7_isWithin) (As := [_, _, _]) (n := 10) dX1_add_7 lm_X1_43 pm_X7_isWithin kp_static_yX7_isWithin rfl rfl (by simp [Value.category]) rfl ⟨Nat.le_refl _, Nat.le_refl _⟩ ?_
  refine s_X7_isWithin ?_
  dsimp only [xK, xps]
  rw [b2i_iff (w_59 hn2)]
  refine xr_bne (tgt := 15) (n := 13) dX1_add_10 (by decide) rfl (fun h10 => ?_) (fun h10 => ?_)
  · refine xr_aload_n (n := 16) dX1_add_15 rfl rfl ?_
    refine xr_get (n := 19) dX1_add_16 fl_X1_9 (by first | exact lat_0 (lput_at _ _ _) | exact lat_r (lput_at _ _ _) (by decide)) (by rfl) rfl ?_
    refine xr_aload_n (n := 20) dX1_add_19 rfl rfl ?_
    refine xr_get (n := 23) dX1_add_20 fl_X1_39 (by first | exact lat_0 (lput_at _ _ _) | exact lat_r (lput_at _ _ _) (by decide)) (by rfl) rfl ?_
    (first | (simp (disch := omega) only [nI_clamp, pk_mul, nI_add, oi1, up2_ss, up2_n, up2_sn, ur_s, ur_n, Nat.reduceMul, Nat.reduceAdd, Nat.add_zero, hn]) | skip)
    refine xr_iload_n (n := 24) dX1_add_23 rfl rfl ?_
    refine xq_iastore (n := 25) dX1_add_24 (by first | exact lat_0 (lput_at _ _ _) | exact lat_r (lput_at _ _ _) (by decide)) (by first | exact vp_in_nI (by omega) (by omega)) rfl ?_
    simp (disch := omega) only [nI_clamp, List.set, lw_0, lw_1, lw_2, lw_3, lw_4, lw_5, lw_6, lw_7, lw_8, lw_9]
    refine xr_aload_n (n := 26) dX1_add_25 rfl rfl ?_
    refine xr_get (n := 29) dX1_add_26 fl_X1_15 (by first | exact lat_0 (lput_at _ _ _) | exact lat_r (lput_at _ _ _) (by decide)) (by rfl) rfl ?_
    refine xr_aload_n (n := 30) dX1_add_29 rfl rfl ?_
    refine xr_get (n := 33) dX1_add_30 fl_X1_39 (by first | exact lat_0 (lput_at _ _ _) | exact lat_r (lput_at _ _ _) (by decide)) (by rfl) rfl ?_
    (first | (simp (disch := omega) only [nI_clamp, pk_mul, nI_add, oi1, up2_ss, up2_n, up2_sn, ur_s, ur_n, Nat.reduceMul, Nat.reduceAdd, Nat.add_zero, hn]) | skip)
    refine xr_iload_n (n := 34) dX1_add_33 rfl rfl ?_
    refine xq_iastore (n := 35) dX1_add_34 (by first | exact lat_0 (lput_at _ _ _) | exact lat_r (lput_at _ _ _) (by decide)) (by first | exact vp_in_nI (by omega) (by omega)) rfl ?_
    simp (disch := omega) only [nI_clamp, List.set, lw_0, lw_1, lw_2, lw_3, lw_4, lw_5, lw_6, lw_7, lw_8, lw_9]
    refine xr_aload_n (n := 36) dX1_add_35 rfl rfl ?_
    refine xr_get (n := 39) dX1_add_36 fl_X1_18 (by first | exact lat_0 (lput_at _ _ _) | exact lat_r (lput_at _ _ _) (by decide)) (by rfl) rfl ?_
    refine xr_aload_n (n := 40) dX1_add_39 rfl rfl ?_
    refine xr_get (n := 43) dX1_add_40 fl_X1_39 (by first | exact lat_0 (lput_at _ _ _) | exact lat_r (lput_at _ _ _) (by decide)) (by rfl) rfl ?_
    (first | (simp (disch := omega) only [nI_clamp, pk_mul, nI_add, oi1, up2_ss, up2_n, up2_sn, ur_s, ur_n, Nat.reduceMul, Nat.reduceAdd, Nat.add_zero, hn]) | skip)
    refine xr_iconst (v := nI 0) (n := 44) dX1_add_43 (by decide) rfl ?_
    refine xq_iastore (n := 45) dX1_add_44 (by first | exact lat_0 (lput_at _ _ _) | exact lat_r (lput_at _ _ _) (by decide)) (by first | exact vp_in_nI (by omega) (by omega)) rfl ?_
    simp (disch := omega) only [nI_clamp, List.set, lw_0, lw_1, lw_2, lw_3, lw_4, lw_5, lw_6, lw_7, lw_8, lw_9]
    refine xr_aload_n (n := 46) dX1_add_45 rfl rfl ?_
    refine xr_get (n := 49) dX1_add_46 fl_X1_21 (by first | exact lat_0 (lput_at _ _ _) | exact lat_r (lput_at _ _ _) (by decide)) (by rfl) rfl ?_
    refine xr_aload_n (n := 50) dX1_add_49 rfl rfl ?_
    refine xr_get (n := 53) dX1_add_50 fl_X1_39 (by first | exact lat_0 (lput_at _ _ _) | exact lat_r (lput_at _ _ _) (by decide)) (by rfl) rfl ?_
    (first | (simp (disch := omega) only [nI_clamp, pk_mul, nI_add, oi1, up2_ss, up2_n, up2_sn, ur_s, ur_n, Nat.reduceMul, Nat.reduceAdd, Nat.add_zero, hn]) | skip)
    refine xr_iconst (v := nI 0) (n := 54) dX1_add_53 (by decide) rfl ?_
    refine xq_iastore (n := 55) dX1_add_54 (by first | exact lat_0 (lput_at _ _ _) | exact lat_r (lput_at _ _ _) (by decide)) (by first | exact vp_in_nI (by omega) (by omega)) rfl ?_
    simp (disch := omega) only [nI_clamp, List.set, lw_0, lw_1, lw_2, lw_3, lw_4, lw_5, lw_6, lw_7, lw_8, lw_9]
    refine xr_aload_n (n := 56) dX1_add_55 rfl rfl ?_
    refine xr_get (n := 59) dX1_add_56 fl_X1_24 (by first | exact lat_0 (lput_at _ _ _) | exact lat_r (lput_at _ _ _) (by decide)) (by rfl) rfl ?_
    refine xr_aload_n (n := 60) dX1_add_59 rfl rfl ?_
    refine xr_get (n := 63) dX1_add_60 fl_X1_39 (by first | exact lat_0 (lput_at _ _ _) | exact lat_r (lput_at _ _ _) (by decide)) (by rfl) rfl ?_
    (first | (simp (disch := omega) only [nI_clamp, pk_mul, nI_add, oi1, up2_ss, up2_n, up2_sn, ur_s, ur_n, Nat.reduceMul, Nat.reduceAdd, Nat.add_zero, hn]) | skip)
    refine xr_iconst (v := nI 0) (n := 64) dX1_add_63 (by decide) rfl ?_
    refine xq_iastore (n := 65) dX1_add_64 (by first | exact lat_0 (lput_at _ _ _) | exact lat_r (lput_at _ _ _) (by decide)) (by first | exact vp_in_nI (by omega) (by omega)) rfl ?_
    simp (disch := omega) only [nI_clamp, List.set, lw_0, lw_1, lw_2, lw_3, lw_4, lw_5, lw_6, lw_7, lw_8, lw_9]
    refine xr_aload_n (n := 66) dX1_add_65 rfl rfl ?_
    refine xr_get (n := 69) dX1_add_66 fl_X1_27 (by first | exact lat_0 (lput_at _ _ _) | exact lat_r (lput_at _ _ _) (by decide)) (by rfl) rfl ?_
    refine xr_aload_n (n := 70) dX1_add_69 rfl rfl ?_
    refine xr_get (n := 73) dX1_add_70 fl_X1_39 (by first | exact lat_0 (lput_at _ _ _) | exact lat_r (lput_at _ _ _) (by decide)) (by rfl) rfl ?_
    (first | (simp (disch := omega) only [nI_clamp, pk_mul, nI_add, oi1, up2_ss, up2_n, up2_sn, ur_s, ur_n, Nat.reduceMul, Nat.reduceAdd, Nat.add_zero, hn]) | skip)
    refine xr_iload_n (n := 74) dX1_add_73 rfl rfl ?_
    refine xq_iastore (n := 75) dX1_add_74 (by first | exact lat_0 (lput_at _ _ _) | exact lat_r (lput_at _ _ _) (by decide)) (by first | exact vp_in_nI (by omega) (by omega)) rfl ?_
    simp (disch := omega) only [nI_clamp, List.set, lw_0, lw_1, lw_2, lw_3, lw_4, lw_5, lw_6, lw_7, lw_8, lw_9]
    refine xr_aload_n (n := 76) dX1_add_75 rfl rfl ?_
    refine xr_get (n := 79) dX1_add_76 fl_X1_30 (by first | exact lat_0 (lput_at _ _ _) | exact lat_r (lput_at _ _ _) (by decide)) (by rfl) rfl ?_
    refine xr_aload_n (n := 80) dX1_add_79 rfl rfl ?_
    refine xr_get (n := 83) dX1_add_80 fl_X1_39 (by first | exact lat_0 (lput_at _ _ _) | exact lat_r (lput_at _ _ _) (by decide)) (by rfl) rfl ?_
    (first | (simp (disch := omega) only [nI_clamp, pk_mul, nI_add, oi1, up2_ss, up2_n, up2_sn, ur_s, ur_n, Nat.reduceMul, Nat.reduceAdd, Nat.add_zero, hn]) | skip)
    refine xr_aload_n (n := 84) dX1_add_83 rfl rfl ?_
    refine xr_get (n := 87) dX1_add_84 fl_X1_39 (by first | exact lat_0 (lput_at _ _ _) | exact lat_r (lput_at _ _ _) (by decide)) (by rfl) rfl ?_
    (first | (simp (disch := omega) only [nI_clamp, pk_mul, nI_add, oi1, up2_ss, up2_n, up2_sn, ur_s, ur_n, Nat.reduceMul, Nat.reduceAdd, Nat.add_zero, hn]) | skip)
    refine xr_iconst (v := nI 1) (n := 88) dX1_add_87 (by decide) rfl ?_
    refine xr_iadd (n := 89) dX1_add_88 rfl ?_
    (first | (simp (disch := omega) only [nI_clamp, pk_mul, nI_add, oi1, up2_ss, up2_n, up2_sn, ur_s, ur_n, Nat.reduceMul, Nat.reduceAdd, Nat.add_zero, hn]) | skip)
    refine xq_iastore (n := 90) dX1_add_89 (by first | exact lat_0 (lput_at _ _ _) | exact lat_r (lput_at _ _ _) (by decide)) (by first | exact vp_in_nI (by omega) (by omega)) rfl ?_
    simp (disch := omega) only [nI_clamp, List.set, lw_0, lw_1, lw_2, lw_3, lw_4, lw_5, lw_6, lw_7, lw_8, lw_9]
    refine xr_aload_n (n := 91) dX1_add_90 rfl rfl ?_
    refine xr_get (n := 94) dX1_add_91 fl_X1_33 (by first | exact lat_0 (lput_at _ _ _) | exact lat_r (lput_at _ _ _) (by decide)) (by rfl) rfl ?_
    refine xr_aload_n (n := 95) dX1_add_94 rfl rfl ?_
    refine xr_get (n := 98) dX1_add_95 fl_X1_39 (by first | exact lat_0 (lput_at _ _ _) | exact lat_r (lput_at _ _ _) (by decide)) (by rfl) rfl ?_
    (first | (simp (disch := omega) only [nI_clamp, pk_mul, nI_add, oi1, up2_ss, up2_n, up2_sn, ur_s, ur_n, Nat.reduceMul, Nat.reduceAdd, Nat.add_zero, hn]) | skip)
    refine xr_aload_n (n := 99) dX1_add_98 rfl rfl ?_
    refine xr_get (n := 102) dX1_add_99 fl_X1_39 (by first | exact lat_0 (lput_at _ _ _) | exact lat_r (lput_at _ _ _) (by decide)) (by rfl) rfl ?_
    (first | (simp (disch := omega) only [nI_clamp, pk_mul, nI_add, oi1, up2_ss, up2_n, up2_sn, ur_s, ur_n, Nat.reduceMul, Nat.reduceAdd, Nat.add_zero, hn]) | skip)
    refine xr_iconst (v := nI 1) (n := 103) dX1_add_102 (by decide) rfl ?_
    refine xr_iadd (n := 104) dX1_add_103 rfl ?_
    (first | (simp (disch := omega) only [nI_clamp, pk_mul, nI_add, oi1, up2_ss, up2_n, up2_sn, ur_s, ur_n, Nat.reduceMul, Nat.reduceAdd, Nat.add_zero, hn]) | skip)
    refine xq_iastore (n := 105) dX1_add_104 (by first | exact lat_0 (lput_at _ _ _) | exact lat_r (lput_at _ _ _) (by decide)) (by first | exact vp_in_nI (by omega) (by omega)) rfl ?_
    simp (disch := omega) only [nI_clamp, List.set, lw_0, lw_1, lw_2, lw_3, lw_4, lw_5, lw_6, lw_7, lw_8, lw_9]
    refine xr_aload_n (n := 106) dX1_add_105 rfl rfl ?_
    refine xr_dup (n := 107) dX1_add_106 rfl rfl ?_
    refine xr_get (n := 110) dX1_add_107 fl_X1_39 (by first | exact lat_0 (lput_at _ _ _) | exact lat_r (lput_at _ _ _) (by decide)) (by rfl) rfl ?_
    (first | (simp (disch := omega) only [nI_clamp, pk_mul, nI_add, oi1, up2_ss, up2_n, up2_sn, ur_s, ur_n, Nat.reduceMul, Nat.reduceAdd, Nat.add_zero, hn]) | skip)
    refine xr_iconst (v := nI 1) (n := 111) dX1_add_110 (by decide) rfl ?_
    refine xr_iadd (n := 112) dX1_add_111 rfl ?_
    (first | (simp (disch := omega) only [nI_clamp, pk_mul, nI_add, oi1, up2_ss, up2_n, up2_sn, ur_s, ur_n, Nat.reduceMul, Nat.reduceAdd, Nat.add_zero, hn]) | skip)
    refine xq_put (n := 115) dX1_add_112 fl_X1_39 rfl (by first | exact lat_0 (lput_at _ _ _) | exact lat_r (lput_at _ _ _) (by decide)) (by rfl) (by rfl) (by rfl) rfl ?_
    simp (disch := omega) only [nI_clamp, List.set, lw_0, lw_1, lw_2, lw_3, lw_4, lw_5, lw_6, lw_7, lw_8, lw_9]
    refine xr_iconst (v := nI 1) (n := 116) dX1_add_115 (by decide) rfl ?_
    refine xr_ireturn dX1_add_116 rfl (by first | exact b2i_nar | exact nar_1 | exact nar_0) rfl ?_
    rw [b2i_t h10, if_pos h10] at hq
    exact hq
  · refine xr_iconst (v := nI 0) (n := 14) dX1_add_13 (by decide) rfl ?_
    refine xr_ireturn dX1_add_14 rfl (by first | exact b2i_nar | exact nar_1 | exact nar_0) rfl ?_
    rw [b2i_f h10, if_neg h10] at hq
    exact hq

theorem s_X1_setTerms {G : xG} {d : Nat} {f : Nat → xC} {r : Nat × Nat} {Q : Option Value → xM → Prop} {a n : Nat} {σ : xS} {l p t : Int32} (hn : σ 9 0 = nI (n + 1)) (hn2 : n + 1 ≤ 60) (hq : Q none (lput f a (up2 (up2 (up2 σ 2 n l) 3 n p) 4 n t), r)) : xMet G (d + 2) mX1_setTerms [.ref a, .int l, .int p, .int t] (lput f a σ, r) r Q := by
  refine xMet_0 (by decide +kernel) rfl (Nat.le_of_ble_eq_true rfl) ?_
  show xX G (d + 2) mX1_setTerms r r (xΦ G r r Q) 0 [(0, .ref a), (1, .int l), (2, .int p), (3, .int t)] [] (lput f a σ, r)
  refine xr_aload_n (n := 1) dX1_setTerms_0 rfl rfl ?_
  refine xr_get (n := 4) dX1_setTerms_1 fl_X1_39 (by first | exact lat_0 (lput_at _ _ _) | exact lat_r (lput_at _ _ _) (by decide)) (by rfl) rfl ?_
  (first | (simp (disch := omega) only [nI_clamp, pk_mul, nI_add, oi1, up2_ss, up2_n, up2_sn, ur_s, ur_n, Nat.reduceMul, Nat.reduceAdd, Nat.add_zero, hn]) | skip)
  refine xr_iconst (v := nI 1) (n := 5) dX1_setTerms_4 (by decide) rfl ?_
  refine xr_isub (n := 6) dX1_setTerms_5 rfl ?_
  rw [pk_sub (by omega), Nat.add_sub_cancel]
  refine xr_istore (n := 8) dX1_setTerms_6 rfl rfl ?_
  simp only [xst, Nat.beq, List.filter, Bool.not_true, Bool.not_false]
  refine xr_aload_n (n := 9) dX1_setTerms_8 rfl rfl ?_
  refine xr_iload (n := 11) dX1_setTerms_9 rfl rfl ?_
  refine xr_callV (y2 := mX1_holds) (As := [_]) (n := 14) dX1_setTerms_11 lm_X1_47 pm_X1_holds pi_X1_holds (by first | exact lat_0 (lput_at _ _ _) | exact lat_r (lput_at _ _ _) (by decide)) rfl rfl rfl (by simp [Value.category]) rfl ⟨Nat.le_refl _, Nat.le_refl _⟩ ?_
  refine s_X1_holds (lput_at _ _ _) hn hn2 ?_
  dsimp only [xK, xps]
  refine xr_beq (tgt := 41) (n := 17) dX1_setTerms_14 (by decide) rfl (fun h14 => ?_) (fun h14 => ?_)
  · exact absurd (ib_s (show n < n + 1 from Nat.lt_succ_self n) hn2) h14
  · refine xr_aload_n (n := 18) dX1_setTerms_17 rfl rfl ?_
    refine xr_get (n := 21) dX1_setTerms_18 fl_X1_18 (by first | exact lat_0 (lput_at _ _ _) | exact lat_r (lput_at _ _ _) (by decide)) (by rfl) rfl ?_
    refine xr_iload (n := 23) dX1_setTerms_21 rfl rfl ?_
    refine xr_iload_n (n := 24) dX1_setTerms_23 rfl rfl ?_
    refine xq_iastore (n := 25) dX1_setTerms_24 (by first | exact lat_0 (lput_at _ _ _) | exact lat_r (lput_at _ _ _) (by decide)) (by first | exact vp_in_nI (by omega) (by omega)) rfl ?_
    simp (disch := omega) only [nI_clamp, List.set, lw_0, lw_1, lw_2, lw_3, lw_4, lw_5, lw_6, lw_7, lw_8, lw_9]
    refine xr_aload_n (n := 26) dX1_setTerms_25 rfl rfl ?_
    refine xr_get (n := 29) dX1_setTerms_26 fl_X1_21 (by first | exact lat_0 (lput_at _ _ _) | exact lat_r (lput_at _ _ _) (by decide)) (by rfl) rfl ?_
    refine xr_iload (n := 31) dX1_setTerms_29 rfl rfl ?_
    refine xr_iload_n (n := 32) dX1_setTerms_31 rfl rfl ?_
    refine xq_iastore (n := 33) dX1_setTerms_32 (by first | exact lat_0 (lput_at _ _ _) | exact lat_r (lput_at _ _ _) (by decide)) (by first | exact vp_in_nI (by omega) (by omega)) rfl ?_
    simp (disch := omega) only [nI_clamp, List.set, lw_0, lw_1, lw_2, lw_3, lw_4, lw_5, lw_6, lw_7, lw_8, lw_9]
    refine xr_aload_n (n := 34) dX1_setTerms_33 rfl rfl ?_
    refine xr_get (n := 37) dX1_setTerms_34 fl_X1_24 (by first | exact lat_0 (lput_at _ _ _) | exact lat_r (lput_at _ _ _) (by decide)) (by rfl) rfl ?_
    refine xr_iload (n := 39) dX1_setTerms_37 rfl rfl ?_
    refine xr_iload_n (n := 40) dX1_setTerms_39 rfl rfl ?_
    refine xq_iastore (n := 41) dX1_setTerms_40 (by first | exact lat_0 (lput_at _ _ _) | exact lat_r (lput_at _ _ _) (by decide)) (by first | exact vp_in_nI (by omega) (by omega)) rfl ?_
    simp (disch := omega) only [nI_clamp, List.set, lw_0, lw_1, lw_2, lw_3, lw_4, lw_5, lw_6, lw_7, lw_8, lw_9]
    refine xr_return dX1_setTerms_41 rfl rfl ?_
    first | exact hq | (rw [b2i_t (by ((try simp (disch := omega) only [i_lt, i_le, i_eq, nt, i_m1, Int32.toInt_zero] at *); omega))] at hq; exact hq) | (rw [b2i_f (by ((try simp (disch := omega) only [i_lt, i_le, i_eq, nt, i_m1, Int32.toInt_zero] at *); omega))] at hq; exact hq)

theorem s_X1_endFirstPart {G : xG} {d : Nat} {f : Nat → xC} {r : Nat × Nat} {Q : Option Value → xM → Prop} {a n s : Nat} {σ : xS} (hn : σ 9 0 = nI n) (hn2 : n ≤ 60) (hs : s < n) (hq : Q none (lput f a (up2 σ 6 s (nI n)), r)) : xMet G (d + 2) mX1_endFirstPart [.ref a, .int (nI s)] (lput f a σ, r) r Q := by
  refine xMet_0 (by decide +kernel) rfl (Nat.le_of_ble_eq_true rfl) ?_
  show xX G (d + 2) mX1_endFirstPart r r (xΦ G r r Q) 0 [(0, .ref a), (1, .int (nI s))] [] (lput f a σ, r)
  refine xr_aload_n (n := 1) dX1_endFirstPart_0 rfl rfl ?_
  refine xr_iload_n (n := 2) dX1_endFirstPart_1 rfl rfl ?_
  refine xr_callV (y2 := mX1_holds) (As := [_]) (n := 5) dX1_endFirstPart_2 lm_X1_47 pm_X1_holds pi_X1_holds (by first | exact lat_0 (lput_at _ _ _) | exact lat_r (lput_at _ _ _) (by decide)) rfl rfl rfl (by simp [Value.category]) rfl ⟨Nat.le_refl _, Nat.le_refl _⟩ ?_
  refine s_X1_holds (lput_at _ _ _) hn hn2 ?_
  dsimp only [xK, xps]
  refine xr_beq (tgt := 18) (n := 8) dX1_endFirstPart_5 (by decide) rfl (fun h5 => ?_) (fun h5 => ?_)
  · exact absurd (ib_s hs hn2) h5
  · refine xr_aload_n (n := 9) dX1_endFirstPart_8 rfl rfl ?_
    refine xr_get (n := 12) dX1_endFirstPart_9 fl_X1_30 (by first | exact lat_0 (lput_at _ _ _) | exact lat_r (lput_at _ _ _) (by decide)) (by rfl) rfl ?_
    refine xr_iload_n (n := 13) dX1_endFirstPart_12 rfl rfl ?_
    refine xr_aload_n (n := 14) dX1_endFirstPart_13 rfl rfl ?_
    refine xr_get (n := 17) dX1_endFirstPart_14 fl_X1_39 (by first | exact lat_0 (lput_at _ _ _) | exact lat_r (lput_at _ _ _) (by decide)) (by rfl) rfl ?_
    (first | (simp (disch := omega) only [nI_clamp, pk_mul, nI_add, oi1, up2_ss, up2_n, up2_sn, ur_s, ur_n, Nat.reduceMul, Nat.reduceAdd, Nat.add_zero, hn]) | skip)
    refine xq_iastore (n := 18) dX1_endFirstPart_17 (by first | exact lat_0 (lput_at _ _ _) | exact lat_r (lput_at _ _ _) (by decide)) (by first | exact vp_in_nI (by omega) (by omega)) rfl ?_
    simp (disch := omega) only [nI_clamp, List.set, lw_0, lw_1, lw_2, lw_3, lw_4, lw_5, lw_6, lw_7, lw_8, lw_9]
    refine xr_return dX1_endFirstPart_18 rfl rfl ?_
    first | exact hq | (rw [b2i_t (by ((try simp (disch := omega) only [i_lt, i_le, i_eq, nt, i_m1, Int32.toInt_zero] at *); omega))] at hq; exact hq) | (rw [b2i_f (by ((try simp (disch := omega) only [i_lt, i_le, i_eq, nt, i_m1, Int32.toInt_zero] at *); omega))] at hq; exact hq)

theorem s_X1_close {G : xG} {d : Nat} {f : Nat → xC} {r : Nat × Nat} {Q : Option Value → xM → Prop} {a n s kd : Nat} {σ : xS} (hn : σ 9 0 = nI n) (hn2 : n ≤ 60) (hs : s < n) (h0 : σ 0 s = nI kd) (hk : kd ≤ 5) (hq : Q none (lput f a (if kd = 4 then up2 (up2 σ 7 s (nI n)) 6 s (nI n) else up2 σ 7 s (nI n)), r)) : xMet G (d + 2) mX1_close [.ref a, .int (nI s)] (lput f a σ, r) r Q := by
  refine xMet_0 (by decide +kernel) rfl (Nat.le_of_ble_eq_true rfl) ?_
  show xX G (d + 2) mX1_close r r (xΦ G r r Q) 0 [(0, .ref a), (1, .int (nI s))] [] (lput f a σ, r)
  refine xr_aload_n (n := 1) dX1_close_0 rfl rfl ?_
  refine xr_iload_n (n := 2) dX1_close_1 rfl rfl ?_
  refine xr_callV (y2 := mX1_holds) (As := [_]) (n := 5) dX1_close_2 lm_X1_47 pm_X1_holds pi_X1_holds (by first | exact lat_0 (lput_at _ _ _) | exact lat_r (lput_at _ _ _) (by decide)) rfl rfl rfl (by simp [Value.category]) rfl ⟨Nat.le_refl _, Nat.le_refl _⟩ ?_
  refine s_X1_holds (lput_at _ _ _) hn hn2 ?_
  dsimp only [xK, xps]
  refine xr_beq (tgt := 38) (n := 8) dX1_close_5 (by decide) rfl (fun h5 => ?_) (fun h5 => ?_)
  · exact absurd (ib_s hs hn2) h5
  · refine xr_aload_n (n := 9) dX1_close_8 rfl rfl ?_
    refine xr_get (n := 12) dX1_close_9 fl_X1_33 (by first | exact lat_0 (lput_at _ _ _) | exact lat_r (lput_at _ _ _) (by decide)) (by rfl) rfl ?_
    refine xr_iload_n (n := 13) dX1_close_12 rfl rfl ?_
    refine xr_aload_n (n := 14) dX1_close_13 rfl rfl ?_
    refine xr_get (n := 17) dX1_close_14 fl_X1_39 (by first | exact lat_0 (lput_at _ _ _) | exact lat_r (lput_at _ _ _) (by decide)) (by rfl) rfl ?_
    (first | (simp (disch := omega) only [nI_clamp, pk_mul, nI_add, oi1, up2_ss, up2_n, up2_sn, ur_s, ur_n, Nat.reduceMul, Nat.reduceAdd, Nat.add_zero, hn, h0]) | skip)
    refine xq_iastore (n := 18) dX1_close_17 (by first | exact lat_0 (lput_at _ _ _) | exact lat_r (lput_at _ _ _) (by decide)) (by first | exact vp_in_nI (by omega) (by omega)) rfl ?_
    simp (disch := omega) only [nI_clamp, List.set, lw_0, lw_1, lw_2, lw_3, lw_4, lw_5, lw_6, lw_7, lw_8, lw_9]
    refine xr_aload_n (n := 19) dX1_close_18 rfl rfl ?_
    refine xr_get (n := 22) dX1_close_19 fl_X1_9 (by first | exact lat_0 (lput_at _ _ _) | exact lat_r (lput_at _ _ _) (by decide)) (by rfl) rfl ?_
    refine xr_iload_n (n := 23) dX1_close_22 rfl rfl ?_
    refine xr_iaload (n := 24) dX1_close_23 (by first | exact lat_0 (lput_at _ _ _) | exact lat_r (lput_at _ _ _) (by decide)) (by first | exact vp_in_nI (by omega) (by omega)) rfl ?_
    (first | (simp (disch := omega) only [nI_clamp, pk_mul, nI_add, oi1, up2_ss, up2_n, up2_sn, ur_s, ur_n, Nat.reduceMul, Nat.reduceAdd, Nat.add_zero, hn, h0]) | skip)
    refine xr_iconst (v := nI 4) (n := 25) dX1_close_24 (by decide) rfl ?_
    refine xr_icmp_ne (tgt := 38) (n := 28) dX1_close_25 (by decide) rfl (fun h25 => ?_) (fun h25 => ?_)
    · refine xr_return dX1_close_38 rfl rfl ?_
      refine qm hq ?_
      first | rw [if_pos (by ((try simp (disch := omega) only [i_lt, i_le, i_eq, nt, i_m1, Int32.toInt_zero] at *); omega))] | rw [if_neg (by ((try simp (disch := omega) only [i_lt, i_le, i_eq, nt, i_m1, Int32.toInt_zero] at *); omega))]
    · refine xr_aload_n (n := 29) dX1_close_28 rfl rfl ?_
      refine xr_get (n := 32) dX1_close_29 fl_X1_30 (by first | exact lat_0 (lput_at _ _ _) | exact lat_r (lput_at _ _ _) (by decide)) (by rfl) rfl ?_
      refine xr_iload_n (n := 33) dX1_close_32 rfl rfl ?_
      refine xr_aload_n (n := 34) dX1_close_33 rfl rfl ?_
      refine xr_get (n := 37) dX1_close_34 fl_X1_39 (by first | exact lat_0 (lput_at _ _ _) | exact lat_r (lput_at _ _ _) (by decide)) (by rfl) rfl ?_
      (first | (simp (disch := omega) only [nI_clamp, pk_mul, nI_add, oi1, up2_ss, up2_n, up2_sn, ur_s, ur_n, Nat.reduceMul, Nat.reduceAdd, Nat.add_zero, hn, h0]) | skip)
      refine xq_iastore (n := 38) dX1_close_37 (by first | exact lat_0 (lput_at _ _ _) | exact lat_r (lput_at _ _ _) (by decide)) (by first | exact vp_in_nI (by omega) (by omega)) rfl ?_
      simp (disch := omega) only [nI_clamp, List.set, lw_0, lw_1, lw_2, lw_3, lw_4, lw_5, lw_6, lw_7, lw_8, lw_9]
      refine xr_return dX1_close_38 rfl rfl ?_
      refine qm hq ?_
      first | rw [if_pos (by ((try simp (disch := omega) only [i_lt, i_le, i_eq, nt, i_m1, Int32.toInt_zero] at *); omega))] | rw [if_neg (by ((try simp (disch := omega) only [i_lt, i_le, i_eq, nt, i_m1, Int32.toInt_zero] at *); omega))]

theorem lw_f0 (f : Nat → xC) (a : Nat) (σ : xS) (g : Nat → Int32) : xu (lput f a σ) (a + 1) (aI 0 60 g) = lput f a (ur σ 0 g) := by
  refine (bput_xu (i := 1) (by decide)).trans (bput_congr fun i hi => ?_)
  match i, hi with
  | 0, _ => rfl
  | 1, _ => rfl
  | 2, _ => rfl
  | 3, _ => rfl
  | 4, _ => rfl
  | 5, _ => rfl
  | 6, _ => rfl
  | 7, _ => rfl
  | 8, _ => rfl
  | 9, _ => rfl
  | i + 10, h => exact absurd h (by omega)
theorem lw_f1 (f : Nat → xC) (a : Nat) (σ : xS) (g : Nat → Int32) : xu (lput f a σ) (a + 2) (aI 0 60 g) = lput f a (ur σ 1 g) := by
  refine (bput_xu (i := 2) (by decide)).trans (bput_congr fun i hi => ?_)
  match i, hi with
  | 0, _ => rfl
  | 1, _ => rfl
  | 2, _ => rfl
  | 3, _ => rfl
  | 4, _ => rfl
  | 5, _ => rfl
  | 6, _ => rfl
  | 7, _ => rfl
  | 8, _ => rfl
  | 9, _ => rfl
  | i + 10, h => exact absurd h (by omega)
theorem lw_f2 (f : Nat → xC) (a : Nat) (σ : xS) (g : Nat → Int32) : xu (lput f a σ) (a + 3) (aI 0 60 g) = lput f a (ur σ 2 g) := by
  refine (bput_xu (i := 3) (by decide)).trans (bput_congr fun i hi => ?_)
  match i, hi with
  | 0, _ => rfl
  | 1, _ => rfl
  | 2, _ => rfl
  | 3, _ => rfl
  | 4, _ => rfl
  | 5, _ => rfl
  | 6, _ => rfl
  | 7, _ => rfl
  | 8, _ => rfl
  | 9, _ => rfl
  | i + 10, h => exact absurd h (by omega)
theorem lw_f3 (f : Nat → xC) (a : Nat) (σ : xS) (g : Nat → Int32) : xu (lput f a σ) (a + 4) (aI 0 60 g) = lput f a (ur σ 3 g) := by
  refine (bput_xu (i := 4) (by decide)).trans (bput_congr fun i hi => ?_)
  match i, hi with
  | 0, _ => rfl
  | 1, _ => rfl
  | 2, _ => rfl
  | 3, _ => rfl
  | 4, _ => rfl
  | 5, _ => rfl
  | 6, _ => rfl
  | 7, _ => rfl
  | 8, _ => rfl
  | 9, _ => rfl
  | i + 10, h => exact absurd h (by omega)
theorem lw_f4 (f : Nat → xC) (a : Nat) (σ : xS) (g : Nat → Int32) : xu (lput f a σ) (a + 5) (aI 0 60 g) = lput f a (ur σ 4 g) := by
  refine (bput_xu (i := 5) (by decide)).trans (bput_congr fun i hi => ?_)
  match i, hi with
  | 0, _ => rfl
  | 1, _ => rfl
  | 2, _ => rfl
  | 3, _ => rfl
  | 4, _ => rfl
  | 5, _ => rfl
  | 6, _ => rfl
  | 7, _ => rfl
  | 8, _ => rfl
  | 9, _ => rfl
  | i + 10, h => exact absurd h (by omega)
theorem lw_f5 (f : Nat → xC) (a : Nat) (σ : xS) (g : Nat → Int32) : xu (lput f a σ) (a + 6) (aI 0 60 g) = lput f a (ur σ 5 g) := by
  refine (bput_xu (i := 6) (by decide)).trans (bput_congr fun i hi => ?_)
  match i, hi with
  | 0, _ => rfl
  | 1, _ => rfl
  | 2, _ => rfl
  | 3, _ => rfl
  | 4, _ => rfl
  | 5, _ => rfl
  | 6, _ => rfl
  | 7, _ => rfl
  | 8, _ => rfl
  | 9, _ => rfl
  | i + 10, h => exact absurd h (by omega)
theorem lw_f6 (f : Nat → xC) (a : Nat) (σ : xS) (g : Nat → Int32) : xu (lput f a σ) (a + 7) (aI 0 60 g) = lput f a (ur σ 6 g) := by
  refine (bput_xu (i := 7) (by decide)).trans (bput_congr fun i hi => ?_)
  match i, hi with
  | 0, _ => rfl
  | 1, _ => rfl
  | 2, _ => rfl
  | 3, _ => rfl
  | 4, _ => rfl
  | 5, _ => rfl
  | 6, _ => rfl
  | 7, _ => rfl
  | 8, _ => rfl
  | 9, _ => rfl
  | i + 10, h => exact absurd h (by omega)
theorem lw_f7 (f : Nat → xC) (a : Nat) (σ : xS) (g : Nat → Int32) : xu (lput f a σ) (a + 8) (aI 0 60 g) = lput f a (ur σ 7 g) := by
  refine (bput_xu (i := 8) (by decide)).trans (bput_congr fun i hi => ?_)
  match i, hi with
  | 0, _ => rfl
  | 1, _ => rfl
  | 2, _ => rfl
  | 3, _ => rfl
  | 4, _ => rfl
  | 5, _ => rfl
  | 6, _ => rfl
  | 7, _ => rfl
  | 8, _ => rfl
  | 9, _ => rfl
  | i + 10, h => exact absurd h (by omega)
theorem lw_f8 (f : Nat → xC) (a : Nat) (σ : xS) (g : Nat → Int32) : xu (lput f a σ) (a + 9) (aI 0 60 g) = lput f a (ur σ 8 g) := by
  refine (bput_xu (i := 9) (by decide)).trans (bput_congr fun i hi => ?_)
  match i, hi with
  | 0, _ => rfl
  | 1, _ => rfl
  | 2, _ => rfl
  | 3, _ => rfl
  | 4, _ => rfl
  | 5, _ => rfl
  | 6, _ => rfl
  | 7, _ => rfl
  | 8, _ => rfl
  | 9, _ => rfl
  | i + 10, h => exact absurd h (by omega)
theorem s_X1_takeFrom {G : xG} {d : Nat} {f : Nat → xC} {r : Nat × Nat} {Q : Option Value → xM → Prop} {a b : Nat} {σ ς : xS} (hL2 : ∀ τ, lat (lput f a τ) b ς) (hq : ∀ τ, τ 9 0 = ς 9 0 → (∀ k, k < 9 → ∀ i, i < 60 → τ k i = ς k i) → Q none (lput f a τ, r)) : xMet G (d + 1) mX1_takeFrom [.ref a, .ref b] (lput f a σ, r) r Q := by
  refine xMet_0 (by decide +kernel) rfl (Nat.le_of_ble_eq_true rfl) ?_
  show xX G (d + 1) mX1_takeFrom r r (xΦ G r r Q) 0 [(0, .ref a), (1, .ref b)] [] (lput f a σ, r)
  refine xr_aload_n (n := 1) dX1_takeFrom_0 rfl rfl ?_
  refine xr_aload_n (n := 2) dX1_takeFrom_1 rfl rfl ?_
  refine xr_get (n := 5) dX1_takeFrom_2 fl_X1_39 (by first | exact lat_0 (lput_at _ _ _) | exact lat_r (lput_at _ _ _) (by decide) | exact lat_0 (hL2 _) | exact lat_r (hL2 _) (by decide)) (by rfl) rfl ?_
  refine xq_put (n := 8) dX1_takeFrom_5 fl_X1_39 rfl (by first | exact lat_0 (lput_at _ _ _) | exact lat_r (lput_at _ _ _) (by decide) | exact lat_0 (hL2 _) | exact lat_r (hL2 _) (by decide)) (by rfl) (by rfl) (by rfl) rfl ?_
  simp (disch := omega) only [nI_clamp, List.set, lw_0, lw_1, lw_2, lw_3, lw_4, lw_5, lw_6, lw_7, lw_8, lw_9]
  refine xr_aload_n (n := 9) dX1_takeFrom_8 rfl rfl ?_
  refine xr_get (n := 12) dX1_takeFrom_9 fl_X1_9 (by first | exact lat_0 (lput_at _ _ _) | exact lat_r (lput_at _ _ _) (by decide) | exact lat_0 (hL2 _) | exact lat_r (hL2 _) (by decide)) (by rfl) rfl ?_
  refine xr_iconst (v := nI 0) (n := 13) dX1_takeFrom_12 (by decide) rfl ?_
  refine xr_aload_n (n := 14) dX1_takeFrom_13 rfl rfl ?_
  refine xr_get (n := 17) dX1_takeFrom_14 fl_X1_9 (by first | exact lat_0 (lput_at _ _ _) | exact lat_r (lput_at _ _ _) (by decide) | exact lat_0 (hL2 _) | exact lat_r (hL2 _) (by decide)) (by rfl) rfl ?_
  refine xr_iconst (v := nI 0) (n := 18) dX1_takeFrom_17 (by decide) rfl ?_
  refine xr_bipush (v := nI 60) (n := 20) dX1_takeFrom_18 (by decide) rfl ?_
  refine xq_copy (n := 23) dX1_takeFrom_20 km_X1_51 (by first | exact lat_0 (lput_at _ _ _) | exact lat_r (lput_at _ _ _) (by decide) | exact lat_0 (hL2 _) | exact lat_r (hL2 _) (by decide)) (by first | exact lat_0 (lput_at _ _ _) | exact lat_r (lput_at _ _ _) (by decide) | exact lat_0 (hL2 _) | exact lat_r (hL2 _) (by decide)) (by decide) (by decide) (by decide) (by decide) (by decide) (by simp [Value.category]) rfl ?_
  rw [show (nI 0).toNatClampNeg = 0 from nI_clamp (by omega), show (nI 60).toNatClampNeg = 60 from nI_clamp (by omega), cpy_fo, lw_f0]
  refine xr_aload_n (n := 24) dX1_takeFrom_23 rfl rfl ?_
  refine xr_get (n := 27) dX1_takeFrom_24 fl_X1_15 (by first | exact lat_0 (lput_at _ _ _) | exact lat_r (lput_at _ _ _) (by decide) | exact lat_0 (hL2 _) | exact lat_r (hL2 _) (by decide)) (by rfl) rfl ?_
  refine xr_iconst (v := nI 0) (n := 28) dX1_takeFrom_27 (by decide) rfl ?_
  refine xr_aload_n (n := 29) dX1_takeFrom_28 rfl rfl ?_
  refine xr_get (n := 32) dX1_takeFrom_29 fl_X1_15 (by first | exact lat_0 (lput_at _ _ _) | exact lat_r (lput_at _ _ _) (by decide) | exact lat_0 (hL2 _) | exact lat_r (hL2 _) (by decide)) (by rfl) rfl ?_
  refine xr_iconst (v := nI 0) (n := 33) dX1_takeFrom_32 (by decide) rfl ?_
  refine xr_bipush (v := nI 60) (n := 35) dX1_takeFrom_33 (by decide) rfl ?_
  refine xq_copy (n := 38) dX1_takeFrom_35 km_X1_51 (by first | exact lat_0 (lput_at _ _ _) | exact lat_r (lput_at _ _ _) (by decide) | exact lat_0 (hL2 _) | exact lat_r (hL2 _) (by decide)) (by first | exact lat_0 (lput_at _ _ _) | exact lat_r (lput_at _ _ _) (by decide) | exact lat_0 (hL2 _) | exact lat_r (hL2 _) (by decide)) (by decide) (by decide) (by decide) (by decide) (by decide) (by simp [Value.category]) rfl ?_
  rw [show (nI 0).toNatClampNeg = 0 from nI_clamp (by omega), show (nI 60).toNatClampNeg = 60 from nI_clamp (by omega), cpy_fo, lw_f1]
  refine xr_aload_n (n := 39) dX1_takeFrom_38 rfl rfl ?_
  refine xr_get (n := 42) dX1_takeFrom_39 fl_X1_18 (by first | exact lat_0 (lput_at _ _ _) | exact lat_r (lput_at _ _ _) (by decide) | exact lat_0 (hL2 _) | exact lat_r (hL2 _) (by decide)) (by rfl) rfl ?_
  refine xr_iconst (v := nI 0) (n := 43) dX1_takeFrom_42 (by decide) rfl ?_
  refine xr_aload_n (n := 44) dX1_takeFrom_43 rfl rfl ?_
  refine xr_get (n := 47) dX1_takeFrom_44 fl_X1_18 (by first | exact lat_0 (lput_at _ _ _) | exact lat_r (lput_at _ _ _) (by decide) | exact lat_0 (hL2 _) | exact lat_r (hL2 _) (by decide)) (by rfl) rfl ?_
  refine xr_iconst (v := nI 0) (n := 48) dX1_takeFrom_47 (by decide) rfl ?_
  refine xr_bipush (v := nI 60) (n := 50) dX1_takeFrom_48 (by decide) rfl ?_
  refine xq_copy (n := 53) dX1_takeFrom_50 km_X1_51 (by first | exact lat_0 (lput_at _ _ _) | exact lat_r (lput_at _ _ _) (by decide) | exact lat_0 (hL2 _) | exact lat_r (hL2 _) (by decide)) (by first | exact lat_0 (lput_at _ _ _) | exact lat_r (lput_at _ _ _) (by decide) | exact lat_0 (hL2 _) | exact lat_r (hL2 _) (by decide)) (by decide) (by decide) (by decide) (by decide) (by decide) (by simp [Value.category]) rfl ?_
  rw [show (nI 0).toNatClampNeg = 0 from nI_clamp (by omega), show (nI 60).toNatClampNeg = 60 from nI_clamp (by omega), cpy_fo, lw_f2]
  refine xr_aload_n (n := 54) dX1_takeFrom_53 rfl rfl ?_
  refine xr_get (n := 57) dX1_takeFrom_54 fl_X1_21 (by first | exact lat_0 (lput_at _ _ _) | exact lat_r (lput_at _ _ _) (by decide) | exact lat_0 (hL2 _) | exact lat_r (hL2 _) (by decide)) (by rfl) rfl ?_
  refine xr_iconst (v := nI 0) (n := 58) dX1_takeFrom_57 (by decide) rfl ?_
  refine xr_aload_n (n := 59) dX1_takeFrom_58 rfl rfl ?_
  refine xr_get (n := 62) dX1_takeFrom_59 fl_X1_21 (by first | exact lat_0 (lput_at _ _ _) | exact lat_r (lput_at _ _ _) (by decide) | exact lat_0 (hL2 _) | exact lat_r (hL2 _) (by decide)) (by rfl) rfl ?_
  refine xr_iconst (v := nI 0) (n := 63) dX1_takeFrom_62 (by decide) rfl ?_
  refine xr_bipush (v := nI 60) (n := 65) dX1_takeFrom_63 (by decide) rfl ?_
  refine xq_copy (n := 68) dX1_takeFrom_65 km_X1_51 (by first | exact lat_0 (lput_at _ _ _) | exact lat_r (lput_at _ _ _) (by decide) | exact lat_0 (hL2 _) | exact lat_r (hL2 _) (by decide)) (by first | exact lat_0 (lput_at _ _ _) | exact lat_r (lput_at _ _ _) (by decide) | exact lat_0 (hL2 _) | exact lat_r (hL2 _) (by decide)) (by decide) (by decide) (by decide) (by decide) (by decide) (by simp [Value.category]) rfl ?_
  rw [show (nI 0).toNatClampNeg = 0 from nI_clamp (by omega), show (nI 60).toNatClampNeg = 60 from nI_clamp (by omega), cpy_fo, lw_f3]
  refine xr_aload_n (n := 69) dX1_takeFrom_68 rfl rfl ?_
  refine xr_get (n := 72) dX1_takeFrom_69 fl_X1_24 (by first | exact lat_0 (lput_at _ _ _) | exact lat_r (lput_at _ _ _) (by decide) | exact lat_0 (hL2 _) | exact lat_r (hL2 _) (by decide)) (by rfl) rfl ?_
  refine xr_iconst (v := nI 0) (n := 73) dX1_takeFrom_72 (by decide) rfl ?_
  refine xr_aload_n (n := 74) dX1_takeFrom_73 rfl rfl ?_
  refine xr_get (n := 77) dX1_takeFrom_74 fl_X1_24 (by first | exact lat_0 (lput_at _ _ _) | exact lat_r (lput_at _ _ _) (by decide) | exact lat_0 (hL2 _) | exact lat_r (hL2 _) (by decide)) (by rfl) rfl ?_
  refine xr_iconst (v := nI 0) (n := 78) dX1_takeFrom_77 (by decide) rfl ?_
  refine xr_bipush (v := nI 60) (n := 80) dX1_takeFrom_78 (by decide) rfl ?_
  refine xq_copy (n := 83) dX1_takeFrom_80 km_X1_51 (by first | exact lat_0 (lput_at _ _ _) | exact lat_r (lput_at _ _ _) (by decide) | exact lat_0 (hL2 _) | exact lat_r (hL2 _) (by decide)) (by first | exact lat_0 (lput_at _ _ _) | exact lat_r (lput_at _ _ _) (by decide) | exact lat_0 (hL2 _) | exact lat_r (hL2 _) (by decide)) (by decide) (by decide) (by decide) (by decide) (by decide) (by simp [Value.category]) rfl ?_
  rw [show (nI 0).toNatClampNeg = 0 from nI_clamp (by omega), show (nI 60).toNatClampNeg = 60 from nI_clamp (by omega), cpy_fo, lw_f4]
  refine xr_aload_n (n := 84) dX1_takeFrom_83 rfl rfl ?_
  refine xr_get (n := 87) dX1_takeFrom_84 fl_X1_27 (by first | exact lat_0 (lput_at _ _ _) | exact lat_r (lput_at _ _ _) (by decide) | exact lat_0 (hL2 _) | exact lat_r (hL2 _) (by decide)) (by rfl) rfl ?_
  refine xr_iconst (v := nI 0) (n := 88) dX1_takeFrom_87 (by decide) rfl ?_
  refine xr_aload_n (n := 89) dX1_takeFrom_88 rfl rfl ?_
  refine xr_get (n := 92) dX1_takeFrom_89 fl_X1_27 (by first | exact lat_0 (lput_at _ _ _) | exact lat_r (lput_at _ _ _) (by decide) | exact lat_0 (hL2 _) | exact lat_r (hL2 _) (by decide)) (by rfl) rfl ?_
  refine xr_iconst (v := nI 0) (n := 93) dX1_takeFrom_92 (by decide) rfl ?_
  refine xr_bipush (v := nI 60) (n := 95) dX1_takeFrom_93 (by decide) rfl ?_
  refine xq_copy (n := 98) dX1_takeFrom_95 km_X1_51 (by first | exact lat_0 (lput_at _ _ _) | exact lat_r (lput_at _ _ _) (by decide) | exact lat_0 (hL2 _) | exact lat_r (hL2 _) (by decide)) (by first | exact lat_0 (lput_at _ _ _) | exact lat_r (lput_at _ _ _) (by decide) | exact lat_0 (hL2 _) | exact lat_r (hL2 _) (by decide)) (by decide) (by decide) (by decide) (by decide) (by decide) (by simp [Value.category]) rfl ?_
  rw [show (nI 0).toNatClampNeg = 0 from nI_clamp (by omega), show (nI 60).toNatClampNeg = 60 from nI_clamp (by omega), cpy_fo, lw_f5]
  refine xr_aload_n (n := 99) dX1_takeFrom_98 rfl rfl ?_
  refine xr_get (n := 102) dX1_takeFrom_99 fl_X1_30 (by first | exact lat_0 (lput_at _ _ _) | exact lat_r (lput_at _ _ _) (by decide) | exact lat_0 (hL2 _) | exact lat_r (hL2 _) (by decide)) (by rfl) rfl ?_
  refine xr_iconst (v := nI 0) (n := 103) dX1_takeFrom_102 (by decide) rfl ?_
  refine xr_aload_n (n := 104) dX1_takeFrom_103 rfl rfl ?_
  refine xr_get (n := 107) dX1_takeFrom_104 fl_X1_30 (by first | exact lat_0 (lput_at _ _ _) | exact lat_r (lput_at _ _ _) (by decide) | exact lat_0 (hL2 _) | exact lat_r (hL2 _) (by decide)) (by rfl) rfl ?_
  refine xr_iconst (v := nI 0) (n := 108) dX1_takeFrom_107 (by decide) rfl ?_
  refine xr_bipush (v := nI 60) (n := 110) dX1_takeFrom_108 (by decide) rfl ?_
  refine xq_copy (n := 113) dX1_takeFrom_110 km_X1_51 (by first | exact lat_0 (lput_at _ _ _) | exact lat_r (lput_at _ _ _) (by decide) | exact lat_0 (hL2 _) | exact lat_r (hL2 _) (by decide)) (by first | exact lat_0 (lput_at _ _ _) | exact lat_r (lput_at _ _ _) (by decide) | exact lat_0 (hL2 _) | exact lat_r (hL2 _) (by decide)) (by decide) (by decide) (by decide) (by decide) (by decide) (by simp [Value.category]) rfl ?_
  rw [show (nI 0).toNatClampNeg = 0 from nI_clamp (by omega), show (nI 60).toNatClampNeg = 60 from nI_clamp (by omega), cpy_fo, lw_f6]
  refine xr_aload_n (n := 114) dX1_takeFrom_113 rfl rfl ?_
  refine xr_get (n := 117) dX1_takeFrom_114 fl_X1_33 (by first | exact lat_0 (lput_at _ _ _) | exact lat_r (lput_at _ _ _) (by decide) | exact lat_0 (hL2 _) | exact lat_r (hL2 _) (by decide)) (by rfl) rfl ?_
  refine xr_iconst (v := nI 0) (n := 118) dX1_takeFrom_117 (by decide) rfl ?_
  refine xr_aload_n (n := 119) dX1_takeFrom_118 rfl rfl ?_
  refine xr_get (n := 122) dX1_takeFrom_119 fl_X1_33 (by first | exact lat_0 (lput_at _ _ _) | exact lat_r (lput_at _ _ _) (by decide) | exact lat_0 (hL2 _) | exact lat_r (hL2 _) (by decide)) (by rfl) rfl ?_
  refine xr_iconst (v := nI 0) (n := 123) dX1_takeFrom_122 (by decide) rfl ?_
  refine xr_bipush (v := nI 60) (n := 125) dX1_takeFrom_123 (by decide) rfl ?_
  refine xq_copy (n := 128) dX1_takeFrom_125 km_X1_51 (by first | exact lat_0 (lput_at _ _ _) | exact lat_r (lput_at _ _ _) (by decide) | exact lat_0 (hL2 _) | exact lat_r (hL2 _) (by decide)) (by first | exact lat_0 (lput_at _ _ _) | exact lat_r (lput_at _ _ _) (by decide) | exact lat_0 (hL2 _) | exact lat_r (hL2 _) (by decide)) (by decide) (by decide) (by decide) (by decide) (by decide) (by simp [Value.category]) rfl ?_
  rw [show (nI 0).toNatClampNeg = 0 from nI_clamp (by omega), show (nI 60).toNatClampNeg = 60 from nI_clamp (by omega), cpy_fo, lw_f7]
  refine xr_aload_n (n := 129) dX1_takeFrom_128 rfl rfl ?_
  refine xr_get (n := 132) dX1_takeFrom_129 fl_X1_36 (by first | exact lat_0 (lput_at _ _ _) | exact lat_r (lput_at _ _ _) (by decide) | exact lat_0 (hL2 _) | exact lat_r (hL2 _) (by decide)) (by rfl) rfl ?_
  refine xr_iconst (v := nI 0) (n := 133) dX1_takeFrom_132 (by decide) rfl ?_
  refine xr_aload_n (n := 134) dX1_takeFrom_133 rfl rfl ?_
  refine xr_get (n := 137) dX1_takeFrom_134 fl_X1_36 (by first | exact lat_0 (lput_at _ _ _) | exact lat_r (lput_at _ _ _) (by decide) | exact lat_0 (hL2 _) | exact lat_r (hL2 _) (by decide)) (by rfl) rfl ?_
  refine xr_iconst (v := nI 0) (n := 138) dX1_takeFrom_137 (by decide) rfl ?_
  refine xr_bipush (v := nI 60) (n := 140) dX1_takeFrom_138 (by decide) rfl ?_
  refine xq_copy (n := 143) dX1_takeFrom_140 km_X1_51 (by first | exact lat_0 (lput_at _ _ _) | exact lat_r (lput_at _ _ _) (by decide) | exact lat_0 (hL2 _) | exact lat_r (hL2 _) (by decide)) (by first | exact lat_0 (lput_at _ _ _) | exact lat_r (lput_at _ _ _) (by decide) | exact lat_0 (hL2 _) | exact lat_r (hL2 _) (by decide)) (by decide) (by decide) (by decide) (by decide) (by decide) (by simp [Value.category]) rfl ?_
  rw [show (nI 0).toNatClampNeg = 0 from nI_clamp (by omega), show (nI 60).toNatClampNeg = 60 from nI_clamp (by omega), cpy_fo, lw_f8]
  refine xr_return dX1_takeFrom_143 rfl rfl ?_
  refine hq _ ?_ (fun k hk i hi => ?_)
  · simp (disch := omega) only [ur_n, up2_ss]
  · have hk9 : k = 0 ∨ k = 1 ∨ k = 2 ∨ k = 3 ∨ k = 4 ∨ k = 5 ∨ k = 6 ∨ k = 7 ∨ k = 8 := by omega
    rcases hk9 with rfl | rfl | rfl | rfl | rfl | rfl | rfl | rfl | rfl <;> simp (disch := omega) only [ur_n, ur_s, fo_in, Nat.sub_zero]

theorem LsP.cg {σ τ : xS} {n : Nat} {P : Nat → Nat → Nat} (h : LsP σ n P) (h9 : τ 9 0 = σ 9 0) (hr : ∀ k, k < 9 → ∀ i, i < 60 → τ k i = σ k i) : LsP τ n P := by
  obtain ⟨h1, h2, h3⟩ := h
  refine ⟨h9.trans h1, h2, fun s hs => ?_⟩
  obtain ⟨⟨g0, g1, g2, g3, g5, g6, g7⟩, g8⟩ := h3 s hs
  refine ⟨⟨(hr 0 (by omega) s (by omega)).trans g0, (hr 1 (by omega) s (by omega)).trans g1, fun q => ⟨(hr 2 (by omega) s (by omega)).trans (g2 q).1, fun q2 => (hr 4 (by omega) s (by omega)).trans ((g2 q).2.1 q2), fun q2 => (hr 4 (by omega) s (by omega)).trans ((g2 q).2.2 q2)⟩, (hr 3 (by omega) s (by omega)).trans g3, (hr 5 (by omega) s (by omega)).trans g5, (hr 6 (by omega) s (by omega)).trans g6, (hr 7 (by omega) s (by omega)).trans g7⟩, (hr 8 (by omega) s (by omega)).trans g8⟩
theorem LsS.w8 {σ τ : xS} {s : Nat} {P : Nat → Nat → Nat} (h : LsS σ P s) (hr : ∀ w, w ≠ 8 → τ w = σ w) : LsS τ P s := by
  obtain ⟨g0, g1, g2, g3, g5, g6, g7⟩ := h
  unfold LsS
  rw [hr 0 (by omega), hr 1 (by omega), hr 2 (by omega), hr 3 (by omega), hr 4 (by omega), hr 5 (by omega), hr 6 (by omega), hr 7 (by omega)]
  exact ⟨g0, g1, g2, g3, g5, g6, g7⟩
theorem s_X1_followerOf {G : xG} {d : Nat} {f : Nat → xC} {r : Nat × Nat} {Q : Option Value → xM → Prop} {a n s : Nat} {σ : xS} {P : Nat → Nat → Nat} (hQ : LsQ σ n P) (hO : okP n P) (hs : s < n) (h8 : ∀ k, k < s → σ 8 k = nI (fol P k)) (hq : Q (some (.int (nI (fol P s)))) (lput f a σ, r)) : xMet G (d + 3) mX1_followerOf [.ref a, .int (nI s)] (lput f a σ, r) r Q := by
  refine xMet_0 (by decide +kernel) rfl (Nat.le_of_ble_eq_true rfl) ?_
  show xX G (d + 3) mX1_followerOf r r (xΦ G r r Q) 0 [(0, .ref a), (1, .int (nI s))] [] (lput f a σ, r)
  obtain ⟨hn, hn2, hS⟩ := id hQ
  obtain ⟨g0, g1, g2, g3, g5, g6, g7⟩ := hS s hs
  have hou := outr_le P s s
  have hpb := psz_bd hO hs
  refine xr_aload_n (n := 1) dX1_followerOf_0 rfl rfl ?_
  refine xr_aload_n (n := 2) dX1_followerOf_1 rfl rfl ?_
  refine xr_get (n := 5) dX1_followerOf_2 fl_X1_33 (by first | exact lat_0 (lput_at _ _ _) | exact lat_r (lput_at _ _ _) (by decide)) (by rfl) rfl ?_
  refine xr_iload_n (n := 6) dX1_followerOf_5 rfl rfl ?_
  refine xr_callV (y2 := mX1_item) (As := [_, _]) (n := 9) dX1_followerOf_6 lm_X1_72 pm_X1_item pi_X1_item (by first | exact lat_0 (lput_at _ _ _) | exact lat_r (lput_at _ _ _) (by decide)) rfl rfl rfl (by simp [Value.category]) rfl ⟨Nat.le_refl _, Nat.le_refl _⟩ ?_
  refine s_X1_item (lput_at _ _ _) hn hn2 (lat_r (lput_at _ _ _) (by decide)) hs ?_
  dsimp only [xK, xps]
  rw [g7]
  refine xq_istore_n 2 (n := 10) dX1_followerOf_9 rfl rfl rfl ?_
  simp only [xst, Nat.beq, List.filter, Bool.not_true, Bool.not_false]
  refine xr_aload_n (n := 11) dX1_followerOf_10 rfl rfl ?_
  refine xr_aload_n (n := 12) dX1_followerOf_11 rfl rfl ?_
  refine xr_get (n := 15) dX1_followerOf_12 fl_X1_27 (by first | exact lat_0 (lput_at _ _ _) | exact lat_r (lput_at _ _ _) (by decide)) (by rfl) rfl ?_
  refine xr_iload_n (n := 16) dX1_followerOf_15 rfl rfl ?_
  refine xr_callV (y2 := mX1_item) (As := [_, _]) (n := 19) dX1_followerOf_16 lm_X1_72 pm_X1_item pi_X1_item (by first | exact lat_0 (lput_at _ _ _) | exact lat_r (lput_at _ _ _) (by decide)) rfl rfl rfl (by simp [Value.category]) rfl ⟨Nat.le_refl _, Nat.le_refl _⟩ ?_
  refine s_X1_item (lput_at _ _ _) hn hn2 (lat_r (lput_at _ _ _) (by decide)) hs ?_
  dsimp only [xK, xps]
  rw [g5]
  refine xq_istore_n 3 (n := 20) dX1_followerOf_19 rfl rfl rfl ?_
  simp only [xst, Nat.beq, List.filter, Bool.not_true, Bool.not_false]
  refine xr_aload_n (n := 21) dX1_followerOf_20 rfl rfl ?_
  refine xr_iload_n (n := 22) dX1_followerOf_21 rfl rfl ?_
  refine xr_callV (y2 := mX1_holds) (As := [_]) (n := 25) dX1_followerOf_22 lm_X1_47 pm_X1_holds pi_X1_holds (by first | exact lat_0 (lput_at _ _ _) | exact lat_r (lput_at _ _ _) (by decide)) rfl rfl rfl (by simp [Value.category]) rfl ⟨Nat.le_refl _, Nat.le_refl _⟩ ?_
  refine s_X1_holds (lput_at _ _ _) hn hn2 ?_
  dsimp only [xK, xps]
  refine xr_bne (tgt := 30) (n := 28) dX1_followerOf_25 (by decide) rfl (fun h25 => ?_) (fun h25 => ?_)
  · have ho1 : outr P s s ≠ 0 := by
      intro q
      have h := h25.1
      unfold oui at h
      rw [if_pos q, i_m1] at h
      omega
    obtain ⟨k, hk⟩ : ∃ k, outr P s s = k + 1 := ⟨outr P s s - 1, by omega⟩
    obtain ⟨hks, hk3, hk6, -⟩ := outr_k hk
    obtain ⟨e0, e1, e2, e3, e5, e6, e7⟩ := hS k (by omega)
    obtain ⟨k0, k1, k2, k3, k4, kk6, kk5⟩ := hO.2 k (by omega)
    have hk6n := kk6 hk3
    have hou1 : oui (outr P s s) = nI k := by unfold oui; rw [hk, if_neg (by omega)]; rfl
    rw [hou1]
    have hmd : mid P k = amid P k := by
      unfold mid amid
      by_cases q : P k 0 = 3
      · rw [if_pos q, if_pos q]
      · rw [if_neg q, if_neg q, if_pos (by omega)]
    have hmb : amid P k ≤ 60 := by
      unfold amid
      split
      · omega
      · have := kk5 (by omega)
        omega
    rw [hmd] at e6
    have hpk : pend P k = P k 6 := if_pos hk3
    rw [hpk] at e7
    have hF := fol_k hk
    refine xr_iload_n (n := 31) dX1_followerOf_30 rfl rfl ?_
    refine xr_aload_n (n := 32) dX1_followerOf_31 rfl rfl ?_
    refine xr_get (n := 35) dX1_followerOf_32 fl_X1_30 (by first | exact lat_0 (lput_at _ _ _) | exact lat_r (lput_at _ _ _) (by decide)) (by rfl) rfl ?_
    refine xr_iload_n (n := 36) dX1_followerOf_35 rfl rfl ?_
    refine xr_iaload (n := 37) dX1_followerOf_36 (by first | exact lat_0 (lput_at _ _ _) | exact lat_r (lput_at _ _ _) (by decide)) (by first | exact vp_in_nI (by omega) (by omega)) rfl ?_
    (first | (simp (disch := omega) only [nI_clamp, pk_mul, nI_add, oi1, up2_ss, up2_n, up2_sn, ur_s, ur_n, Nat.reduceMul, Nat.reduceAdd, Nat.add_zero, e0, e6, e7]) | skip)
    refine xr_icmp_ge (tgt := 49) (n := 40) dX1_followerOf_37 (by decide) rfl (fun h37 => ?_) (fun h37 => ?_)
    · have hA : ¬ s < amid P k := by ((try simp (disch := omega) only [i_lt, i_le, i_eq, nt, i_m1, Int32.toInt_zero] at *); omega)
      rw [if_neg hA] at hF
      refine xr_aload_n (n := 50) dX1_followerOf_49 rfl rfl ?_
      refine xr_get (n := 53) dX1_followerOf_50 fl_X1_33 (by first | exact lat_0 (lput_at _ _ _) | exact lat_r (lput_at _ _ _) (by decide)) (by rfl) rfl ?_
      refine xr_iload_n (n := 54) dX1_followerOf_53 rfl rfl ?_
      refine xr_iaload (n := 55) dX1_followerOf_54 (by first | exact lat_0 (lput_at _ _ _) | exact lat_r (lput_at _ _ _) (by decide)) (by first | exact vp_in_nI (by omega) (by omega)) rfl ?_
      (first | (simp (disch := omega) only [nI_clamp, pk_mul, nI_add, oi1, up2_ss, up2_n, up2_sn, ur_s, ur_n, Nat.reduceMul, Nat.reduceAdd, Nat.add_zero, e0, e6, e7]) | skip)
      refine xr_istore (n := 57) dX1_followerOf_55 rfl rfl ?_
      simp only [xst, Nat.beq, List.filter, Bool.not_true, Bool.not_false]
      refine xr_iload_n (n := 58) dX1_followerOf_57 rfl rfl ?_
      refine xr_iload (n := 60) dX1_followerOf_58 rfl rfl ?_
      refine xr_icmp_ge (tgt := 65) (n := 63) dX1_followerOf_60 (by decide) rfl (fun h60 => ?_) (fun h60 => ?_)
      · refine xr_aload_n (n := 66) dX1_followerOf_65 rfl rfl ?_
        refine xr_get (n := 69) dX1_followerOf_66 fl_X1_9 (by first | exact lat_0 (lput_at _ _ _) | exact lat_r (lput_at _ _ _) (by decide)) (by rfl) rfl ?_
        refine xr_iload_n (n := 70) dX1_followerOf_69 rfl rfl ?_
        refine xr_iaload (n := 71) dX1_followerOf_70 (by first | exact lat_0 (lput_at _ _ _) | exact lat_r (lput_at _ _ _) (by decide)) (by first | exact vp_in_nI (by omega) (by omega)) rfl ?_
        (first | (simp (disch := omega) only [nI_clamp, pk_mul, nI_add, oi1, up2_ss, up2_n, up2_sn, ur_s, ur_n, Nat.reduceMul, Nat.reduceAdd, Nat.add_zero, e0, e6, e7]) | skip)
        refine xr_iconst (v := nI 4) (n := 72) dX1_followerOf_71 (by decide) rfl ?_
        refine xr_icmp_ne (tgt := 79) (n := 75) dX1_followerOf_72 (by decide) rfl (fun h72 => ?_) (fun h72 => ?_)
        · refine xr_aload_n (n := 80) dX1_followerOf_79 rfl rfl ?_
          refine xr_get (n := 83) dX1_followerOf_80 fl_X1_36 (by first | exact lat_0 (lput_at _ _ _) | exact lat_r (lput_at _ _ _) (by decide)) (by rfl) rfl ?_
          refine xr_iload_n (n := 84) dX1_followerOf_83 rfl rfl ?_
          refine xr_iaload (n := 85) dX1_followerOf_84 (by first | exact lat_0 (lput_at _ _ _) | exact lat_r (lput_at _ _ _) (by decide)) (by first | exact vp_in_nI (by omega) (by omega)) rfl ?_
          (first | (simp (disch := omega) only [nI_clamp, pk_mul, nI_add, oi1, up2_ss, up2_n, up2_sn, ur_s, ur_n, Nat.reduceMul, Nat.reduceAdd, Nat.add_zero, e0, e6, e7]) | skip)
          rw [h8 k hks]
          refine xr_ireturn dX1_followerOf_85 rfl rfl rfl ?_
          rw [if_neg (by ((try simp (disch := omega) only [i_lt, i_le, i_eq, nt, i_m1, Int32.toInt_zero] at *); omega))] at hF
          first | (rw [if_pos (by ((try simp (disch := omega) only [i_lt, i_le, i_eq, nt, i_m1, Int32.toInt_zero] at *); omega))] at hF; rw [hF] at hq; exact hq) | (rw [if_neg (by ((try simp (disch := omega) only [i_lt, i_le, i_eq, nt, i_m1, Int32.toInt_zero] at *); omega))] at hF; rw [hF] at hq; exact hq)
        · refine xr_iload_n (n := 76) dX1_followerOf_75 rfl rfl ?_
          refine xr_goto (n := 85) dX1_followerOf_76 (by decide) ?_
          refine xr_ireturn dX1_followerOf_85 rfl rfl rfl ?_
          rw [if_neg (by ((try simp (disch := omega) only [i_lt, i_le, i_eq, nt, i_m1, Int32.toInt_zero] at *); omega))] at hF
          first | (rw [if_pos (by ((try simp (disch := omega) only [i_lt, i_le, i_eq, nt, i_m1, Int32.toInt_zero] at *); omega))] at hF; rw [hF] at hq; exact hq) | (rw [if_neg (by ((try simp (disch := omega) only [i_lt, i_le, i_eq, nt, i_m1, Int32.toInt_zero] at *); omega))] at hF; rw [hF] at hq; exact hq)
      · refine xr_iload_n (n := 64) dX1_followerOf_63 rfl rfl ?_
        refine xr_ireturn dX1_followerOf_64 rfl rfl rfl ?_
        rw [if_pos (by ((try simp (disch := omega) only [i_lt, i_le, i_eq, nt, i_m1, Int32.toInt_zero] at *); omega))] at hF
        rw [hF] at hq
        exact hq
    · have hA : s < amid P k := by ((try simp (disch := omega) only [i_lt, i_le, i_eq, nt, i_m1, Int32.toInt_zero] at *); omega)
      rw [if_pos hA] at hF
      refine xr_aload_n (n := 41) dX1_followerOf_40 rfl rfl ?_
      refine xr_get (n := 44) dX1_followerOf_41 fl_X1_30 (by first | exact lat_0 (lput_at _ _ _) | exact lat_r (lput_at _ _ _) (by decide)) (by rfl) rfl ?_
      refine xr_iload_n (n := 45) dX1_followerOf_44 rfl rfl ?_
      refine xr_iaload (n := 46) dX1_followerOf_45 (by first | exact lat_0 (lput_at _ _ _) | exact lat_r (lput_at _ _ _) (by decide)) (by first | exact vp_in_nI (by omega) (by omega)) rfl ?_
      (first | (simp (disch := omega) only [nI_clamp, pk_mul, nI_add, oi1, up2_ss, up2_n, up2_sn, ur_s, ur_n, Nat.reduceMul, Nat.reduceAdd, Nat.add_zero, e0, e6, e7]) | skip)
      refine xr_goto (n := 55) dX1_followerOf_46 (by decide) ?_
      refine xr_istore (n := 57) dX1_followerOf_55 rfl rfl ?_
      simp only [xst, Nat.beq, List.filter, Bool.not_true, Bool.not_false]
      refine xr_iload_n (n := 58) dX1_followerOf_57 rfl rfl ?_
      refine xr_iload (n := 60) dX1_followerOf_58 rfl rfl ?_
      refine xr_icmp_ge (tgt := 65) (n := 63) dX1_followerOf_60 (by decide) rfl (fun h60 => ?_) (fun h60 => ?_)
      · refine xr_aload_n (n := 66) dX1_followerOf_65 rfl rfl ?_
        refine xr_get (n := 69) dX1_followerOf_66 fl_X1_9 (by first | exact lat_0 (lput_at _ _ _) | exact lat_r (lput_at _ _ _) (by decide)) (by rfl) rfl ?_
        refine xr_iload_n (n := 70) dX1_followerOf_69 rfl rfl ?_
        refine xr_iaload (n := 71) dX1_followerOf_70 (by first | exact lat_0 (lput_at _ _ _) | exact lat_r (lput_at _ _ _) (by decide)) (by first | exact vp_in_nI (by omega) (by omega)) rfl ?_
        (first | (simp (disch := omega) only [nI_clamp, pk_mul, nI_add, oi1, up2_ss, up2_n, up2_sn, ur_s, ur_n, Nat.reduceMul, Nat.reduceAdd, Nat.add_zero, e0, e6, e7]) | skip)
        refine xr_iconst (v := nI 4) (n := 72) dX1_followerOf_71 (by decide) rfl ?_
        refine xr_icmp_ne (tgt := 79) (n := 75) dX1_followerOf_72 (by decide) rfl (fun h72 => ?_) (fun h72 => ?_)
        · refine xr_aload_n (n := 80) dX1_followerOf_79 rfl rfl ?_
          refine xr_get (n := 83) dX1_followerOf_80 fl_X1_36 (by first | exact lat_0 (lput_at _ _ _) | exact lat_r (lput_at _ _ _) (by decide)) (by rfl) rfl ?_
          refine xr_iload_n (n := 84) dX1_followerOf_83 rfl rfl ?_
          refine xr_iaload (n := 85) dX1_followerOf_84 (by first | exact lat_0 (lput_at _ _ _) | exact lat_r (lput_at _ _ _) (by decide)) (by first | exact vp_in_nI (by omega) (by omega)) rfl ?_
          (first | (simp (disch := omega) only [nI_clamp, pk_mul, nI_add, oi1, up2_ss, up2_n, up2_sn, ur_s, ur_n, Nat.reduceMul, Nat.reduceAdd, Nat.add_zero, e0, e6, e7]) | skip)
          rw [h8 k hks]
          refine xr_ireturn dX1_followerOf_85 rfl rfl rfl ?_
          rw [if_neg (by ((try simp (disch := omega) only [i_lt, i_le, i_eq, nt, i_m1, Int32.toInt_zero] at *); omega))] at hF
          first | (rw [if_pos (by ((try simp (disch := omega) only [i_lt, i_le, i_eq, nt, i_m1, Int32.toInt_zero] at *); omega))] at hF; rw [hF] at hq; exact hq) | (rw [if_neg (by ((try simp (disch := omega) only [i_lt, i_le, i_eq, nt, i_m1, Int32.toInt_zero] at *); omega))] at hF; rw [hF] at hq; exact hq)
        · refine xr_iload_n (n := 76) dX1_followerOf_75 rfl rfl ?_
          refine xr_goto (n := 85) dX1_followerOf_76 (by decide) ?_
          refine xr_ireturn dX1_followerOf_85 rfl rfl rfl ?_
          rw [if_neg (by ((try simp (disch := omega) only [i_lt, i_le, i_eq, nt, i_m1, Int32.toInt_zero] at *); omega))] at hF
          first | (rw [if_pos (by ((try simp (disch := omega) only [i_lt, i_le, i_eq, nt, i_m1, Int32.toInt_zero] at *); omega))] at hF; rw [hF] at hq; exact hq) | (rw [if_neg (by ((try simp (disch := omega) only [i_lt, i_le, i_eq, nt, i_m1, Int32.toInt_zero] at *); omega))] at hF; rw [hF] at hq; exact hq)
      · refine xr_iload_n (n := 64) dX1_followerOf_63 rfl rfl ?_
        refine xr_ireturn dX1_followerOf_64 rfl rfl rfl ?_
        rw [if_pos (by ((try simp (disch := omega) only [i_lt, i_le, i_eq, nt, i_m1, Int32.toInt_zero] at *); omega))] at hF
        rw [hF] at hq
        exact hq
  · have ho0 : outr P s s = 0 := by
      refine Nat.eq_zero_of_not_pos (fun q => h25 ?_)
      unfold oui
      rw [if_neg (by omega), nt _ (by omega)]
      omega
    refine xr_iload_n (n := 29) dX1_followerOf_28 rfl rfl ?_
    refine xr_ireturn dX1_followerOf_29 rfl rfl rfl ?_
    rw [fol_0 ho0] at hq
    exact hq

theorem s_X1_link {G : xG} {d : Nat} {f : Nat → xC} {r : Nat × Nat} {Q : Option Value → xM → Prop} {a n : Nat} {σ : xS} {P : Nat → Nat → Nat} (hQ : LsQ σ n P) (hO : okP n P) (hq : ∀ τ, (∀ w, w ≠ 8 → τ w = σ w) → LsP τ n P → Q none (lput f a τ, r)) : xMet G (d + 4) mX1_link [.ref a] (lput f a σ, r) r Q := by
  refine xMet_0 (by decide +kernel) rfl (Nat.le_of_ble_eq_true rfl) ?_
  show xX G (d + 4) mX1_link r r (xΦ G r r Q) 0 [(0, .ref a)] [] (lput f a σ, r)
  refine xr_iconst (v := nI 0) (n := 1) dX1_link_0 (by decide) rfl ?_
  refine xq_istore_n 1 (n := 2) dX1_link_1 rfl rfl rfl ?_
  simp only [xst, Nat.beq, List.filter, Bool.not_true, Bool.not_false]
  obtain ⟨hn, hn2, hS⟩ := id hQ
  have key : ∀ k, k ≤ n → ∀ τ, (∀ w, w ≠ 8 → τ w = σ w) → (∀ j, j < k → τ 8 j = nI (fol P j)) → xX G (d + 4) mX1_link r r (xΦ G r r Q) 2 [(0, .ref a), (1, .int (nI k))] [] (lput f a τ, r) := by
    refine nat_down (P := fun k => ∀ τ, (∀ w, w ≠ 8 → τ w = σ w) → (∀ j, j < k → τ 8 j = nI (fol P j)) → xX G (d + 4) mX1_link r r (xΦ G r r Q) 2 [(0, .ref a), (1, .int (nI k))] [] (lput f a τ, r)) (N := n) ?_ ?_
    · intro τ hτ h8
      have hτn : τ 9 0 = nI n := by rw [hτ 9 (by omega)]; exact hn
      refine xr_iload_n (n := 3) dX1_link_2 rfl rfl ?_
      refine xr_aload_n (n := 4) dX1_link_3 rfl rfl ?_
      refine xr_get (n := 7) dX1_link_4 fl_X1_39 (by first | exact lat_0 (lput_at _ _ _) | exact lat_r (lput_at _ _ _) (by decide)) (by rfl) rfl ?_
      (first | (simp (disch := omega) only [nI_clamp, pk_mul, nI_add, oi1, up2_ss, up2_n, up2_sn, ur_s, ur_n, Nat.reduceMul, Nat.reduceAdd, Nat.add_zero, hτn]) | skip)
      refine xr_icmp_ge (tgt := 33) (n := 10) dX1_link_7 (by decide) rfl (fun h7 => ?_) (fun h7 => by (exfalso; ((try simp (disch := omega) only [i_lt, i_le, i_eq, nt, i_m1, Int32.toInt_zero] at *); omega)))
      refine xr_return dX1_link_33 rfl rfl ?_
      exact hq τ hτ ⟨hτn, hn2, fun s hs => ⟨(hS s hs).w8 hτ, h8 s hs⟩⟩
    · intro k hk ih τ hτ h8
      have hτn : τ 9 0 = nI n := by rw [hτ 9 (by omega)]; exact hn
      refine xr_iload_n (n := 3) dX1_link_2 rfl rfl ?_
      refine xr_aload_n (n := 4) dX1_link_3 rfl rfl ?_
      refine xr_get (n := 7) dX1_link_4 fl_X1_39 (by first | exact lat_0 (lput_at _ _ _) | exact lat_r (lput_at _ _ _) (by decide)) (by rfl) rfl ?_
      (first | (simp (disch := omega) only [nI_clamp, pk_mul, nI_add, oi1, up2_ss, up2_n, up2_sn, ur_s, ur_n, Nat.reduceMul, Nat.reduceAdd, Nat.add_zero, hτn]) | skip)
      refine xr_icmp_ge (tgt := 33) (n := 10) dX1_link_7 (by decide) rfl (fun h7 => by (exfalso; ((try simp (disch := omega) only [i_lt, i_le, i_eq, nt, i_m1, Int32.toInt_zero] at *); omega))) (fun h7 => ?_)
      refine xr_iload_n (n := 11) dX1_link_10 rfl rfl ?_
      refine xr_bipush (v := nI 60) (n := 13) dX1_link_11 (by decide) rfl ?_
      refine xr_icmp_ge (tgt := 33) (n := 16) dX1_link_13 (by decide) rfl (fun h13 => by (exfalso; ((try simp (disch := omega) only [i_lt, i_le, i_eq, nt, i_m1, Int32.toInt_zero] at *); omega))) (fun h13 => ?_)
      refine xr_aload_n (n := 17) dX1_link_16 rfl rfl ?_
      refine xr_get (n := 20) dX1_link_17 fl_X1_36 (by first | exact lat_0 (lput_at _ _ _) | exact lat_r (lput_at _ _ _) (by decide)) (by rfl) rfl ?_
      refine xr_iload_n (n := 21) dX1_link_20 rfl rfl ?_
      refine xr_aload_n (n := 22) dX1_link_21 rfl rfl ?_
      refine xr_iload_n (n := 23) dX1_link_22 rfl rfl ?_
      refine xr_callV (y2 := mX1_followerOf) (As := [_]) (n := 26) dX1_link_23 lm_X1_68 pm_X1_followerOf pi_X1_followerOf (by first | exact lat_0 (lput_at _ _ _) | exact lat_r (lput_at _ _ _) (by decide)) rfl rfl rfl (by simp [Value.category]) rfl ⟨Nat.le_refl _, Nat.le_refl _⟩ ?_
      refine s_X1_followerOf (P := P) ⟨hτn, hn2, fun s hs => (hS s hs).w8 hτ⟩ hO hk h8 ?_
      dsimp only [xK, xps]
      refine xq_iastore (n := 27) dX1_link_26 (by first | exact lat_0 (lput_at _ _ _) | exact lat_r (lput_at _ _ _) (by decide)) (by first | exact vp_in_nI (by omega) (by omega)) rfl ?_
      simp (disch := omega) only [nI_clamp, List.set, lw_0, lw_1, lw_2, lw_3, lw_4, lw_5, lw_6, lw_7, lw_8, lw_9]
      refine xr_iinc (n := 30) dX1_link_27 rfl rfl (rfl) rfl ?_
      simp only [xst, Nat.beq, List.filter, Bool.not_true, Bool.not_false]
      (first | (simp (disch := omega) only [nI_clamp, pk_mul, nI_add, oi1, up2_ss, up2_n, up2_sn, ur_s, ur_n, Nat.reduceMul, Nat.reduceAdd, Nat.add_zero, hτn]) | skip)
      refine xr_goto (n := 2) dX1_link_30 (by decide) ?_
      refine ih _ (fun w hw => by rw [up2_n _ _ _ hw]; exact hτ w hw) (fun j hj => ?_)
      by_cases e : j = k
      · subst e; rw [up2_ss]
      · rw [up2_sn _ _ _ e]; exact h8 j (by omega)
  exact key 0 (Nat.zero_le _) σ (fun _ _ => rfl) (fun j hj => by omega)
