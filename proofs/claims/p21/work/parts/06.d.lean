/-! the class: traces -/
theorem c_in {c : Nat} (h : c < 6) : 0 ≤ (nI c).toInt ∧ (nI c).toInt ≤ 5 := by rw [nt _ (by omega)]; omega
theorem c_in2 {c : Nat} (h : c < 6) : (nI 0).toInt ≤ (nI c).toInt ∧ (nI c).toInt ≤ (nI 5).toInt := by rw [nt _ (by omega), nt _ (by omega), nt _ (by omega)]; omega
theorem near_eq (v : Int32) : (if (-999 : Int32) < (if v < nI 999 then v else nI 999) then (if v < nI 999 then v else nI 999) else (-999)) = mheld v := by
  have e1 := im999
  have e2 := i999
  unfold mheld
  by_cases h1 : v < (-999)
  · have h2 : v < nI 999 := by rw [i_lt] at *; omega
    rw [if_pos h2, if_pos h1, if_neg (by rw [i_lt] at *; omega)]
  · rw [if_neg h1]
    by_cases h3 : nI 999 < v
    · have h2 : ¬ v < nI 999 := by rw [i_lt] at *; omega
      rw [if_neg h2, if_pos h3, if_pos (by rw [i_lt] at *; omega)]
    · rw [if_neg h3]
      by_cases h4 : v < nI 999
      · rw [if_pos h4]
        by_cases h5 : (-999 : Int32) < v
        · rw [if_pos h5]
        · rw [if_neg h5, i_eq]
          rw [i_lt] at *
          omega
      · have h6 : v = nI 999 := by rw [i_eq]; rw [i_lt] at *; omega
        rw [if_neg h4, h6, if_pos (by rw [i_lt]; omega)]
theorem mheld_id {v : Int32} (h : -999 ≤ v.toInt ∧ v.toInt ≤ 999) : mheld v = v := by
  have e1 := im999
  have e2 := i999
  unfold mheld
  rw [if_neg (by rw [i_lt]; omega), if_neg (by rw [i_lt]; omega)]
theorem near_eq2 (v : Int32) : (if (-999 : Int32) < (if nI 999 < v then nI 999 else v) then (if nI 999 < v then nI 999 else v) else (-999)) = mheld v := by
  have e1 := im999
  have e2 := i999
  unfold mheld
  by_cases h1 : v < (-999)
  · have h2 : ¬ nI 999 < v := by rw [i_lt] at *; omega
    rw [if_neg h2, if_pos h1, if_neg (by rw [i_lt] at *; omega)]
  · rw [if_neg h1]
    by_cases h3 : nI 999 < v
    · rw [if_pos h3, if_pos (by rw [i_lt]; omega)]
    · rw [if_neg h3]
      by_cases h5 : (-999 : Int32) < v
      · rw [if_pos h5]
      · rw [if_neg h5, i_eq]
        rw [i_lt] at *
        omega
theorem s_X6_nearestValue {G : xG} {d : Nat} {f : Nat → xC} {r : Nat × Nat} {Q : Option Value → xM → Prop} {v : Int32}  (hq : Q (some (.int (mheld v))) (f, r)) : xMet G (d + 1) mX6_nearestValue [.int v] (f, r) r Q := by
  refine xMet_0 (by decide +kernel) rfl (Nat.le_of_ble_eq_true rfl) ?_
  show xX G (d + 1) mX6_nearestValue r r (xΦ G r r Q) 0 [(0, .int v)] [] (f, r)
  refine xr_sipush (v := (-999)) (n := 3) dX6_nearestValue_0 (by decide) rfl ?_
  refine xr_sipush (v := nI 999) (n := 6) dX6_nearestValue_3 (by decide) rfl ?_
  refine xr_iload_n (n := 7) dX6_nearestValue_6 rfl rfl ?_
  refine xr_mmin (n := 10) dX6_nearestValue_7 km_X6_125 (by simp [Value.category]) rfl ?_
  skip
  refine xr_mmax (n := 13) dX6_nearestValue_10 km_X6_104 (by simp [Value.category]) rfl ?_
  first | rw [near_eq] | rw [near_eq2]
  refine xr_ireturn dX6_nearestValue_13 rfl rfl rfl ?_
  first | exact hq | (rw [b2i_t (by ((try simp (disch := omega) only [i_lt, i_le, i_eq, nt, i_m1, Int32.toInt_zero] at *); omega))] at hq; exact hq) | (rw [b2i_f (by ((try simp (disch := omega) only [i_lt, i_le, i_eq, nt, i_m1, Int32.toInt_zero] at *); omega))] at hq; exact hq)

theorem s_X6_setCell {G : xG} {d : Nat} {f : Nat → xC} {r : Nat × Nat} {Q : Option Value → xM → Prop} {a : Nat} {δ : xS} {c : Nat} {v : Int32} (hc : c < 6) (hq : Q none (tput f a (up2 δ 1 c v), r)) : xMet G (d + 2) mX6_setCell [.ref a, .int (nI c), .int v] (tput f a δ, r) r Q := by
  refine xMet_0 (by decide +kernel) rfl (Nat.le_of_ble_eq_true rfl) ?_
  show xX G (d + 2) mX6_setCell r r (xΦ G r r Q) 0 [(0, .ref a), (1, .int (nI c)), (2, .int v)] [] (tput f a δ, r)
  refine xr_iload_n (n := 1) dX6_setCell_0 rfl rfl ?_
  refine xr_callS (y2 := mX7_isCell) (As := [_]) (n := 4) dX6_setCell_1 lm_X6_128 pm_X7_isCell kp_static_yX7_isCell rfl rfl (by simp [Value.category]) rfl ⟨Nat.le_refl _, Nat.le_refl _⟩ ?_
  refine s_X7_isCell ?_
  dsimp only [xK, xps]
  refine xr_beq (tgt := 14) (n := 7) dX6_setCell_4 (by decide) rfl (fun h4 => ?_) (fun h4 => ?_)
  · exact absurd (c_in hc) h4
  · refine xr_aload_n (n := 8) dX6_setCell_7 rfl rfl ?_
    refine xr_get (n := 11) dX6_setCell_8 fl_X6_18 (by first | exact tat_0 (tput_at _ _ _) | exact tat_r (tput_at _ _ _) (by decide) | exact tat_0 hT | exact tat_r hT (by decide)) (by rfl) rfl ?_
    refine xr_iload_n (n := 12) dX6_setCell_11 rfl rfl ?_
    refine xr_iload_n (n := 13) dX6_setCell_12 rfl rfl ?_
    refine xq_iastore (n := 14) dX6_setCell_13 (by first | exact tat_0 (tput_at _ _ _) | exact tat_r (tput_at _ _ _) (by decide) | exact tat_0 hT | exact tat_r hT (by decide)) (by first | exact vp_in_nI (by omega) (by omega)) rfl ?_
    simp (disch := omega) only [nI_clamp, List.set, tw_0, tw_1, tw_2, tw_3, tw_4, tw_5, tw_6, tw_7, tw_8, tw_9, tw_10]
    refine xr_return dX6_setCell_14 rfl rfl ?_
    first | exact hq | (rw [b2i_t (by ((try simp (disch := omega) only [i_lt, i_le, i_eq, nt, i_m1, Int32.toInt_zero] at *); omega))] at hq; exact hq) | (rw [b2i_f (by ((try simp (disch := omega) only [i_lt, i_le, i_eq, nt, i_m1, Int32.toInt_zero] at *); omega))] at hq; exact hq)

theorem s_X6_valueOf {G : xG} {d : Nat} {f : Nat → xC} {r : Nat × Nat} {Q : Option Value → xM → Prop} {a : Nat} {δ : xS} {c : Nat} (hT : tat f a δ) (hc : c < 6) (hq : Q (some (.int (δ 1 c))) (f, r)) : xMet G (d + 2) mX6_valueOf [.ref a, .int (nI c)] (f, r) r Q := by
  refine xMet_0 (by decide +kernel) rfl (Nat.le_of_ble_eq_true rfl) ?_
  show xX G (d + 2) mX6_valueOf r r (xΦ G r r Q) 0 [(0, .ref a), (1, .int (nI c))] [] (f, r)
  refine xr_iload_n (n := 1) dX6_valueOf_0 rfl rfl ?_
  refine xr_iconst (v := nI 0) (n := 2) dX6_valueOf_1 (by decide) rfl ?_
  refine xr_iconst (v := nI 5) (n := 3) dX6_valueOf_2 (by decide) rfl ?_
  refine xr_callS (y2 := mX7_isWithin) (As := [_, _, _]) (n := 6) dX6_valueOf_3 lm_X6_100 pm_X7_isWithin kp_static_yX7_isWithin rfl rfl (by simp [Value.category]) rfl ⟨Nat.le_refl _, Nat.le_refl _⟩ ?_
  refine s_X7_isWithin ?_
  dsimp only [xK, xps]
  refine xr_beq (tgt := 18) (n := 9) dX6_valueOf_6 (by decide) rfl (fun h6 => ?_) (fun h6 => ?_)
  · exact absurd (c_in2 hc) h6
  · refine xr_aload_n (n := 10) dX6_valueOf_9 rfl rfl ?_
    refine xr_get (n := 13) dX6_valueOf_10 fl_X6_18 (by first | exact tat_0 (tput_at _ _ _) | exact tat_r (tput_at _ _ _) (by decide) | exact tat_0 hT | exact tat_r hT (by decide)) (by rfl) rfl ?_
    refine xr_iload_n (n := 14) dX6_valueOf_13 rfl rfl ?_
    refine xr_iaload (n := 15) dX6_valueOf_14 (by first | exact tat_0 (tput_at _ _ _) | exact tat_r (tput_at _ _ _) (by decide) | exact tat_0 hT | exact tat_r hT (by decide)) (by first | exact vp_in_nI (by omega) (by omega)) rfl ?_
    (first | (simp (disch := omega) only [nI_clamp, pk_mul, nI_add, oi1, up2_ss, up2_n, up2_sn, ur_s, ur_n, Nat.reduceMul, Nat.reduceAdd, Nat.add_zero]) | skip)
    refine xr_goto (n := 19) dX6_valueOf_15 (by decide) ?_
    refine xr_ireturn dX6_valueOf_19 rfl rfl rfl ?_
    first | exact hq | (rw [b2i_t (by ((try simp (disch := omega) only [i_lt, i_le, i_eq, nt, i_m1, Int32.toInt_zero] at *); omega))] at hq; exact hq) | (rw [b2i_f (by ((try simp (disch := omega) only [i_lt, i_le, i_eq, nt, i_m1, Int32.toInt_zero] at *); omega))] at hq; exact hq)

theorem s_X6_valueOf' {G : xG} {d : Nat} {f : Nat → xC} {r : Nat × Nat} {Q : Option Value → xM → Prop} {a : Nat} {δ : xS} {c : Nat} (hc : c < 6) (hq : Q (some (.int (δ 1 c))) (tput f a δ, r)) : xMet G (d + 2) mX6_valueOf [.ref a, .int (nI c)] (tput f a δ, r) r Q := s_X6_valueOf (tput_at _ _ _) hc hq
theorem s_X6_termValue {G : xG} {d : Nat} {f : Nat → xC} {r : Nat × Nat} {Q : Option Value → xM → Prop} {a : Nat} {δ : xS} {u : Nat} (hu : okT u) (hq : Q (some (.int (aterm δ u))) (tput f a δ, r)) : xMet G (d + 3) mX6_termValue [.ref a, .int (nI (tmv u))] (tput f a δ, r) r Q := by
  refine xMet_0 (by decide +kernel) rfl (Nat.le_of_ble_eq_true rfl) ?_
  show xX G (d + 3) mX6_termValue r r (xΦ G r r Q) 0 [(0, .ref a), (1, .int (nI (tmv u)))] [] (tput f a δ, r)
  have ht : (tmv u < 1000 ↔ ¬ u < 10) ∧ tmv u < 2000 := by unfold tmv; unfold okT at hu; split <;> omega
  refine xr_iload_n (n := 1) dX6_termValue_0 rfl rfl ?_
  refine xr_sipush (v := nI 1000) (n := 4) dX6_termValue_1 (by decide) rfl ?_
  refine xr_icmp_ge (tgt := 11) (n := 7) dX6_termValue_4 (by decide) rfl (fun h4 => ?_) (fun h4 => ?_)
  · have hu2 : u < 10 := by ((try simp (disch := omega) only [i_lt, i_le, i_eq, nt, i_m1, Int32.toInt_zero] at *); omega)
    have hu6 : u < 6 := by unfold okT at hu; omega
    refine xr_aload_n (n := 12) dX6_termValue_11 rfl rfl ?_
    refine xr_iload_n (n := 13) dX6_termValue_12 rfl rfl ?_
    refine xr_sipush (v := nI 1000) (n := 16) dX6_termValue_13 (by decide) rfl ?_
    refine xr_isub (n := 17) dX6_termValue_16 rfl ?_
    rw [show nI (tmv u) - nI 1000 = nI u from by unfold tmv; rw [if_pos hu2, ← nI_add, Int32.add_comm, Int32.add_sub_cancel]]
    refine xr_callV (y2 := mX6_valueOf) (As := [_]) (n := 20) dX6_termValue_17 lm_X6_68 pm_X6_valueOf pi_X6_valueOf (by first | exact tat_0 (tput_at _ _ _) | exact tat_r (tput_at _ _ _) (by decide) | exact tat_0 hT | exact tat_r hT (by decide)) rfl rfl rfl (by simp [Value.category]) rfl ⟨Nat.le_refl _, Nat.le_refl _⟩ ?_
    refine s_X6_valueOf' (by omega) ?_
    dsimp only [xK, xps]
    refine xr_ireturn dX6_termValue_20 rfl rfl rfl ?_
    refine qi hq ?_
    unfold aterm
    first | (rw [if_pos hu2]; done) | (rw [if_neg hu2]; unfold tmv; rw [if_neg hu2]; done)
  · have hu2 : ¬ u < 10 := by ((try simp (disch := omega) only [i_lt, i_le, i_eq, nt, i_m1, Int32.toInt_zero] at *); omega)
    refine xr_iload_n (n := 8) dX6_termValue_7 rfl rfl ?_
    refine xr_goto (n := 20) dX6_termValue_8 (by decide) ?_
    refine xr_ireturn dX6_termValue_20 rfl rfl rfl ?_
    refine qi hq ?_
    unfold aterm
    first | (rw [if_pos hu2]; done) | (rw [if_neg hu2]; unfold tmv; rw [if_neg hu2]; done)

theorem s_X6_marksKept {G : xG} {d : Nat} {f : Nat → xC} {r : Nat × Nat} {Q : Option Value → xM → Prop} {a : Nat} {δ : xS} {mk : Nat} (hT : tat f a δ) (h6 : δ 6 0 = nI mk) (hb : mk ≤ 400) (hq : Q (some (.int (nI (if 40 < mk then 40 else mk)))) (f, r)) : xMet G (d + 1) mX6_marksKept [.ref a] (f, r) r Q := by
  refine xMet_0 (by decide +kernel) rfl (Nat.le_of_ble_eq_true rfl) ?_
  show xX G (d + 1) mX6_marksKept r r (xΦ G r r Q) 0 [(0, .ref a)] [] (f, r)
  refine xr_aload_n (n := 1) dX6_marksKept_0 rfl rfl ?_
  refine xr_get (n := 4) dX6_marksKept_1 fl_X6_55 (by first | exact tat_0 (tput_at _ _ _) | exact tat_r (tput_at _ _ _) (by decide) | exact tat_0 hT | exact tat_r hT (by decide)) (by rfl) rfl ?_
  refine xr_bipush (v := nI 40) (n := 6) dX6_marksKept_4 (by decide) rfl ?_
  refine xr_mmin (n := 9) dX6_marksKept_6 km_X6_125 (by simp [Value.category]) rfl ?_
  rw [h6]
  first | rw [i_m40 hb] | rw [i_m40b hb]
  refine xr_ireturn dX6_marksKept_9 rfl rfl rfl ?_
  first | exact hq | (rw [b2i_t (by ((try simp (disch := omega) only [i_lt, i_le, i_eq, nt, i_m1, Int32.toInt_zero] at *); omega))] at hq; exact hq) | (rw [b2i_f (by ((try simp (disch := omega) only [i_lt, i_le, i_eq, nt, i_m1, Int32.toInt_zero] at *); omega))] at hq; exact hq)

theorem s_X6_stepsAheadOf {G : xG} {d : Nat} {f : Nat → xC} {r : Nat × Nat} {Q : Option Value → xM → Prop} {a : Nat} {δ : xS} {mk k : Nat} (hT : tat f a δ) (h6 : δ 6 0 = nI mk) (hb : mk ≤ 400) (hk : k < 40 ∧ k < mk) (hq : Q (some (.int (δ 3 k))) (f, r)) : xMet G (d + 2) mX6_stepsAheadOf [.ref a, .int (nI k)] (f, r) r Q := by
  refine xMet_0 (by decide +kernel) rfl (Nat.le_of_ble_eq_true rfl) ?_
  show xX G (d + 2) mX6_stepsAheadOf r r (xΦ G r r Q) 0 [(0, .ref a), (1, .int (nI k))] [] (f, r)
  refine xr_iload_n (n := 1) dX6_stepsAheadOf_0 rfl rfl ?_
  refine xr_iconst (v := nI 0) (n := 2) dX6_stepsAheadOf_1 (by decide) rfl ?_
  refine xr_aload_n (n := 3) dX6_stepsAheadOf_2 rfl rfl ?_
  refine xr_callV (y2 := mX6_marksKept) (As := []) (n := 6) dX6_stepsAheadOf_3 lm_X6_137 pm_X6_marksKept pi_X6_marksKept (by first | exact tat_0 (tput_at _ _ _) | exact tat_r (tput_at _ _ _) (by decide) | exact tat_0 hT | exact tat_r hT (by decide)) rfl rfl rfl (by simp [Value.category]) rfl ⟨Nat.le_refl _, Nat.le_refl _⟩ ?_
  refine s_X6_marksKept hT h6 hb ?_
  dsimp only [xK, xps]
  refine xr_iconst (v := nI 1) (n := 7) dX6_stepsAheadOf_6 (by decide) rfl ?_
  refine xr_isub (n := 8) dX6_stepsAheadOf_7 rfl ?_
  refine xr_callS (y2 := mX7_isWithin) (As := [_, _, _]) (n := 11) dX6_stepsAheadOf_8 lm_X6_100 pm_X7_isWithin kp_static_yX7_isWithin rfl rfl (by simp [Value.category]) rfl ⟨Nat.le_refl _, Nat.le_refl _⟩ ?_
  refine s_X7_isWithin ?_
  dsimp only [xK, xps]
  rw [b2i_iff (w_m40 hb (by omega))]
  refine xr_beq (tgt := 23) (n := 14) dX6_stepsAheadOf_11 (by decide) rfl (fun h11 => ?_) (fun h11 => ?_)
  · exact absurd hk h11
  · refine xr_aload_n (n := 15) dX6_stepsAheadOf_14 rfl rfl ?_
    refine xr_get (n := 18) dX6_stepsAheadOf_15 fl_X6_25 (by first | exact tat_0 (tput_at _ _ _) | exact tat_r (tput_at _ _ _) (by decide) | exact tat_0 hT | exact tat_r hT (by decide)) (by rfl) rfl ?_
    refine xr_iload_n (n := 19) dX6_stepsAheadOf_18 rfl rfl ?_
    refine xr_iaload (n := 20) dX6_stepsAheadOf_19 (by first | exact tat_0 (tput_at _ _ _) | exact tat_r (tput_at _ _ _) (by decide) | exact tat_0 hT | exact tat_r hT (by decide)) (by first | exact vp_in_nI (by omega) (by omega)) rfl ?_
    (first | (simp (disch := omega) only [nI_clamp, pk_mul, nI_add, oi1, up2_ss, up2_n, up2_sn, ur_s, ur_n, Nat.reduceMul, Nat.reduceAdd, Nat.add_zero]) | skip)
    refine xr_goto (n := 24) dX6_stepsAheadOf_20 (by decide) ?_
    refine xr_ireturn dX6_stepsAheadOf_24 rfl rfl rfl ?_
    first | exact hq | (rw [b2i_t (by ((try simp (disch := omega) only [i_lt, i_le, i_eq, nt, i_m1, Int32.toInt_zero] at *); omega))] at hq; exact hq) | (rw [b2i_f (by ((try simp (disch := omega) only [i_lt, i_le, i_eq, nt, i_m1, Int32.toInt_zero] at *); omega))] at hq; exact hq)

theorem s_X6_cellAtMark {G : xG} {d : Nat} {f : Nat → xC} {r : Nat × Nat} {Q : Option Value → xM → Prop} {a : Nat} {δ : xS} {mk k c : Nat} (hT : tat f a δ) (h6 : δ 6 0 = nI mk) (hb : mk ≤ 400) (hk : k < 2 ^ 31) (hc : c < 6) (hq : Q (some (.int (celA (0, δ) k c))) (f, r)) : xMet G (d + 2) mX6_cellAtMark [.ref a, .int (nI k), .int (nI c)] (f, r) r Q := by
  refine xMet_0 (by decide +kernel) rfl (Nat.le_of_ble_eq_true rfl) ?_
  show xX G (d + 2) mX6_cellAtMark r r (xΦ G r r Q) 0 [(0, .ref a), (1, .int (nI k)), (2, .int (nI c))] [] (f, r)
  refine xr_iload_n (n := 1) dX6_cellAtMark_0 rfl rfl ?_
  refine xr_iconst (v := nI 0) (n := 2) dX6_cellAtMark_1 (by decide) rfl ?_
  refine xr_aload_n (n := 3) dX6_cellAtMark_2 rfl rfl ?_
  refine xr_callV (y2 := mX6_marksKept) (As := []) (n := 6) dX6_cellAtMark_3 lm_X6_137 pm_X6_marksKept pi_X6_marksKept (by first | exact tat_0 (tput_at _ _ _) | exact tat_r (tput_at _ _ _) (by decide) | exact tat_0 hT | exact tat_r hT (by decide)) rfl rfl rfl (by simp [Value.category]) rfl ⟨Nat.le_refl _, Nat.le_refl _⟩ ?_
  refine s_X6_marksKept hT h6 hb ?_
  dsimp only [xK, xps]
  refine xr_iconst (v := nI 1) (n := 7) dX6_cellAtMark_6 (by decide) rfl ?_
  refine xr_isub (n := 8) dX6_cellAtMark_7 rfl ?_
  refine xr_callS (y2 := mX7_isWithin) (As := [_, _, _]) (n := 11) dX6_cellAtMark_8 lm_X6_100 pm_X7_isWithin kp_static_yX7_isWithin rfl rfl (by simp [Value.category]) rfl ⟨Nat.le_refl _, Nat.le_refl _⟩ ?_
  refine s_X7_isWithin ?_
  dsimp only [xK, xps]
  rw [b2i_iff (w_m40 hb hk)]
  refine xr_beq (tgt := 25) (n := 14) dX6_cellAtMark_11 (by decide) rfl (fun h11 => ?_) (fun h11 => ?_)
  · refine xr_iconst (v := nI 0) (n := 26) dX6_cellAtMark_25 (by decide) rfl ?_
    refine xq_istore_n 3 (n := 27) dX6_cellAtMark_26 rfl rfl rfl ?_
    simp only [xst, Nat.beq, List.filter, Bool.not_true, Bool.not_false]
    refine xr_iload_n (n := 28) dX6_cellAtMark_27 rfl rfl ?_
    refine xr_if_eq (tgt := 45) (n := 31) dX6_cellAtMark_28 (by decide) rfl (fun h28 => ?_) (fun h28 => by (exfalso; revert h28; decide))
    refine xr_sipush (v := (-10009)) (n := 48) dX6_cellAtMark_45 (by decide) rfl ?_
    refine xr_ireturn dX6_cellAtMark_48 rfl rfl rfl ?_
    refine qi hq ?_
    unfold celA
    rw [show ((0, δ) : Nat × xS).2 = δ from rfl, h6, ix_n (by omega)]
    rw [if_neg h11]
  · obtain ⟨hk40, hkm⟩ := h11
    refine xr_iload_n (n := 15) dX6_cellAtMark_14 rfl rfl ?_
    refine xr_callS (y2 := mX7_isCell) (As := [_]) (n := 18) dX6_cellAtMark_15 lm_X6_128 pm_X7_isCell kp_static_yX7_isCell rfl rfl (by simp [Value.category]) rfl ⟨Nat.le_refl _, Nat.le_refl _⟩ ?_
    refine s_X7_isCell ?_
    dsimp only [xK, xps]
    refine xr_beq (tgt := 25) (n := 21) dX6_cellAtMark_18 (by decide) rfl (fun h18 => ?_) (fun h18 => ?_)
    · exact absurd (c_in hc) h18
    · refine xr_iconst (v := nI 1) (n := 22) dX6_cellAtMark_21 (by decide) rfl ?_
      refine xr_goto (n := 26) dX6_cellAtMark_22 (by decide) ?_
      refine xq_istore_n 3 (n := 27) dX6_cellAtMark_26 rfl rfl rfl ?_
      simp only [xst, Nat.beq, List.filter, Bool.not_true, Bool.not_false]
      refine xr_iload_n (n := 28) dX6_cellAtMark_27 rfl rfl ?_
      refine xr_if_eq (tgt := 45) (n := 31) dX6_cellAtMark_28 (by decide) rfl (fun h28 => by (exfalso; revert h28; decide)) (fun h28 => ?_)
      refine xr_aload_n (n := 32) dX6_cellAtMark_31 rfl rfl ?_
      refine xr_get (n := 35) dX6_cellAtMark_32 fl_X6_22 (by first | exact tat_0 (tput_at _ _ _) | exact tat_r (tput_at _ _ _) (by decide) | exact tat_0 hT | exact tat_r hT (by decide)) (by rfl) rfl ?_
      refine xr_iload_n (n := 36) dX6_cellAtMark_35 rfl rfl ?_
      refine xr_bipush (v := nI 6) (n := 38) dX6_cellAtMark_36 (by decide) rfl ?_
      refine xr_imul (n := 39) dX6_cellAtMark_38 rfl ?_
      (first | (simp (disch := omega) only [nI_clamp, pk_mul, nI_add, oi1, up2_ss, up2_n, up2_sn, ur_s, ur_n, Nat.reduceMul, Nat.reduceAdd, Nat.add_zero]) | skip)
      refine xr_iload_n (n := 40) dX6_cellAtMark_39 rfl rfl ?_
      refine xr_iadd (n := 41) dX6_cellAtMark_40 rfl ?_
      (first | (simp (disch := omega) only [nI_clamp, pk_mul, nI_add, oi1, up2_ss, up2_n, up2_sn, ur_s, ur_n, Nat.reduceMul, Nat.reduceAdd, Nat.add_zero]) | skip)
      refine xr_iaload (n := 42) dX6_cellAtMark_41 (by first | exact tat_0 (tput_at _ _ _) | exact tat_r (tput_at _ _ _) (by decide) | exact tat_0 hT | exact tat_r hT (by decide)) (by first | exact vp_in_nI (by omega) (by omega)) rfl ?_
      (first | (simp (disch := omega) only [nI_clamp, pk_mul, nI_add, oi1, up2_ss, up2_n, up2_sn, ur_s, ur_n, Nat.reduceMul, Nat.reduceAdd, Nat.add_zero]) | skip)
      refine xr_goto (n := 48) dX6_cellAtMark_42 (by decide) ?_
      refine xr_ireturn dX6_cellAtMark_48 rfl rfl rfl ?_
      refine qi hq ?_
      unfold celA
      rw [show ((0, δ) : Nat × xS).2 = δ from rfl, h6, ix_n (by omega)]
      rw [if_pos ⟨hk40, hkm⟩, Nat.mul_comm 6 k]

/-- what the counts of a trace are after t steps -/
def trC (δ : xS) (t mk rd mo tl : Nat) : Prop := δ 5 0 = nI t ∧ δ 6 0 = nI mk ∧ δ 7 0 = nI rd ∧ δ 8 0 = nI mo ∧ δ 9 0 = nI tl ∧ mk ≤ t ∧ rd ≤ t ∧ mo ≤ t ∧ tl ≤ t ∧ t ≤ 400 ∧ (∀ k, k < 60 → ∃ u, u ≤ t ∧ δ 4 k = nI u) ∧ ∀ i, i < 6 → -999 ≤ (δ 1 i).toInt ∧ (δ 1 i).toInt ≤ 999
theorem s_X6_keepMark {G : xG} {d : Nat} {f : Nat → xC} {r : Nat × Nat} {Q : Option Value → xM → Prop} {a : Nat} {δ : xS} {mk : Nat} (h6 : δ 6 0 = nI mk) (hb : mk ≤ 400) (hq : Q none (tput f a (amark δ), r)) : xMet G (d + 2) mX6_keepMark [.ref a] (tput f a δ, r) r Q := by
  refine xMet_0 (by decide +kernel) rfl (Nat.le_of_ble_eq_true rfl) ?_
  show xX G (d + 2) mX6_keepMark r r (xΦ G r r Q) 0 [(0, .ref a)] [] (tput f a δ, r)
  refine xr_aload_n (n := 1) dX6_keepMark_0 rfl rfl ?_
  refine xr_get (n := 4) dX6_keepMark_1 fl_X6_55 (by first | exact tat_0 (tput_at _ _ _) | exact tat_r (tput_at _ _ _) (by decide) | exact tat_0 hT | exact tat_r hT (by decide)) (by rfl) rfl ?_
  (first | (simp (disch := omega) only [nI_clamp, pk_mul, nI_add, oi1, up2_ss, up2_n, up2_sn, ur_s, ur_n, Nat.reduceMul, Nat.reduceAdd, Nat.add_zero, h6]) | skip)
  refine xr_iconst (v := nI 0) (n := 5) dX6_keepMark_4 (by decide) rfl ?_
  refine xr_bipush (v := nI 39) (n := 7) dX6_keepMark_5 (by decide) rfl ?_
  refine xr_callS (y2 := mX7_isWithin) (As := [_, _, _]) (n := 10) dX6_keepMark_7 lm_X6_100 pm_X7_isWithin kp_static_yX7_isWithin rfl rfl (by simp [Value.category]) rfl ⟨Nat.le_refl _, Nat.le_refl _⟩ ?_
  refine s_X7_isWithin ?_
  dsimp only [xK, xps]
  rw [b2i_iff (w_39 hb)]
  refine xr_beq (tgt := 47) (n := 13) dX6_keepMark_10 (by decide) rfl (fun h10 => ?_) (fun h10 => ?_)
  · refine xr_aload_n (n := 48) dX6_keepMark_47 rfl rfl ?_
    refine xr_dup (n := 49) dX6_keepMark_48 rfl rfl ?_
    refine xr_get (n := 52) dX6_keepMark_49 fl_X6_55 (by first | exact tat_0 (tput_at _ _ _) | exact tat_r (tput_at _ _ _) (by decide) | exact tat_0 hT | exact tat_r hT (by decide)) (by rfl) rfl ?_
    (first | (simp (disch := omega) only [nI_clamp, pk_mul, nI_add, oi1, up2_ss, up2_n, up2_sn, ur_s, ur_n, Nat.reduceMul, Nat.reduceAdd, Nat.add_zero, h6]) | skip)
    refine xr_iconst (v := nI 1) (n := 53) dX6_keepMark_52 (by decide) rfl ?_
    refine xr_iadd (n := 54) dX6_keepMark_53 rfl ?_
    (first | (simp (disch := omega) only [nI_clamp, pk_mul, nI_add, oi1, up2_ss, up2_n, up2_sn, ur_s, ur_n, Nat.reduceMul, Nat.reduceAdd, Nat.add_zero, h6]) | skip)
    refine xq_put (n := 57) dX6_keepMark_54 fl_X6_55 rfl (by first | exact tat_0 (tput_at _ _ _) | exact tat_r (tput_at _ _ _) (by decide) | exact tat_0 hT | exact tat_r hT (by decide)) (by rfl) (by rfl) (by rfl) rfl ?_
    simp (disch := omega) only [nI_clamp, List.set, tw_0, tw_1, tw_2, tw_3, tw_4, tw_5, tw_6, tw_7, tw_8, tw_9, tw_10]
    refine xr_return dX6_keepMark_57 rfl rfl ?_
    refine qm hq ?_
    unfold amark
    rw [h6, ix_n (by omega), nI_add]
    first | rw [if_pos h10] | rw [if_neg h10]
    all_goals (first | rfl | (rw [up2_n δ _ _ (show 1 ≠ 3 by omega), up2_n δ _ _ (show 2 ≠ 3 by omega)]))
  · refine xr_aload_n (n := 14) dX6_keepMark_13 rfl rfl ?_
    refine xr_get (n := 17) dX6_keepMark_14 fl_X6_25 (by first | exact tat_0 (tput_at _ _ _) | exact tat_r (tput_at _ _ _) (by decide) | exact tat_0 hT | exact tat_r hT (by decide)) (by rfl) rfl ?_
    refine xr_aload_n (n := 18) dX6_keepMark_17 rfl rfl ?_
    refine xr_get (n := 21) dX6_keepMark_18 fl_X6_55 (by first | exact tat_0 (tput_at _ _ _) | exact tat_r (tput_at _ _ _) (by decide) | exact tat_0 hT | exact tat_r hT (by decide)) (by rfl) rfl ?_
    (first | (simp (disch := omega) only [nI_clamp, pk_mul, nI_add, oi1, up2_ss, up2_n, up2_sn, ur_s, ur_n, Nat.reduceMul, Nat.reduceAdd, Nat.add_zero, h6]) | skip)
    refine xr_aload_n (n := 22) dX6_keepMark_21 rfl rfl ?_
    refine xr_get (n := 25) dX6_keepMark_22 fl_X6_45 (by first | exact tat_0 (tput_at _ _ _) | exact tat_r (tput_at _ _ _) (by decide) | exact tat_0 hT | exact tat_r hT (by decide)) (by rfl) rfl ?_
    refine xq_iastore (n := 26) dX6_keepMark_25 (by first | exact tat_0 (tput_at _ _ _) | exact tat_r (tput_at _ _ _) (by decide) | exact tat_0 hT | exact tat_r hT (by decide)) (by first | exact vp_in_nI (by omega) (by omega)) rfl ?_
    simp (disch := omega) only [nI_clamp, List.set, tw_0, tw_1, tw_2, tw_3, tw_4, tw_5, tw_6, tw_7, tw_8, tw_9, tw_10]
    refine xr_aload_n (n := 27) dX6_keepMark_26 rfl rfl ?_
    refine xr_get (n := 30) dX6_keepMark_27 fl_X6_18 (by first | exact tat_0 (tput_at _ _ _) | exact tat_r (tput_at _ _ _) (by decide) | exact tat_0 hT | exact tat_r hT (by decide)) (by rfl) rfl ?_
    refine xr_iconst (v := nI 0) (n := 31) dX6_keepMark_30 (by decide) rfl ?_
    refine xr_aload_n (n := 32) dX6_keepMark_31 rfl rfl ?_
    refine xr_get (n := 35) dX6_keepMark_32 fl_X6_22 (by first | exact tat_0 (tput_at _ _ _) | exact tat_r (tput_at _ _ _) (by decide) | exact tat_0 hT | exact tat_r hT (by decide)) (by rfl) rfl ?_
    refine xr_aload_n (n := 36) dX6_keepMark_35 rfl rfl ?_
    refine xr_get (n := 39) dX6_keepMark_36 fl_X6_55 (by first | exact tat_0 (tput_at _ _ _) | exact tat_r (tput_at _ _ _) (by decide) | exact tat_0 hT | exact tat_r hT (by decide)) (by rfl) rfl ?_
    (first | (simp (disch := omega) only [nI_clamp, pk_mul, nI_add, oi1, up2_ss, up2_n, up2_sn, ur_s, ur_n, Nat.reduceMul, Nat.reduceAdd, Nat.add_zero, h6]) | skip)
    refine xr_bipush (v := nI 6) (n := 41) dX6_keepMark_39 (by decide) rfl ?_
    refine xr_imul (n := 42) dX6_keepMark_41 rfl ?_
    (first | (simp (disch := omega) only [nI_clamp, pk_mul, nI_add, oi1, up2_ss, up2_n, up2_sn, ur_s, ur_n, Nat.reduceMul, Nat.reduceAdd, Nat.add_zero, h6]) | skip)
    refine xr_bipush (v := nI 6) (n := 44) dX6_keepMark_42 (by decide) rfl ?_
    refine xq_copy (n := 47) dX6_keepMark_44 km_X6_131 (by first | exact tat_0 (tput_at _ _ _) | exact tat_r (tput_at _ _ _) (by decide) | exact tat_0 hT | exact tat_r hT (by decide)) (by first | exact tat_0 (tput_at _ _ _) | exact tat_r (tput_at _ _ _) (by decide) | exact tat_0 hT | exact tat_r hT (by decide)) (by decide) (fun q => by rw [i_lt, nt _ (by omega), Int32.toInt_zero] at q; omega) (by decide) (by decide) (by rw [nI_clamp (by omega), show (nI 6).toNatClampNeg = 6 from nI_clamp (by omega)]; omega) (by simp [Value.category]) rfl ?_
    rw [show (nI 0).toNatClampNeg = 0 from nI_clamp (by omega), show (nI 6).toNatClampNeg = 6 from nI_clamp (by omega), show (nI (mk * 6)).toNatClampNeg = 6 * mk from (nI_clamp (by omega)).trans (Nat.mul_comm _ _), cpy_fo, tw_f]
    refine xr_aload_n (n := 48) dX6_keepMark_47 rfl rfl ?_
    refine xr_dup (n := 49) dX6_keepMark_48 rfl rfl ?_
    refine xr_get (n := 52) dX6_keepMark_49 fl_X6_55 (by first | exact tat_0 (tput_at _ _ _) | exact tat_r (tput_at _ _ _) (by decide) | exact tat_0 hT | exact tat_r hT (by decide)) (by rfl) rfl ?_
    (first | (simp (disch := omega) only [nI_clamp, pk_mul, nI_add, oi1, up2_ss, up2_n, up2_sn, ur_s, ur_n, Nat.reduceMul, Nat.reduceAdd, Nat.add_zero, h6]) | skip)
    refine xr_iconst (v := nI 1) (n := 53) dX6_keepMark_52 (by decide) rfl ?_
    refine xr_iadd (n := 54) dX6_keepMark_53 rfl ?_
    (first | (simp (disch := omega) only [nI_clamp, pk_mul, nI_add, oi1, up2_ss, up2_n, up2_sn, ur_s, ur_n, Nat.reduceMul, Nat.reduceAdd, Nat.add_zero, h6]) | skip)
    refine xq_put (n := 57) dX6_keepMark_54 fl_X6_55 rfl (by first | exact tat_0 (tput_at _ _ _) | exact tat_r (tput_at _ _ _) (by decide) | exact tat_0 hT | exact tat_r hT (by decide)) (by rfl) (by rfl) (by rfl) rfl ?_
    simp (disch := omega) only [nI_clamp, List.set, tw_0, tw_1, tw_2, tw_3, tw_4, tw_5, tw_6, tw_7, tw_8, tw_9, tw_10]
    refine xr_return dX6_keepMark_57 rfl rfl ?_
    refine qm hq ?_
    unfold amark
    rw [h6, ix_n (by omega), nI_add]
    first | rw [if_pos h10] | rw [if_neg h10]
    all_goals (first | rfl | (rw [up2_n δ _ _ (show 1 ≠ 3 by omega), up2_n δ _ _ (show 2 ≠ 3 by omega)]))
