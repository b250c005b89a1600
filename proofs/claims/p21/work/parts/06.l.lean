/-! the class: both sides -/
theorem pm_min {a b : Nat} (ha : a ≤ 400) (hb : b ≤ 400) : (if nI (if 40 < b then 40 else b) < nI (if 40 < a then 40 else a) then nI (if 40 < b then 40 else b) else nI (if 40 < a then 40 else a)) = nI (pmn a b) := by
  have e1 := nt (if 40 < b then 40 else b) (by split <;> omega)
  have e2 := nt (if 40 < a then 40 else a) (by split <;> omega)
  have e3 : pmn a b = if (if 40 < b then 40 else b) < (if 40 < a then 40 else a) then (if 40 < b then 40 else b) else (if 40 < a then 40 else a) := by
    unfold pmn
    repeat' split
    all_goals omega
  rw [e3]
  by_cases e : (if 40 < b then 40 else b) < (if 40 < a then 40 else a)
  · rw [if_pos e, if_pos (by rw [i_lt, e1, e2]; omega)]
  · rw [if_neg e, if_neg (by rw [i_lt, e1, e2]; omega)]
theorem pm_min2 {a b : Nat} (ha : a ≤ 400) (hb : b ≤ 400) : (if nI (if 40 < a then 40 else a) < nI (if 40 < b then 40 else b) then nI (if 40 < a then 40 else a) else nI (if 40 < b then 40 else b)) = nI (pmn a b) := by
  have e1 := nt (if 40 < b then 40 else b) (by split <;> omega)
  have e2 := nt (if 40 < a then 40 else a) (by split <;> omega)
  have e3 : pmn a b = if (if 40 < a then 40 else a) < (if 40 < b then 40 else b) then (if 40 < a then 40 else a) else (if 40 < b then 40 else b) := by
    unfold pmn
    repeat' split
    all_goals omega
  rw [e3]
  by_cases e : (if 40 < a then 40 else a) < (if 40 < b then 40 else b)
  · rw [if_pos e, if_pos (by rw [i_lt, e1, e2]; omega)]
  · rw [if_neg e, if_neg (by rw [i_lt, e1, e2]; omega)]
theorem pmA_n {δ ε : xS} {a b : Nat} (h : δ 6 0 = nI a) (ha : a ≤ 400) (h2 : ε 6 0 = nI b) (hb : b ≤ 400) : pmA (0, δ) (0, ε) = pmn a b := by
  unfold pmA
  rw [show ((0, δ) : Nat × xS).2 = δ from rfl, show ((0, ε) : Nat × xS).2 = ε from rfl, h, h2, ix_n (by omega), ix_n (by omega)]
theorem ab_eq (a : Int32) : (if 0 ≤ a then a else 0 - a) = ab a := by
  unfold ab
  by_cases e : a < 0
  · rw [if_pos e, if_neg (by rw [i_le] at *; rw [i_lt] at e; omega), Int32.zero_sub]
  · rw [if_neg e, if_pos (by rw [i_le]; rw [i_lt] at e; omega)]
theorem celA_in {δ : xS} {a k c : Nat} (h : δ 6 0 = nI a) (ha : a ≤ 400) (hk : k < 40 ∧ k < a) : celA (0, δ) k c = δ 2 (6 * k + c) := by
  unfold celA
  rw [show ((0, δ) : Nat × xS).2 = δ from rfl, h, ix_n (by omega), if_pos hk]
theorem s_X4_pairsKept {G : xG} {d : Nat} {f : Nat → xC} {r : Nat × Nat} {Q : Option Value → xM → Prop} {y u v mk mk1 : Nat} {δ ε : xS} (hS : f y = ob 4 [.ref u, .ref v]) (hT : tat f u δ) (hT2 : tat f v ε) (h6 : δ 6 0 = nI mk) (hb : mk ≤ 400) (h62 : ε 6 0 = nI mk1) (hb2 : mk1 ≤ 400) (hq : Q (some (.int (nI (pmA (0, δ) (0, ε))))) (f, r)) : xMet G (d + 2) mX4_pairsKept [.ref y] (f, r) r Q := by
  refine xMet_0 (by decide +kernel) rfl (Nat.le_of_ble_eq_true rfl) ?_
  show xX G (d + 2) mX4_pairsKept r r (xΦ G r r Q) 0 [(0, .ref y)] [] (f, r)
  refine xr_aload_n (n := 1) dX4_pairsKept_0 rfl rfl ?_
  refine xr_get (n := 4) dX4_pairsKept_1 fl_X4_12 (by first | exact hS | exact tat_0 hT | exact tat_0 hT2 | exact tat_r hT (by decide) | exact tat_r hT2 (by decide)) (by rfl) rfl ?_
  refine xr_callV (y2 := mX6_marksKept) (As := []) (n := 7) dX4_pairsKept_4 lm_X4_25 pm_X6_marksKept pi_X6_marksKept (by first | exact hS | exact tat_0 hT | exact tat_0 hT2 | exact tat_r hT (by decide) | exact tat_r hT2 (by decide)) rfl rfl rfl (by simp [Value.category]) rfl ⟨Nat.le_refl _, Nat.le_refl _⟩ ?_
  refine s_X6_marksKept hT h6 hb ?_
  dsimp only [xK, xps]
  refine xr_aload_n (n := 8) dX4_pairsKept_7 rfl rfl ?_
  refine xr_get (n := 11) dX4_pairsKept_8 fl_X4_18 (by first | exact hS | exact tat_0 hT | exact tat_0 hT2 | exact tat_r hT (by decide) | exact tat_r hT2 (by decide)) (by rfl) rfl ?_
  refine xr_callV (y2 := mX6_marksKept) (As := []) (n := 14) dX4_pairsKept_11 lm_X4_25 pm_X6_marksKept pi_X6_marksKept (by first | exact hS | exact tat_0 hT | exact tat_0 hT2 | exact tat_r hT (by decide) | exact tat_r hT2 (by decide)) rfl rfl rfl (by simp [Value.category]) rfl ⟨Nat.le_refl _, Nat.le_refl _⟩ ?_
  refine s_X6_marksKept hT2 h62 hb2 ?_
  dsimp only [xK, xps]
  refine xr_mmin (n := 17) dX4_pairsKept_14 km_X4_29 (by simp [Value.category]) rfl ?_
  first | rw [pm_min hb hb2] | rw [pm_min2 hb hb2]
  rw [← pmA_n h6 hb h62 hb2]
  refine xr_ireturn dX4_pairsKept_17 rfl rfl rfl ?_
  exact hq

theorem s_X4_leadAt {G : xG} {d : Nat} {f : Nat → xC} {r : Nat × Nat} {Q : Option Value → xM → Prop} {y u v mk mk1 : Nat} {δ ε : xS} {k : Nat} (hS : f y = ob 4 [.ref u, .ref v]) (hT : tat f u δ) (hT2 : tat f v ε) (h6 : δ 6 0 = nI mk) (hb : mk ≤ 400) (h62 : ε 6 0 = nI mk1) (hb2 : mk1 ≤ 400) (hk : k < pmA (0, δ) (0, ε)) (hq : Q (some (.int (ldv (0, δ) (0, ε) k))) (f, r)) : xMet G (d + 3) mX4_leadAt [.ref y, .int (nI k)] (f, r) r Q := by
  refine xMet_0 (by decide +kernel) rfl (Nat.le_of_ble_eq_true rfl) ?_
  show xX G (d + 3) mX4_leadAt r r (xΦ G r r Q) 0 [(0, .ref y), (1, .int (nI k))] [] (f, r)
  have hpm := pmA_n h6 hb h62 hb2
  have hpl := pmn_le mk mk1
  refine xr_aload_n (n := 1) dX4_leadAt_0 rfl rfl ?_
  refine xr_get (n := 4) dX4_leadAt_1 fl_X4_12 (by first | exact hS | exact tat_0 hT | exact tat_0 hT2 | exact tat_r hT (by decide) | exact tat_r hT2 (by decide)) (by rfl) rfl ?_
  refine xr_iload_n (n := 5) dX4_leadAt_4 rfl rfl ?_
  refine xr_callV (y2 := mX6_stepsAheadOf) (As := [_]) (n := 8) dX4_leadAt_5 lm_X4_35 pm_X6_stepsAheadOf pi_X6_stepsAheadOf (by first | exact hS | exact tat_0 hT | exact tat_0 hT2 | exact tat_r hT (by decide) | exact tat_r hT2 (by decide)) rfl rfl rfl (by simp [Value.category]) rfl ⟨Nat.le_refl _, Nat.le_refl _⟩ ?_
  refine s_X6_stepsAheadOf hT h6 hb (by omega) ?_
  dsimp only [xK, xps]
  refine xr_aload_n (n := 9) dX4_leadAt_8 rfl rfl ?_
  refine xr_get (n := 12) dX4_leadAt_9 fl_X4_18 (by first | exact hS | exact tat_0 hT | exact tat_0 hT2 | exact tat_r hT (by decide) | exact tat_r hT2 (by decide)) (by rfl) rfl ?_
  refine xr_iload_n (n := 13) dX4_leadAt_12 rfl rfl ?_
  refine xr_callV (y2 := mX6_stepsAheadOf) (As := [_]) (n := 16) dX4_leadAt_13 lm_X4_35 pm_X6_stepsAheadOf pi_X6_stepsAheadOf (by first | exact hS | exact tat_0 hT | exact tat_0 hT2 | exact tat_r hT (by decide) | exact tat_r hT2 (by decide)) rfl rfl rfl (by simp [Value.category]) rfl ⟨Nat.le_refl _, Nat.le_refl _⟩ ?_
  refine s_X6_stepsAheadOf hT2 h62 hb2 (by omega) ?_
  dsimp only [xK, xps]
  refine xr_isub (n := 17) dX4_leadAt_16 rfl ?_
  refine xr_ireturn dX4_leadAt_17 rfl rfl rfl ?_
  exact hq

theorem s_X4_greatestLead {G : xG} {d : Nat} {f : Nat → xC} {r : Nat × Nat} {Q : Option Value → xM → Prop} {y u v mk mk1 : Nat} {δ ε : xS} (hS : f y = ob 4 [.ref u, .ref v]) (hT : tat f u δ) (hT2 : tat f v ε) (h6 : δ 6 0 = nI mk) (hb : mk ≤ 400) (h62 : ε 6 0 = nI mk1) (hb2 : mk1 ≤ 400) (hab : ∀ k, k < pmA (0, δ) (0, ε) → 0 ≤ (ab (ldv (0, δ) (0, ε) k)).toInt) (hq : Q (some (.int (if pmA (0, δ) (0, ε) = 0 then (-10009) else glv (0, δ) (0, ε) (pmA (0, δ) (0, ε))))) (f, r)) : xMet G (d + 4) mX4_greatestLead [.ref y] (f, r) r Q := by
  refine xMet_0 (by decide +kernel) rfl (Nat.le_of_ble_eq_true rfl) ?_
  show xX G (d + 4) mX4_greatestLead r r (xΦ G r r Q) 0 [(0, .ref y)] [] (f, r)
  have hpm := pmA_n h6 hb h62 hb2
  have hpl := pmn_le mk mk1
  refine xr_sipush (v := (-10009)) (n := 3) dX4_greatestLead_0 (by decide) rfl ?_
  refine xq_istore_n 1 (n := 4) dX4_greatestLead_3 rfl rfl rfl ?_
  simp only [xst, Nat.beq, List.filter, Bool.not_true, Bool.not_false]
  refine xr_aload_n (n := 5) dX4_greatestLead_4 rfl rfl ?_
  refine xr_callV (y2 := mX4_pairsKept) (As := []) (n := 8) dX4_greatestLead_5 lm_X4_39 pm_X4_pairsKept pi_X4_pairsKept (by first | exact hS | exact tat_0 hT | exact tat_0 hT2 | exact tat_r hT (by decide) | exact tat_r hT2 (by decide)) rfl rfl rfl (by simp [Value.category]) rfl ⟨Nat.le_refl _, Nat.le_refl _⟩ ?_
  refine s_X4_pairsKept hS hT hT2 h6 hb h62 hb2 ?_
  dsimp only [xK, xps]
  refine xq_istore_n 2 (n := 9) dX4_greatestLead_8 rfl rfl rfl ?_
  simp only [xst, Nat.beq, List.filter, Bool.not_true, Bool.not_false]
  refine xr_iconst (v := nI 0) (n := 10) dX4_greatestLead_9 (by decide) rfl ?_
  refine xq_istore_n 3 (n := 11) dX4_greatestLead_10 rfl rfl rfl ?_
  simp only [xst, Nat.beq, List.filter, Bool.not_true, Bool.not_false]
  refine nat_down (P := fun k => xX G (d + 4) mX4_greatestLead r r (xΦ G r r Q) 11 [(0, .ref y), (1, .int (if k = 0 then (-10009) else glv (0, δ) (0, ε) k)), (2, .int (nI (pmA (0, δ) (0, ε)))), (3, .int (nI k))] [] (f, r)) (N := pmA (0, δ) (0, ε)) ?_ ?_ 0 (by omega)
  · refine xr_iload_n (n := 12) dX4_greatestLead_11 rfl rfl ?_
    refine xr_iload_n (n := 13) dX4_greatestLead_12 rfl rfl ?_
    refine xr_icmp_ge (tgt := 35) (n := 16) dX4_greatestLead_13 (by decide) rfl (fun h13 => ?_) (fun h13 => by (exfalso; ((try simp (disch := omega) only [i_lt, i_le, i_eq, nt, i_m1, Int32.toInt_zero] at *); omega)))
    refine xr_iload_n (n := 36) dX4_greatestLead_35 rfl rfl ?_
    refine xr_ireturn dX4_greatestLead_36 rfl rfl rfl ?_
    exact hq
  · intro k hk ih
    have hab := hab k hk
    refine xr_iload_n (n := 12) dX4_greatestLead_11 rfl rfl ?_
    refine xr_iload_n (n := 13) dX4_greatestLead_12 rfl rfl ?_
    refine xr_icmp_ge (tgt := 35) (n := 16) dX4_greatestLead_13 (by decide) rfl (fun h13 => by (exfalso; ((try simp (disch := omega) only [i_lt, i_le, i_eq, nt, i_m1, Int32.toInt_zero] at *); omega))) (fun h13 => ?_)
    refine xr_iload_n (n := 17) dX4_greatestLead_16 rfl rfl ?_
    refine xr_aload_n (n := 18) dX4_greatestLead_17 rfl rfl ?_
    refine xr_iload_n (n := 19) dX4_greatestLead_18 rfl rfl ?_
    refine xr_callV (y2 := mX4_leadAt) (As := [_]) (n := 22) dX4_greatestLead_19 lm_X4_42 pm_X4_leadAt pi_X4_leadAt (by first | exact hS | exact tat_0 hT | exact tat_0 hT2 | exact tat_r hT (by decide) | exact tat_r hT2 (by decide)) rfl rfl rfl (by simp [Value.category]) rfl ⟨Nat.le_refl _, Nat.le_refl _⟩ ?_
    refine s_X4_leadAt hS hT hT2 h6 hb h62 hb2 (by omega) ?_
    dsimp only [xK, xps]
    refine xr_mabs (n := 25) dX4_greatestLead_22 km_X4_45 (by simp [Value.category]) rfl ?_
    rw [ab_eq]
    refine xr_mmax (n := 28) dX4_greatestLead_25 km_X4_48 (by simp [Value.category]) rfl ?_
    skip
    refine xq_istore_n 1 (n := 29) dX4_greatestLead_28 rfl rfl rfl ?_
    simp only [xst, Nat.beq, List.filter, Bool.not_true, Bool.not_false]
    refine xr_iinc (n := 32) dX4_greatestLead_29 rfl rfl (rfl) rfl ?_
    simp only [xst, Nat.beq, List.filter, Bool.not_true, Bool.not_false]
    (first | (simp (disch := omega) only [nI_clamp, pk_mul, nI_add, oi1, up2_ss, up2_n, up2_sn, ur_s, ur_n, Nat.reduceMul, Nat.reduceAdd, Nat.add_zero]) | skip)
    refine xr_goto (n := 11) dX4_greatestLead_32 (by decide) ?_
    have hm9 : (-10009 : Int32).toInt = -10009 := by decide +kernel
    have h0 : (nI 0).toInt = 0 := nt 0 (by omega)
    refine xX.eq rfl ?_ rfl rfl ih
    rw [if_neg (by omega), glv_s]
    by_cases e : k = 0
    · subst e
      have e1 : (-10009 : Int32) < ab (ldv (0, δ) (0, ε) 0) := by rw [i_lt, hm9]; omega
      rw [if_pos rfl, if_pos e1]
      rw [show glv (0, δ) (0, ε) 0 = nI 0 from rfl]
      by_cases e2 : nI 0 < ab (ldv (0, δ) (0, ε) 0)
      · rw [if_pos e2]
      · rw [if_neg e2]
        have : ab (ldv (0, δ) (0, ε) 0) = nI 0 := by rw [i_eq]; rw [i_lt] at e2; omega
        rw [this]
    · rw [if_neg e]

theorem s_X4_lastLead {G : xG} {d : Nat} {f : Nat → xC} {r : Nat × Nat} {Q : Option Value → xM → Prop} {y u v mk mk1 : Nat} {δ ε : xS} (hS : f y = ob 4 [.ref u, .ref v]) (hT : tat f u δ) (hT2 : tat f v ε) (h6 : δ 6 0 = nI mk) (hb : mk ≤ 400) (h62 : ε 6 0 = nI mk1) (hb2 : mk1 ≤ 400) (hq : Q (some (.int (if pmA (0, δ) (0, ε) = 0 then (-10009) else ldv (0, δ) (0, ε) (pmA (0, δ) (0, ε) - 1)))) (f, r)) : xMet G (d + 4) mX4_lastLead [.ref y] (f, r) r Q := by
  refine xMet_0 (by decide +kernel) rfl (Nat.le_of_ble_eq_true rfl) ?_
  show xX G (d + 4) mX4_lastLead r r (xΦ G r r Q) 0 [(0, .ref y)] [] (f, r)
  have hpm := pmA_n h6 hb h62 hb2
  have hpl := pmn_le mk mk1
  have g6 := h6
  refine xr_aload_n (n := 1) dX4_lastLead_0 rfl rfl ?_
  refine xr_callV (y2 := mX4_pairsKept) (As := []) (n := 4) dX4_lastLead_1 lm_X4_39 pm_X4_pairsKept pi_X4_pairsKept (by first | exact hS | exact tat_0 hT | exact tat_0 hT2 | exact tat_r hT (by decide) | exact tat_r hT2 (by decide)) rfl rfl rfl (by simp [Value.category]) rfl ⟨Nat.le_refl _, Nat.le_refl _⟩ ?_
  refine s_X4_pairsKept hS hT hT2 h6 hb h62 hb2 ?_
  dsimp only [xK, xps]
  refine xq_istore_n 1 (n := 5) dX4_lastLead_4 rfl rfl rfl ?_
  simp only [xst, Nat.beq, List.filter, Bool.not_true, Bool.not_false]
  refine xr_iload_n (n := 6) dX4_lastLead_5 rfl rfl ?_
  refine xr_if_ne (tgt := 15) (n := 9) dX4_lastLead_6 (by decide) rfl (fun h6 => ?_) (fun h6 => ?_)
  · refine xr_aload_n (n := 16) dX4_lastLead_15 rfl rfl ?_
    refine xr_iload_n (n := 17) dX4_lastLead_16 rfl rfl ?_
    refine xr_iconst (v := nI 1) (n := 18) dX4_lastLead_17 (by decide) rfl ?_
    refine xr_isub (n := 19) dX4_lastLead_18 rfl ?_
    rw [pk_sub (by ((try simp (disch := omega) only [i_lt, i_le, i_eq, nt, i_m1, Int32.toInt_zero] at *); omega))]
    refine xr_callV (y2 := mX4_leadAt) (As := [_]) (n := 22) dX4_lastLead_19 lm_X4_42 pm_X4_leadAt pi_X4_leadAt (by first | exact hS | exact tat_0 hT | exact tat_0 hT2 | exact tat_r hT (by decide) | exact tat_r hT2 (by decide)) rfl rfl rfl (by simp [Value.category]) rfl ⟨Nat.le_refl _, Nat.le_refl _⟩ ?_
    refine s_X4_leadAt hS hT hT2 g6 hb h62 hb2 (by ((try simp (disch := omega) only [i_lt, i_le, i_eq, nt, i_m1, Int32.toInt_zero] at *); omega)) ?_
    dsimp only [xK, xps]
    refine xr_ireturn dX4_lastLead_22 rfl rfl rfl ?_
    refine qi hq ?_
    first | rw [if_pos (by ((try simp (disch := omega) only [i_lt, i_le, i_eq, nt, i_m1, Int32.toInt_zero] at *); omega))] | rw [if_neg (by ((try simp (disch := omega) only [i_lt, i_le, i_eq, nt, i_m1, Int32.toInt_zero] at *); omega))]
  · refine xr_sipush (v := (-10009)) (n := 12) dX4_lastLead_9 (by decide) rfl ?_
    refine xr_goto (n := 22) dX4_lastLead_12 (by decide) ?_
    refine xr_ireturn dX4_lastLead_22 rfl rfl rfl ?_
    refine qi hq ?_
    first | rw [if_pos (by ((try simp (disch := omega) only [i_lt, i_le, i_eq, nt, i_m1, Int32.toInt_zero] at *); omega))] | rw [if_neg (by ((try simp (disch := omega) only [i_lt, i_le, i_eq, nt, i_m1, Int32.toInt_zero] at *); omega))]

theorem s_X4_isEven {G : xG} {d : Nat} {f : Nat → xC} {r : Nat × Nat} {Q : Option Value → xM → Prop} {y u v mk mk1 : Nat} {δ ε : xS} {k : Nat} (hS : f y = ob 4 [.ref u, .ref v]) (hT : tat f u δ) (hT2 : tat f v ε) (h6 : δ 6 0 = nI mk) (hb : mk ≤ 400) (h62 : ε 6 0 = nI mk1) (hb2 : mk1 ≤ 400) (hk : k < pmA (0, δ) (0, ε)) (hq : Q (some (.int (b2i (eqp (0, δ) (0, ε) k 6)))) (f, r)) : xMet G (d + 3) mX4_isEven [.ref y, .int (nI k)] (f, r) r Q := by
  refine xMet_0 (by decide +kernel) rfl (Nat.le_of_ble_eq_true rfl) ?_
  show xX G (d + 3) mX4_isEven r r (xΦ G r r Q) 0 [(0, .ref y), (1, .int (nI k))] [] (f, r)
  have hpm := pmA_n h6 hb h62 hb2
  have hpl := pmn_le mk mk1
  refine xr_iconst (v := nI 0) (n := 1) dX4_isEven_0 (by decide) rfl ?_
  refine xq_istore_n 2 (n := 2) dX4_isEven_1 rfl rfl rfl ?_
  simp only [xst, Nat.beq, List.filter, Bool.not_true, Bool.not_false]
  have key : ∀ c, c ≤ 6 → eqp (0, δ) (0, ε) k c → xX G (d + 3) mX4_isEven r r (xΦ G r r Q) 2 [(0, .ref y), (1, .int (nI k)), (2, .int (nI c))] [] (f, r) := by
    refine nat_down (P := fun c => eqp (0, δ) (0, ε) k c → xX G (d + 3) mX4_isEven r r (xΦ G r r Q) 2 [(0, .ref y), (1, .int (nI k)), (2, .int (nI c))] [] (f, r)) (N := 6) ?_ ?_
    · intro he
      refine xr_iload_n (n := 3) dX4_isEven_2 rfl rfl ?_
      refine xr_bipush (v := nI 6) (n := 5) dX4_isEven_3 (by decide) rfl ?_
      refine xr_icmp_ge (tgt := 37) (n := 8) dX4_isEven_5 (by decide) rfl (fun h5 => ?_) (fun h5 => by (exfalso; ((try simp (disch := omega) only [i_lt, i_le, i_eq, nt, i_m1, Int32.toInt_zero] at *); omega)))
      refine xr_iconst (v := nI 1) (n := 38) dX4_isEven_37 (by decide) rfl ?_
      refine xr_ireturn dX4_isEven_38 rfl (by first | exact b2i_nar | exact nar_1 | exact nar_0) rfl ?_
      rw [b2i_t he] at hq
      exact hq
    · intro c hc ih he
      refine xr_iload_n (n := 3) dX4_isEven_2 rfl rfl ?_
      refine xr_bipush (v := nI 6) (n := 5) dX4_isEven_3 (by decide) rfl ?_
      refine xr_icmp_ge (tgt := 37) (n := 8) dX4_isEven_5 (by decide) rfl (fun h5 => by (exfalso; ((try simp (disch := omega) only [i_lt, i_le, i_eq, nt, i_m1, Int32.toInt_zero] at *); omega))) (fun h5 => ?_)
      refine xr_aload_n (n := 9) dX4_isEven_8 rfl rfl ?_
      refine xr_get (n := 12) dX4_isEven_9 fl_X4_12 (by first | exact hS | exact tat_0 hT | exact tat_0 hT2 | exact tat_r hT (by decide) | exact tat_r hT2 (by decide)) (by rfl) rfl ?_
      refine xr_iload_n (n := 13) dX4_isEven_12 rfl rfl ?_
      refine xr_iload_n (n := 14) dX4_isEven_13 rfl rfl ?_
      refine xr_callV (y2 := mX6_cellAtMark) (As := [_, _]) (n := 17) dX4_isEven_14 lm_X4_55 pm_X6_cellAtMark pi_X6_cellAtMark (by first | exact hS | exact tat_0 hT | exact tat_0 hT2 | exact tat_r hT (by decide) | exact tat_r hT2 (by decide)) rfl rfl rfl (by simp [Value.category]) rfl ⟨Nat.le_refl _, Nat.le_refl _⟩ ?_
      refine s_X6_cellAtMark hT h6 hb (by omega) (by omega) ?_
      rw [celA_in h6 hb (by omega)]
      dsimp only [xK, xps]
      refine xr_aload_n (n := 18) dX4_isEven_17 rfl rfl ?_
      refine xr_get (n := 21) dX4_isEven_18 fl_X4_18 (by first | exact hS | exact tat_0 hT | exact tat_0 hT2 | exact tat_r hT (by decide) | exact tat_r hT2 (by decide)) (by rfl) rfl ?_
      refine xr_iload_n (n := 22) dX4_isEven_21 rfl rfl ?_
      refine xr_iload_n (n := 23) dX4_isEven_22 rfl rfl ?_
      refine xr_callV (y2 := mX6_cellAtMark) (As := [_, _]) (n := 26) dX4_isEven_23 lm_X4_55 pm_X6_cellAtMark pi_X6_cellAtMark (by first | exact hS | exact tat_0 hT | exact tat_0 hT2 | exact tat_r hT (by decide) | exact tat_r hT2 (by decide)) rfl rfl rfl (by simp [Value.category]) rfl ⟨Nat.le_refl _, Nat.le_refl _⟩ ?_
      refine s_X6_cellAtMark hT2 h62 hb2 (by omega) (by omega) ?_
      rw [celA_in h62 hb2 (by omega)]
      dsimp only [xK, xps]
      refine xr_icmp_eq (tgt := 31) (n := 29) dX4_isEven_26 (by decide) rfl (fun h26 => ?_) (fun h26 => ?_)
      · refine xr_iinc (n := 34) dX4_isEven_31 rfl rfl (rfl) rfl ?_
        simp only [xst, Nat.beq, List.filter, Bool.not_true, Bool.not_false]
        (first | (simp (disch := omega) only [nI_clamp, pk_mul, nI_add, oi1, up2_ss, up2_n, up2_sn, ur_s, ur_n, Nat.reduceMul, Nat.reduceAdd, Nat.add_zero]) | skip)
        refine xr_goto (n := 2) dX4_isEven_34 (by decide) ?_
        exact ih (all_s.mpr ⟨he, by first | exact h26 | exact Decidable.not_not.mp h26⟩)
      · refine xr_iconst (v := nI 0) (n := 30) dX4_isEven_29 (by decide) rfl ?_
        refine xr_ireturn dX4_isEven_30 rfl (by first | exact b2i_nar | exact nar_1 | exact nar_0) rfl ?_
        rw [b2i_f (fun q => h26 (q c hc))] at hq
        exact hq
  exact key 0 (Nat.zero_le _) (fun j hj => absurd hj (Nat.not_lt_zero j))

theorem s_X4_evenPairs {G : xG} {d : Nat} {f : Nat → xC} {r : Nat × Nat} {Q : Option Value → xM → Prop} {y u v mk mk1 : Nat} {δ ε : xS} (hS : f y = ob 4 [.ref u, .ref v]) (hT : tat f u δ) (hT2 : tat f v ε) (h6 : δ 6 0 = nI mk) (hb : mk ≤ 400) (h62 : ε 6 0 = nI mk1) (hb2 : mk1 ≤ 400) (hq : Q (some (.int (nI (aev (0, δ) (0, ε) (pmA (0, δ) (0, ε)))))) (f, r)) : xMet G (d + 4) mX4_evenPairs [.ref y] (f, r) r Q := by
  refine xMet_0 (by decide +kernel) rfl (Nat.le_of_ble_eq_true rfl) ?_
  show xX G (d + 4) mX4_evenPairs r r (xΦ G r r Q) 0 [(0, .ref y)] [] (f, r)
  have hpm := pmA_n h6 hb h62 hb2
  have hpl := pmn_le mk mk1
  refine xr_iconst (v := nI 0) (n := 1) dX4_evenPairs_0 (by decide) rfl ?_
  refine xq_istore_n 1 (n := 2) dX4_evenPairs_1 rfl rfl rfl ?_
  simp only [xst, Nat.beq, List.filter, Bool.not_true, Bool.not_false]
  refine xr_aload_n (n := 3) dX4_evenPairs_2 rfl rfl ?_
  refine xr_callV (y2 := mX4_pairsKept) (As := []) (n := 6) dX4_evenPairs_3 lm_X4_39 pm_X4_pairsKept pi_X4_pairsKept (by first | exact hS | exact tat_0 hT | exact tat_0 hT2 | exact tat_r hT (by decide) | exact tat_r hT2 (by decide)) rfl rfl rfl (by simp [Value.category]) rfl ⟨Nat.le_refl _, Nat.le_refl _⟩ ?_
  refine s_X4_pairsKept hS hT hT2 h6 hb h62 hb2 ?_
  dsimp only [xK, xps]
  refine xq_istore_n 2 (n := 7) dX4_evenPairs_6 rfl rfl rfl ?_
  simp only [xst, Nat.beq, List.filter, Bool.not_true, Bool.not_false]
  refine xr_iconst (v := nI 0) (n := 8) dX4_evenPairs_7 (by decide) rfl ?_
  refine xq_istore_n 3 (n := 9) dX4_evenPairs_8 rfl rfl rfl ?_
  simp only [xst, Nat.beq, List.filter, Bool.not_true, Bool.not_false]
  refine nat_down (P := fun k => xX G (d + 4) mX4_evenPairs r r (xΦ G r r Q) 9 [(0, .ref y), (1, .int (nI (aev (0, δ) (0, ε) k))), (2, .int (nI (pmA (0, δ) (0, ε)))), (3, .int (nI k))] [] (f, r)) (N := pmA (0, δ) (0, ε)) ?_ ?_ 0 (by omega)
  · refine xr_iload_n (n := 10) dX4_evenPairs_9 rfl rfl ?_
    refine xr_iload_n (n := 11) dX4_evenPairs_10 rfl rfl ?_
    refine xr_icmp_ge (tgt := 31) (n := 14) dX4_evenPairs_11 (by decide) rfl (fun h11 => ?_) (fun h11 => by (exfalso; ((try simp (disch := omega) only [i_lt, i_le, i_eq, nt, i_m1, Int32.toInt_zero] at *); omega)))
    refine xr_iload_n (n := 32) dX4_evenPairs_31 rfl rfl ?_
    refine xr_ireturn dX4_evenPairs_32 rfl rfl rfl ?_
    exact hq
  · intro k hk ih
    have hav := aev_le (0, δ) (0, ε) k
    refine xr_iload_n (n := 10) dX4_evenPairs_9 rfl rfl ?_
    refine xr_iload_n (n := 11) dX4_evenPairs_10 rfl rfl ?_
    refine xr_icmp_ge (tgt := 31) (n := 14) dX4_evenPairs_11 (by decide) rfl (fun h11 => by (exfalso; ((try simp (disch := omega) only [i_lt, i_le, i_eq, nt, i_m1, Int32.toInt_zero] at *); omega))) (fun h11 => ?_)
    refine xr_aload_n (n := 15) dX4_evenPairs_14 rfl rfl ?_
    refine xr_iload_n (n := 16) dX4_evenPairs_15 rfl rfl ?_
    refine xr_callV (y2 := mX4_isEven) (As := [_]) (n := 19) dX4_evenPairs_16 lm_X4_51 pm_X4_isEven pi_X4_isEven (by first | exact hS | exact tat_0 hT | exact tat_0 hT2 | exact tat_r hT (by decide) | exact tat_r hT2 (by decide)) rfl rfl rfl (by simp [Value.category]) rfl ⟨Nat.le_refl _, Nat.le_refl _⟩ ?_
    refine s_X4_isEven hS hT hT2 h6 hb h62 hb2 hk ?_
    dsimp only [xK, xps]
    refine xr_beq (tgt := 25) (n := 22) dX4_evenPairs_19 (by decide) rfl (fun h19 => ?_) (fun h19 => ?_)
    · refine xr_iinc (n := 28) dX4_evenPairs_25 rfl rfl (rfl) rfl ?_
      simp only [xst, Nat.beq, List.filter, Bool.not_true, Bool.not_false]
      (first | (simp (disch := omega) only [nI_clamp, pk_mul, nI_add, oi1, up2_ss, up2_n, up2_sn, ur_s, ur_n, Nat.reduceMul, Nat.reduceAdd, Nat.add_zero]) | skip)
      refine xr_goto (n := 9) dX4_evenPairs_28 (by decide) ?_
      first | (rw [aev_t h19] at ih; exact ih) | (rw [aev_f h19] at ih; exact ih)
    · refine xr_iinc (n := 25) dX4_evenPairs_22 rfl rfl (rfl) rfl ?_
      simp only [xst, Nat.beq, List.filter, Bool.not_true, Bool.not_false]
      (first | (simp (disch := omega) only [nI_clamp, pk_mul, nI_add, oi1, up2_ss, up2_n, up2_sn, ur_s, ur_n, Nat.reduceMul, Nat.reduceAdd, Nat.add_zero]) | skip)
      refine xr_iinc (n := 28) dX4_evenPairs_25 rfl rfl (rfl) rfl ?_
      simp only [xst, Nat.beq, List.filter, Bool.not_true, Bool.not_false]
      (first | (simp (disch := omega) only [nI_clamp, pk_mul, nI_add, oi1, up2_ss, up2_n, up2_sn, ur_s, ur_n, Nat.reduceMul, Nat.reduceAdd, Nat.add_zero]) | skip)
      refine xr_goto (n := 9) dX4_evenPairs_28 (by decide) ?_
      first | (rw [aev_t h19] at ih; exact ih) | (rw [aev_f h19] at ih; exact ih)

theorem s_X4_isAlwaysSame {G : xG} {d : Nat} {f : Nat → xC} {r : Nat × Nat} {Q : Option Value → xM → Prop} {y u v mk mk1 : Nat} {δ ε : xS} {c e : Nat} (hS : f y = ob 4 [.ref u, .ref v]) (hT : tat f u δ) (hT2 : tat f v ε) (h6 : δ 6 0 = nI mk) (hb : mk ≤ 400) (h62 : ε 6 0 = nI mk1) (hb2 : mk1 ≤ 400) (hc : c < 6) (he : e < 6) (hq : Q (some (.int (b2i (eqx (0, δ) (0, ε) c e (pmA (0, δ) (0, ε)))))) (f, r)) : xMet G (d + 3) mX4_isAlwaysSame [.ref y, .int (nI c), .int (nI e)] (f, r) r Q := by
  refine xMet_0 (by decide +kernel) rfl (Nat.le_of_ble_eq_true rfl) ?_
  show xX G (d + 3) mX4_isAlwaysSame r r (xΦ G r r Q) 0 [(0, .ref y), (1, .int (nI c)), (2, .int (nI e))] [] (f, r)
  have hpm := pmA_n h6 hb h62 hb2
  have hpl := pmn_le mk mk1
  refine xr_aload_n (n := 1) dX4_isAlwaysSame_0 rfl rfl ?_
  refine xr_callV (y2 := mX4_pairsKept) (As := []) (n := 4) dX4_isAlwaysSame_1 lm_X4_39 pm_X4_pairsKept pi_X4_pairsKept (by first | exact hS | exact tat_0 hT | exact tat_0 hT2 | exact tat_r hT (by decide) | exact tat_r hT2 (by decide)) rfl rfl rfl (by simp [Value.category]) rfl ⟨Nat.le_refl _, Nat.le_refl _⟩ ?_
  refine s_X4_pairsKept hS hT hT2 h6 hb h62 hb2 ?_
  dsimp only [xK, xps]
  refine xq_istore_n 3 (n := 5) dX4_isAlwaysSame_4 rfl rfl rfl ?_
  simp only [xst, Nat.beq, List.filter, Bool.not_true, Bool.not_false]
  refine xr_iconst (v := nI 0) (n := 6) dX4_isAlwaysSame_5 (by decide) rfl ?_
  refine xr_istore (n := 8) dX4_isAlwaysSame_6 rfl rfl ?_
  simp only [xst, Nat.beq, List.filter, Bool.not_true, Bool.not_false]
  have key : ∀ k, k ≤ pmA (0, δ) (0, ε) → eqx (0, δ) (0, ε) c e k → xX G (d + 3) mX4_isAlwaysSame r r (xΦ G r r Q) 8 [(0, .ref y), (1, .int (nI c)), (2, .int (nI e)), (3, .int (nI (pmA (0, δ) (0, ε)))), (4, .int (nI k))] [] (f, r) := by
    refine nat_down (P := fun k => eqx (0, δ) (0, ε) c e k → xX G (d + 3) mX4_isAlwaysSame r r (xΦ G r r Q) 8 [(0, .ref y), (1, .int (nI c)), (2, .int (nI e)), (3, .int (nI (pmA (0, δ) (0, ε)))), (4, .int (nI k))] [] (f, r)) (N := pmA (0, δ) (0, ε)) ?_ ?_
    · intro hx
      refine xr_iload (n := 10) dX4_isAlwaysSame_8 rfl rfl ?_
      refine xr_iload_n (n := 11) dX4_isAlwaysSame_10 rfl rfl ?_
      refine xr_icmp_ge (tgt := 45) (n := 14) dX4_isAlwaysSame_11 (by decide) rfl (fun h11 => ?_) (fun h11 => by (exfalso; ((try simp (disch := omega) only [i_lt, i_le, i_eq, nt, i_m1, Int32.toInt_zero] at *); omega)))
      refine xr_iconst (v := nI 1) (n := 46) dX4_isAlwaysSame_45 (by decide) rfl ?_
      refine xr_ireturn dX4_isAlwaysSame_46 rfl (by first | exact b2i_nar | exact nar_1 | exact nar_0) rfl ?_
      rw [b2i_t hx] at hq
      exact hq
    · intro k hk ih hx
      refine xr_iload (n := 10) dX4_isAlwaysSame_8 rfl rfl ?_
      refine xr_iload_n (n := 11) dX4_isAlwaysSame_10 rfl rfl ?_
      refine xr_icmp_ge (tgt := 45) (n := 14) dX4_isAlwaysSame_11 (by decide) rfl (fun h11 => by (exfalso; ((try simp (disch := omega) only [i_lt, i_le, i_eq, nt, i_m1, Int32.toInt_zero] at *); omega))) (fun h11 => ?_)
      refine xr_aload_n (n := 15) dX4_isAlwaysSame_14 rfl rfl ?_
      refine xr_get (n := 18) dX4_isAlwaysSame_15 fl_X4_12 (by first | exact hS | exact tat_0 hT | exact tat_0 hT2 | exact tat_r hT (by decide) | exact tat_r hT2 (by decide)) (by rfl) rfl ?_
      refine xr_iload (n := 20) dX4_isAlwaysSame_18 rfl rfl ?_
      refine xr_iload_n (n := 21) dX4_isAlwaysSame_20 rfl rfl ?_
      refine xr_callV (y2 := mX6_cellAtMark) (As := [_, _]) (n := 24) dX4_isAlwaysSame_21 lm_X4_55 pm_X6_cellAtMark pi_X6_cellAtMark (by first | exact hS | exact tat_0 hT | exact tat_0 hT2 | exact tat_r hT (by decide) | exact tat_r hT2 (by decide)) rfl rfl rfl (by simp [Value.category]) rfl ⟨Nat.le_refl _, Nat.le_refl _⟩ ?_
      refine s_X6_cellAtMark hT h6 hb (by omega) (by omega) ?_
      rw [celA_in h6 hb (by omega)]
      dsimp only [xK, xps]
      refine xr_aload_n (n := 25) dX4_isAlwaysSame_24 rfl rfl ?_
      refine xr_get (n := 28) dX4_isAlwaysSame_25 fl_X4_18 (by first | exact hS | exact tat_0 hT | exact tat_0 hT2 | exact tat_r hT (by decide) | exact tat_r hT2 (by decide)) (by rfl) rfl ?_
      refine xr_iload (n := 30) dX4_isAlwaysSame_28 rfl rfl ?_
      refine xr_iload_n (n := 31) dX4_isAlwaysSame_30 rfl rfl ?_
      refine xr_callV (y2 := mX6_cellAtMark) (As := [_, _]) (n := 34) dX4_isAlwaysSame_31 lm_X4_55 pm_X6_cellAtMark pi_X6_cellAtMark (by first | exact hS | exact tat_0 hT | exact tat_0 hT2 | exact tat_r hT (by decide) | exact tat_r hT2 (by decide)) rfl rfl rfl (by simp [Value.category]) rfl ⟨Nat.le_refl _, Nat.le_refl _⟩ ?_
      refine s_X6_cellAtMark hT2 h62 hb2 (by omega) (by omega) ?_
      rw [celA_in h62 hb2 (by omega)]
      dsimp only [xK, xps]
      refine xr_icmp_eq (tgt := 39) (n := 37) dX4_isAlwaysSame_34 (by decide) rfl (fun h34 => ?_) (fun h34 => ?_)
      · refine xr_iinc (n := 42) dX4_isAlwaysSame_39 rfl rfl (rfl) rfl ?_
        simp only [xst, Nat.beq, List.filter, Bool.not_true, Bool.not_false]
        (first | (simp (disch := omega) only [nI_clamp, pk_mul, nI_add, oi1, up2_ss, up2_n, up2_sn, ur_s, ur_n, Nat.reduceMul, Nat.reduceAdd, Nat.add_zero]) | skip)
        refine xr_goto (n := 8) dX4_isAlwaysSame_42 (by decide) ?_
        exact ih (all_s.mpr ⟨hx, by first | exact h34 | exact Decidable.not_not.mp h34⟩)
      · refine xr_iconst (v := nI 0) (n := 38) dX4_isAlwaysSame_37 (by decide) rfl ?_
        refine xr_ireturn dX4_isAlwaysSame_38 rfl (by first | exact b2i_nar | exact nar_1 | exact nar_0) rfl ?_
        rw [b2i_f (fun q => h34 (q k hk))] at hq
        exact hq
  exact key 0 (Nat.zero_le _) (fun j hj => absurd hj (Nat.not_lt_zero j))

theorem s_X4_cellsEqualTo {G : xG} {d : Nat} {f : Nat → xC} {r : Nat × Nat} {Q : Option Value → xM → Prop} {y u v mk mk1 : Nat} {δ ε : xS} {c : Nat} (hS : f y = ob 4 [.ref u, .ref v]) (hT : tat f u δ) (hT2 : tat f v ε) (h6 : δ 6 0 = nI mk) (hb : mk ≤ 400) (h62 : ε 6 0 = nI mk1) (hb2 : mk1 ≤ 400) (hc : c < 6) (hq : Q (some (.int (eqv (0, δ) (0, ε) c 6))) (f, r)) : xMet G (d + 4) mX4_cellsEqualTo [.ref y, .int (nI c)] (f, r) r Q := by
  refine xMet_0 (by decide +kernel) rfl (Nat.le_of_ble_eq_true rfl) ?_
  show xX G (d + 4) mX4_cellsEqualTo r r (xΦ G r r Q) 0 [(0, .ref y), (1, .int (nI c))] [] (f, r)
  refine xr_iconst (v := nI 0) (n := 1) dX4_cellsEqualTo_0 (by decide) rfl ?_
  refine xq_istore_n 2 (n := 2) dX4_cellsEqualTo_1 rfl rfl rfl ?_
  simp only [xst, Nat.beq, List.filter, Bool.not_true, Bool.not_false]
  refine xr_iconst (v := nI 0) (n := 3) dX4_cellsEqualTo_2 (by decide) rfl ?_
  refine xq_istore_n 3 (n := 4) dX4_cellsEqualTo_3 rfl rfl rfl ?_
  simp only [xst, Nat.beq, List.filter, Bool.not_true, Bool.not_false]
  refine nat_down (P := fun k => xX G (d + 4) mX4_cellsEqualTo r r (xΦ G r r Q) 4 [(0, .ref y), (1, .int (nI c)), (2, .int (eqv (0, δ) (0, ε) c k)), (3, .int (nI k))] [] (f, r)) (N := 6) ?_ ?_ 0 (by omega)
  · refine xr_iload_n (n := 5) dX4_cellsEqualTo_4 rfl rfl ?_
    refine xr_bipush (v := nI 6) (n := 7) dX4_cellsEqualTo_5 (by decide) rfl ?_
    refine xr_icmp_ge (tgt := 31) (n := 10) dX4_cellsEqualTo_7 (by decide) rfl (fun h7 => ?_) (fun h7 => by (exfalso; ((try simp (disch := omega) only [i_lt, i_le, i_eq, nt, i_m1, Int32.toInt_zero] at *); omega)))
    refine xr_iload_n (n := 32) dX4_cellsEqualTo_31 rfl rfl ?_
    refine xr_ireturn dX4_cellsEqualTo_32 rfl rfl rfl ?_
    exact hq
  · intro k hk ih
    skip
    refine xr_iload_n (n := 5) dX4_cellsEqualTo_4 rfl rfl ?_
    refine xr_bipush (v := nI 6) (n := 7) dX4_cellsEqualTo_5 (by decide) rfl ?_
    refine xr_icmp_ge (tgt := 31) (n := 10) dX4_cellsEqualTo_7 (by decide) rfl (fun h7 => by (exfalso; ((try simp (disch := omega) only [i_lt, i_le, i_eq, nt, i_m1, Int32.toInt_zero] at *); omega))) (fun h7 => ?_)
    refine xr_aload_n (n := 11) dX4_cellsEqualTo_10 rfl rfl ?_
    refine xr_iload_n (n := 12) dX4_cellsEqualTo_11 rfl rfl ?_
    refine xr_iload_n (n := 13) dX4_cellsEqualTo_12 rfl rfl ?_
    refine xr_callV (y2 := mX4_isAlwaysSame) (As := [_, _]) (n := 16) dX4_cellsEqualTo_13 lm_X4_58 pm_X4_isAlwaysSame pi_X4_isAlwaysSame (by first | exact hS | exact tat_0 hT | exact tat_0 hT2 | exact tat_r hT (by decide) | exact tat_r hT2 (by decide)) rfl rfl rfl (by simp [Value.category]) rfl ⟨Nat.le_refl _, Nat.le_refl _⟩ ?_
    refine s_X4_isAlwaysSame hS hT hT2 h6 hb h62 hb2 hc hk ?_
    dsimp only [xK, xps]
    refine xr_beq (tgt := 25) (n := 19) dX4_cellsEqualTo_16 (by decide) rfl (fun h16 => ?_) (fun h16 => ?_)
    · refine xr_iinc (n := 28) dX4_cellsEqualTo_25 rfl rfl (rfl) rfl ?_
      simp only [xst, Nat.beq, List.filter, Bool.not_true, Bool.not_false]
      (first | (simp (disch := omega) only [nI_clamp, pk_mul, nI_add, oi1, up2_ss, up2_n, up2_sn, ur_s, ur_n, Nat.reduceMul, Nat.reduceAdd, Nat.add_zero]) | skip)
      refine xr_goto (n := 4) dX4_cellsEqualTo_28 (by decide) ?_
      rw [eqv_s] at ih
      first | (rw [if_pos h16] at ih; exact ih) | (rw [if_neg h16, or_0] at ih; exact ih)
    · refine xr_iload_n (n := 20) dX4_cellsEqualTo_19 rfl rfl ?_
      refine xr_iconst (v := nI 1) (n := 21) dX4_cellsEqualTo_20 (by decide) rfl ?_
      refine xr_iload_n (n := 22) dX4_cellsEqualTo_21 rfl rfl ?_
      refine xr_ishl (n := 23) dX4_cellsEqualTo_22 rfl ?_
      refine xr_ior (n := 24) dX4_cellsEqualTo_23 rfl ?_
      refine xq_istore_n 2 (n := 25) dX4_cellsEqualTo_24 rfl rfl rfl ?_
      simp only [xst, Nat.beq, List.filter, Bool.not_true, Bool.not_false]
      refine xr_iinc (n := 28) dX4_cellsEqualTo_25 rfl rfl (rfl) rfl ?_
      simp only [xst, Nat.beq, List.filter, Bool.not_true, Bool.not_false]
      (first | (simp (disch := omega) only [nI_clamp, pk_mul, nI_add, oi1, up2_ss, up2_n, up2_sn, ur_s, ur_n, Nat.reduceMul, Nat.reduceAdd, Nat.add_zero]) | skip)
      refine xr_goto (n := 4) dX4_cellsEqualTo_28 (by decide) ?_
      rw [eqv_s] at ih
      first | (rw [if_pos h16] at ih; exact ih) | (rw [if_neg h16, or_0] at ih; exact ih)

theorem s_X4_inAgreement {G : xG} {d : Nat} {f : Nat → xC} {r : Nat × Nat} {Q : Option Value → xM → Prop} {y u v tl tl1 : Nat} {δ ε : xS} (hS : f y = ob 4 [.ref u, .ref v]) (hT : tat f u δ) (hT2 : tat f v ε) (h9 : δ 9 0 = nI tl) (hb : tl ≤ 400) (h92 : ε 9 0 = nI tl1) (hb2 : tl1 ≤ 400) (hq : Q (some (.int (b2i (δ 10 0 = nI 0 ∧ ε 10 0 = nI 0 ∧ δ 9 0 = ε 9 0 ∧ fdv (0, δ) (0, ε) = (-10009))))) (f, r)) : xMet G (d + 4) mX4_inAgreement [.ref y] (f, r) r Q := by
  refine xMet_0 (by decide +kernel) rfl (Nat.le_of_ble_eq_true rfl) ?_
  show xX G (d + 4) mX4_inAgreement r r (xΦ G r r Q) 0 [(0, .ref y)] [] (f, r)
  refine xr_aload_n (n := 1) dX4_inAgreement_0 rfl rfl ?_
  refine xr_get (n := 4) dX4_inAgreement_1 fl_X4_12 (by first | exact hS | exact tat_0 hT | exact tat_0 hT2 | exact tat_r hT (by decide) | exact tat_r hT2 (by decide)) (by rfl) rfl ?_
  refine xr_get (n := 7) dX4_inAgreement_4 fl_X4_62 (by first | exact hS | exact tat_0 hT | exact tat_0 hT2 | exact tat_r hT (by decide) | exact tat_r hT2 (by decide)) (by rfl) rfl ?_
  refine xr_get (n := 10) dX4_inAgreement_7 fl_X4_66 (by first | exact hS | exact tat_0 hT | exact tat_0 hT2 | exact tat_r hT (by decide) | exact tat_r hT2 (by decide)) (by rfl) rfl ?_
  (first | (simp (disch := omega) only [nI_clamp, pk_mul, nI_add, oi1, up2_ss, up2_n, up2_sn, ur_s, ur_n, Nat.reduceMul, Nat.reduceAdd, Nat.add_zero]) | skip)
  refine xr_if_ne (tgt := 50) (n := 13) dX4_inAgreement_10 (by decide) rfl (fun h10 => ?_) (fun h10 => ?_)
  · refine xr_iconst (v := nI 0) (n := 51) dX4_inAgreement_50 (by decide) rfl ?_
    refine xr_ireturn dX4_inAgreement_51 rfl (by first | exact b2i_nar | exact nar_1 | exact nar_0) rfl ?_
    refine qi hq ?_
    first | exact b2i_t ⟨by first | assumption | exact Decidable.not_not.mp (by assumption), by first | assumption | exact Decidable.not_not.mp (by assumption), h43.1, h43.2⟩ | exact b2i_f (fun q => h43 q.2.2) | exact b2i_f (fun q => absurd q.1 (by assumption)) | exact b2i_f (fun q => absurd q.2.1 (by assumption))
  · refine xr_aload_n (n := 14) dX4_inAgreement_13 rfl rfl ?_
    refine xr_get (n := 17) dX4_inAgreement_14 fl_X4_18 (by first | exact hS | exact tat_0 hT | exact tat_0 hT2 | exact tat_r hT (by decide) | exact tat_r hT2 (by decide)) (by rfl) rfl ?_
    refine xr_get (n := 20) dX4_inAgreement_17 fl_X4_62 (by first | exact hS | exact tat_0 hT | exact tat_0 hT2 | exact tat_r hT (by decide) | exact tat_r hT2 (by decide)) (by rfl) rfl ?_
    refine xr_get (n := 23) dX4_inAgreement_20 fl_X4_66 (by first | exact hS | exact tat_0 hT | exact tat_0 hT2 | exact tat_r hT (by decide) | exact tat_r hT2 (by decide)) (by rfl) rfl ?_
    (first | (simp (disch := omega) only [nI_clamp, pk_mul, nI_add, oi1, up2_ss, up2_n, up2_sn, ur_s, ur_n, Nat.reduceMul, Nat.reduceAdd, Nat.add_zero]) | skip)
    refine xr_if_ne (tgt := 50) (n := 26) dX4_inAgreement_23 (by decide) rfl (fun h23 => ?_) (fun h23 => ?_)
    · refine xr_iconst (v := nI 0) (n := 51) dX4_inAgreement_50 (by decide) rfl ?_
      refine xr_ireturn dX4_inAgreement_51 rfl (by first | exact b2i_nar | exact nar_1 | exact nar_0) rfl ?_
      refine qi hq ?_
      first | exact b2i_t ⟨by first | assumption | exact Decidable.not_not.mp (by assumption), by first | assumption | exact Decidable.not_not.mp (by assumption), h43.1, h43.2⟩ | exact b2i_f (fun q => h43 q.2.2) | exact b2i_f (fun q => absurd q.1 (by assumption)) | exact b2i_f (fun q => absurd q.2.1 (by assumption))
    · refine xr_aload_n (n := 27) dX4_inAgreement_26 rfl rfl ?_
      refine xr_get (n := 30) dX4_inAgreement_27 fl_X4_12 (by first | exact hS | exact tat_0 hT | exact tat_0 hT2 | exact tat_r hT (by decide) | exact tat_r hT2 (by decide)) (by rfl) rfl ?_
      refine xr_get (n := 33) dX4_inAgreement_30 fl_X4_62 (by first | exact hS | exact tat_0 hT | exact tat_0 hT2 | exact tat_r hT (by decide) | exact tat_r hT2 (by decide)) (by rfl) rfl ?_
      refine xr_aload_n (n := 34) dX4_inAgreement_33 rfl rfl ?_
      refine xr_get (n := 37) dX4_inAgreement_34 fl_X4_18 (by first | exact hS | exact tat_0 hT | exact tat_0 hT2 | exact tat_r hT (by decide) | exact tat_r hT2 (by decide)) (by rfl) rfl ?_
      refine xr_get (n := 40) dX4_inAgreement_37 fl_X4_62 (by first | exact hS | exact tat_0 hT | exact tat_0 hT2 | exact tat_r hT (by decide) | exact tat_r hT2 (by decide)) (by rfl) rfl ?_
      refine xr_callV (y2 := mX2_hasValuesOf) (As := [_]) (n := 43) dX4_inAgreement_40 lm_X4_72 pm_X2_hasValuesOf pi_X2_hasValuesOf (by first | exact hS | exact tat_0 hT | exact tat_0 hT2 | exact tat_r hT (by decide) | exact tat_r hT2 (by decide)) rfl rfl rfl (by simp [Value.category]) rfl ⟨Nat.le_refl _, Nat.le_refl _⟩ ?_
      refine s_X2_hasValuesOf (t_oat hT) (t_oat hT2) h9 hb h92 hb2 ?_
      dsimp only [xK, xps]
      refine xr_beq (tgt := 50) (n := 46) dX4_inAgreement_43 (by decide) rfl (fun h43 => ?_) (fun h43 => ?_)
      · refine xr_iconst (v := nI 0) (n := 51) dX4_inAgreement_50 (by decide) rfl ?_
        refine xr_ireturn dX4_inAgreement_51 rfl (by first | exact b2i_nar | exact nar_1 | exact nar_0) rfl ?_
        refine qi hq ?_
        first | exact b2i_t ⟨by first | assumption | exact Decidable.not_not.mp (by assumption), by first | assumption | exact Decidable.not_not.mp (by assumption), h43.1, h43.2⟩ | exact b2i_f (fun q => h43 q.2.2) | exact b2i_f (fun q => absurd q.1 (by assumption)) | exact b2i_f (fun q => absurd q.2.1 (by assumption))
      · refine xr_iconst (v := nI 1) (n := 47) dX4_inAgreement_46 (by decide) rfl ?_
        refine xr_goto (n := 51) dX4_inAgreement_47 (by decide) ?_
        refine xr_ireturn dX4_inAgreement_51 rfl (by first | exact b2i_nar | exact nar_1 | exact nar_0) rfl ?_
        refine qi hq ?_
        first | exact b2i_t ⟨by first | assumption | exact Decidable.not_not.mp (by assumption), by first | assumption | exact Decidable.not_not.mp (by assumption), h43.1, h43.2⟩ | exact b2i_f (fun q => h43 q.2.2) | exact b2i_f (fun q => absurd q.1 (by assumption)) | exact b2i_f (fun q => absurd q.2.1 (by assumption))
