/-! THE LAW's small methods -/
/-- a remainder as the law takes it -/
def lo (v : Int32) (n : Nat) : Nat := v.toBitVec.toNat % 2 ^ 31 % n
theorem lo_lt (v : Int32) {n : Nat} (h : 0 < n) : lo v n < n := Nat.mod_lt _ h
theorem lo_and (v : Int32) : v &&& 2147483647 = nI (v.toBitVec.toNat % 2 ^ 31) := pk_and v 31 (by decide +kernel)
theorem lo_rem (v : Int32) {n : Nat} (h : 0 < n) (h2 : n < 2 ^ 31) : (v &&& 2147483647) - (v &&& 2147483647) / nI n * nI n = nI (lo v n) := by
  rw [lo_and, pk_rem (Nat.mod_lt _ (by decide)) h h2]
  rfl
def nearV (v : Int32) (n : Nat) : Int32 := if lo v 40 = 0 then (-1) else if lo v 40 = 1 then nI n else if lo v 40 = 2 then v else if n < 1 then nI 0 else nI (lo (v >>> (nI 6 &&& 31)) n)
theorem s_L_low {G : xG} {d : Nat} {f : Nat → xC} {r : Nat × Nat} {Q : Option Value → xM → Prop} {v : Int32} {n : Nat} (hn : 0 < n) (hn2 : n < 2 ^ 31) (hq : Q (some (.int (nI (lo v n)))) (f, r)) : xMet G d mL_low [.int v, .int (nI n)] (f, r) r Q := by
  refine xMet_0 (by decide +kernel) rfl (Nat.le_of_ble_eq_true rfl) ?_
  show xX G d mL_low r r (xΦ G r r Q) 0 [(0, .int v), (1, .int (nI n))] [] (f, r)
  refine xr_iload_n (n := 1) dL_low_0 rfl rfl ?_
  refine xr_ldc (v := 2147483647) (n := 3) dL_low_1 kk_L_8 rfl ?_
  refine xr_iand (n := 4) dL_low_3 rfl ?_
  refine xr_iload_n (n := 5) dL_low_4 rfl rfl ?_
  refine xr_irem (n := 6) dL_low_5 (fun e => by have h9 := nt n hn2; rw [e, Int32.toInt_zero] at h9; omega) rfl ?_
  rw [lo_rem v hn hn2]
  refine xr_ireturn dL_low_6 rfl rfl rfl ?_
  exact hq

theorem s_L_near {G : xG} {d : Nat} {f : Nat → xC} {r : Nat × Nat} {Q : Option Value → xM → Prop} {v : Int32} {n : Nat} (hn2 : n < 2 ^ 31) (hq : Q (some (.int (nearV v n))) (f, r)) : xMet G (d + 1) mL_near [.int v, .int (nI n)] (f, r) r Q := by
  refine xMet_0 (by decide +kernel) rfl (Nat.le_of_ble_eq_true rfl) ?_
  show xX G (d + 1) mL_near r r (xΦ G r r Q) 0 [(0, .int v), (1, .int (nI n))] [] (f, r)
  have hl := lo_lt v (n := 40) (by omega)
  refine xr_iload_n (n := 1) dL_near_0 rfl rfl ?_
  refine xr_bipush (v := nI 40) (n := 3) dL_near_1 (by decide) rfl ?_
  refine xr_callS (y2 := mL_low) (As := [_, _]) (n := 6) dL_near_3 lm_L_9 pm_L_low kp_static_yL_low rfl rfl (by simp [Value.category]) rfl ⟨Nat.le_refl _, Nat.le_refl _⟩ ?_
  refine s_L_low (by omega) (by omega) ?_
  dsimp only [xK, xps]
  refine xq_istore_n 2 (n := 7) dL_near_6 rfl rfl rfl ?_
  simp only [xst, Nat.beq, List.filter, Bool.not_true, Bool.not_false]
  refine xr_iload_n (n := 8) dL_near_7 rfl rfl ?_
  refine xr_if_ne (tgt := 15) (n := 11) dL_near_8 (by decide) rfl (fun h8 => ?_) (fun h8 => ?_)
  · refine xr_iload_n (n := 16) dL_near_15 rfl rfl ?_
    refine xr_iconst (v := nI 1) (n := 17) dL_near_16 (by decide) rfl ?_
    refine xr_icmp_ne (tgt := 24) (n := 20) dL_near_17 (by decide) rfl (fun h17 => ?_) (fun h17 => ?_)
    · refine xr_iload_n (n := 25) dL_near_24 rfl rfl ?_
      refine xr_iconst (v := nI 2) (n := 26) dL_near_25 (by decide) rfl ?_
      refine xr_icmp_ne (tgt := 33) (n := 29) dL_near_26 (by decide) rfl (fun h26 => ?_) (fun h26 => ?_)
      · refine xr_iload_n (n := 34) dL_near_33 rfl rfl ?_
        refine xr_iconst (v := nI 1) (n := 35) dL_near_34 (by decide) rfl ?_
        refine xr_icmp_ge (tgt := 42) (n := 38) dL_near_35 (by decide) rfl (fun h35 => ?_) (fun h35 => ?_)
        · have hn1 : 0 < n := by ((try simp (disch := omega) only [i_lt, i_le, i_eq, nt, i_m1, Int32.toInt_zero] at *); omega)
          refine xr_iload_n (n := 43) dL_near_42 rfl rfl ?_
          refine xr_bipush (v := nI 6) (n := 45) dL_near_43 (by decide) rfl ?_
          refine xr_ishr (n := 46) dL_near_45 rfl ?_
          refine xr_iload_n (n := 47) dL_near_46 rfl rfl ?_
          refine xr_callS (y2 := mL_low) (As := [_, _]) (n := 50) dL_near_47 lm_L_9 pm_L_low kp_static_yL_low rfl rfl (by simp [Value.category]) rfl ⟨Nat.le_refl _, Nat.le_refl _⟩ ?_
          refine s_L_low (by omega) (by omega) ?_
          dsimp only [xK, xps]
          refine xr_ireturn dL_near_50 rfl rfl rfl ?_
          unfold nearV at hq
          rw [if_neg (show ¬ lo v 40 = 0 by ((try simp (disch := omega) only [i_lt, i_le, i_eq, nt, i_m1, Int32.toInt_zero] at *); omega))] at hq
          rw [if_neg (show ¬ lo v 40 = 1 by ((try simp (disch := omega) only [i_lt, i_le, i_eq, nt, i_m1, Int32.toInt_zero] at *); omega))] at hq
          rw [if_neg (show ¬ lo v 40 = 2 by ((try simp (disch := omega) only [i_lt, i_le, i_eq, nt, i_m1, Int32.toInt_zero] at *); omega))] at hq
          rw [if_neg (show ¬ n < 1 by omega)] at hq
          exact hq
        · refine xr_iconst (v := nI 0) (n := 39) dL_near_38 (by decide) rfl ?_
          refine xr_goto (n := 50) dL_near_39 (by decide) ?_
          refine xr_ireturn dL_near_50 rfl rfl rfl ?_
          unfold nearV at hq
          rw [if_neg (show ¬ lo v 40 = 0 by ((try simp (disch := omega) only [i_lt, i_le, i_eq, nt, i_m1, Int32.toInt_zero] at *); omega))] at hq
          rw [if_neg (show ¬ lo v 40 = 1 by ((try simp (disch := omega) only [i_lt, i_le, i_eq, nt, i_m1, Int32.toInt_zero] at *); omega))] at hq
          rw [if_neg (show ¬ lo v 40 = 2 by ((try simp (disch := omega) only [i_lt, i_le, i_eq, nt, i_m1, Int32.toInt_zero] at *); omega))] at hq
          rw [if_pos (show n < 1 by ((try simp (disch := omega) only [i_lt, i_le, i_eq, nt, i_m1, Int32.toInt_zero] at *); omega))] at hq
          exact hq
      · refine xr_iload_n (n := 30) dL_near_29 rfl rfl ?_
        refine xr_goto (n := 50) dL_near_30 (by decide) ?_
        refine xr_ireturn dL_near_50 rfl rfl rfl ?_
        unfold nearV at hq
        rw [if_neg (show ¬ lo v 40 = 0 by ((try simp (disch := omega) only [i_lt, i_le, i_eq, nt, i_m1, Int32.toInt_zero] at *); omega))] at hq
        rw [if_neg (show ¬ lo v 40 = 1 by ((try simp (disch := omega) only [i_lt, i_le, i_eq, nt, i_m1, Int32.toInt_zero] at *); omega))] at hq
        rw [if_pos (show lo v 40 = 2 by ((try simp (disch := omega) only [i_lt, i_le, i_eq, nt, i_m1, Int32.toInt_zero] at *); omega))] at hq
        exact hq
    · refine xr_iload_n (n := 21) dL_near_20 rfl rfl ?_
      refine xr_goto (n := 50) dL_near_21 (by decide) ?_
      refine xr_ireturn dL_near_50 rfl rfl rfl ?_
      unfold nearV at hq
      rw [if_neg (show ¬ lo v 40 = 0 by ((try simp (disch := omega) only [i_lt, i_le, i_eq, nt, i_m1, Int32.toInt_zero] at *); omega))] at hq
      rw [if_pos (show lo v 40 = 1 by ((try simp (disch := omega) only [i_lt, i_le, i_eq, nt, i_m1, Int32.toInt_zero] at *); omega))] at hq
      exact hq
  · refine xr_iconst (v := (-1)) (n := 12) dL_near_11 (by decide) rfl ?_
    refine xr_goto (n := 50) dL_near_12 (by decide) ?_
    refine xr_ireturn dL_near_50 rfl rfl rfl ?_
    unfold nearV at hq
    rw [if_pos (show lo v 40 = 0 by ((try simp (disch := omega) only [i_lt, i_le, i_eq, nt, i_m1, Int32.toInt_zero] at *); omega))] at hq
    exact hq

theorem s_L_least {G : xG} {d : Nat} {f : Nat → xC} {r : Nat × Nat} {Q : Option Value → xM → Prop} {a b : Nat} (ha : a < 2 ^ 31) (hb : b < 2 ^ 31) (hq : Q (some (.int (nI (if a < b then a else b)))) (f, r)) : xMet G d mL_least [.int (nI a), .int (nI b)] (f, r) r Q := by
  refine xMet_0 (by decide +kernel) rfl (Nat.le_of_ble_eq_true rfl) ?_
  show xX G d mL_least r r (xΦ G r r Q) 0 [(0, .int (nI a)), (1, .int (nI b))] [] (f, r)
  refine xr_iload_n (n := 1) dL_least_0 rfl rfl ?_
  refine xr_iload_n (n := 2) dL_least_1 rfl rfl ?_
  refine xr_icmp_ge (tgt := 9) (n := 5) dL_least_2 (by decide) rfl (fun h2 => ?_) (fun h2 => ?_)
  · refine xr_iload_n (n := 10) dL_least_9 rfl rfl ?_
    refine xr_ireturn dL_least_10 rfl rfl rfl ?_
    rw [if_neg (show ¬ a < b by ((try simp (disch := omega) only [i_lt, i_le, i_eq, nt, i_m1, Int32.toInt_zero] at *); omega))] at hq
    exact hq
  · refine xr_iload_n (n := 6) dL_least_5 rfl rfl ?_
    refine xr_goto (n := 10) dL_least_6 (by decide) ?_
    refine xr_ireturn dL_least_10 rfl rfl rfl ?_
    rw [if_pos (show a < b by ((try simp (disch := omega) only [i_lt, i_le, i_eq, nt, i_m1, Int32.toInt_zero] at *); omega))] at hq
    exact hq
