theorem oi1 : Int32.ofInt 1 = nI 1 := by decide +kernel
theorem oi6 : Int32.ofInt 6 = nI 6 := by decide +kernel
theorem nneg {n : Nat} (h : n < 2 ^ 31) : ¬ (nI n).toInt < 0 := by rw [nt n h]; omega
def mheld (v : Int32) : Int32 := if v < (-999) then (-999) else if nI 999 < v then nI 999 else v
theorem s_X8_within {G : xG} {d : Nat} {f : Nat → xC} {r : Nat × Nat} {Q : Option Value → xM → Prop} {v lo hi : Int32}  (hq : Q (some (.int (b2i (lo.toInt ≤ v.toInt ∧ v.toInt ≤ hi.toInt)))) (f, r)) : xMet G d mX8_within [.int v, .int lo, .int hi] (f, r) r Q := by
  refine xMet_0 (by decide +kernel) rfl (Nat.le_of_ble_eq_true rfl) ?_
  show xX G d mX8_within r r (xΦ G r r Q) 0 [(0, .int v), (1, .int lo), (2, .int hi)] [] (f, r)
  refine xr_iload_n (n := 1) dX8_within_0 rfl rfl ?_
  refine xr_iload_n (n := 2) dX8_within_1 rfl rfl ?_
  refine xr_icmp_lt (tgt := 14) (n := 5) dX8_within_2 (by decide) rfl (fun h2 => ?_) (fun h2 => ?_)
  · refine xr_iconst (v := nI 0) (n := 15) dX8_within_14 (by decide) rfl ?_
    refine xr_ireturn dX8_within_15 rfl (by first | exact b2i_nar | exact nar_1 | exact nar_0) rfl ?_
    first | exact hq | (rw [b2i_t (by ((try simp (disch := omega) only [i_lt, i_le, i_eq, nt, i_m1] at *); omega))] at hq; exact hq) | (rw [b2i_f (by ((try simp (disch := omega) only [i_lt, i_le, i_eq, nt, i_m1] at *); omega))] at hq; exact hq)
  · refine xr_iload_n (n := 6) dX8_within_5 rfl rfl ?_
    refine xr_iload_n (n := 7) dX8_within_6 rfl rfl ?_
    refine xr_icmp_gt (tgt := 14) (n := 10) dX8_within_7 (by decide) rfl (fun h7 => ?_) (fun h7 => ?_)
    · refine xr_iconst (v := nI 0) (n := 15) dX8_within_14 (by decide) rfl ?_
      refine xr_ireturn dX8_within_15 rfl (by first | exact b2i_nar | exact nar_1 | exact nar_0) rfl ?_
      first | exact hq | (rw [b2i_t (by ((try simp (disch := omega) only [i_lt, i_le, i_eq, nt, i_m1] at *); omega))] at hq; exact hq) | (rw [b2i_f (by ((try simp (disch := omega) only [i_lt, i_le, i_eq, nt, i_m1] at *); omega))] at hq; exact hq)
    · refine xr_iconst (v := nI 1) (n := 11) dX8_within_10 (by decide) rfl ?_
      refine xr_goto (n := 15) dX8_within_11 (by decide) ?_
      refine xr_ireturn dX8_within_15 rfl (by first | exact b2i_nar | exact nar_1 | exact nar_0) rfl ?_
      first | exact hq | (rw [b2i_t (by ((try simp (disch := omega) only [i_lt, i_le, i_eq, nt, i_m1] at *); omega))] at hq; exact hq) | (rw [b2i_f (by ((try simp (disch := omega) only [i_lt, i_le, i_eq, nt, i_m1] at *); omega))] at hq; exact hq)

theorem s_X8_isProgram {G : xG} {d : Nat} {f : Nat → xC} {r : Nat × Nat} {Q : Option Value → xM → Prop} {p : Int32}  (hq : Q (some (.int (b2i (0 ≤ p.toInt ∧ p.toInt ≤ 1)))) (f, r)) : xMet G (d + 1) mX8_isProgram [.int p] (f, r) r Q := by
  refine xMet_0 (by decide +kernel) rfl (Nat.le_of_ble_eq_true rfl) ?_
  show xX G (d + 1) mX8_isProgram r r (xΦ G r r Q) 0 [(0, .int p)] [] (f, r)
  refine xr_iload_n (n := 1) dX8_isProgram_0 rfl rfl ?_
  refine xr_iconst (v := nI 0) (n := 2) dX8_isProgram_1 (by decide) rfl ?_
  refine xr_iconst (v := nI 1) (n := 3) dX8_isProgram_2 (by decide) rfl ?_
  refine xr_callS (y2 := mX8_within) (As := [_, _, _]) (n := 6) dX8_isProgram_3 lm_X8_61 pm_X8_within kp_static_yX8_within rfl rfl (by simp [Value.category]) rfl ⟨Nat.le_refl _, Nat.le_refl _⟩ ?_
  refine s_X8_within ?_
  dsimp only [xK, xps]
  refine xr_ireturn dX8_isProgram_6 rfl (by first | exact b2i_nar | exact nar_1 | exact nar_0) rfl ?_
  rw [b2i_iff (q := 0 ≤ p.toInt ∧ p.toInt ≤ 1) (by (simp (disch := omega) only [nt]); omega)]; exact hq

theorem s_X8_isCell {G : xG} {d : Nat} {f : Nat → xC} {r : Nat × Nat} {Q : Option Value → xM → Prop} {p : Int32}  (hq : Q (some (.int (b2i (0 ≤ p.toInt ∧ p.toInt ≤ 5)))) (f, r)) : xMet G (d + 1) mX8_isCell [.int p] (f, r) r Q := by
  refine xMet_0 (by decide +kernel) rfl (Nat.le_of_ble_eq_true rfl) ?_
  show xX G (d + 1) mX8_isCell r r (xΦ G r r Q) 0 [(0, .int p)] [] (f, r)
  refine xr_iload_n (n := 1) dX8_isCell_0 rfl rfl ?_
  refine xr_iconst (v := nI 0) (n := 2) dX8_isCell_1 (by decide) rfl ?_
  refine xr_iconst (v := nI 5) (n := 3) dX8_isCell_2 (by decide) rfl ?_
  refine xr_callS (y2 := mX8_within) (As := [_, _, _]) (n := 6) dX8_isCell_3 lm_X8_61 pm_X8_within kp_static_yX8_within rfl rfl (by simp [Value.category]) rfl ⟨Nat.le_refl _, Nat.le_refl _⟩ ?_
  refine s_X8_within ?_
  dsimp only [xK, xps]
  refine xr_ireturn dX8_isCell_6 rfl (by first | exact b2i_nar | exact nar_1 | exact nar_0) rfl ?_
  rw [b2i_iff (q := 0 ≤ p.toInt ∧ p.toInt ≤ 5) (by (simp (disch := omega) only [nt]); omega)]; exact hq

theorem s_X8_isLetter {G : xG} {d : Nat} {f : Nat → xC} {r : Nat × Nat} {Q : Option Value → xM → Prop} {p : Int32}  (hq : Q (some (.int (b2i (97 ≤ p.toInt ∧ p.toInt ≤ 102)))) (f, r)) : xMet G (d + 1) mX8_isLetter [.int p] (f, r) r Q := by
  refine xMet_0 (by decide +kernel) rfl (Nat.le_of_ble_eq_true rfl) ?_
  show xX G (d + 1) mX8_isLetter r r (xΦ G r r Q) 0 [(0, .int p)] [] (f, r)
  refine xr_iload_n (n := 1) dX8_isLetter_0 rfl rfl ?_
  refine xr_bipush (v := nI 97) (n := 3) dX8_isLetter_1 (by decide) rfl ?_
  refine xr_bipush (v := nI 102) (n := 5) dX8_isLetter_3 (by decide) rfl ?_
  refine xr_callS (y2 := mX8_within) (As := [_, _, _]) (n := 8) dX8_isLetter_5 lm_X8_61 pm_X8_within kp_static_yX8_within rfl rfl (by simp [Value.category]) rfl ⟨Nat.le_refl _, Nat.le_refl _⟩ ?_
  refine s_X8_within ?_
  dsimp only [xK, xps]
  refine xr_ireturn dX8_isLetter_8 rfl (by first | exact b2i_nar | exact nar_1 | exact nar_0) rfl ?_
  rw [b2i_iff (q := 97 ≤ p.toInt ∧ p.toInt ≤ 102) (by (simp (disch := omega) only [nt]); omega)]; exact hq

theorem s_X8_isInput {G : xG} {d : Nat} {f : Nat → xC} {r : Nat × Nat} {Q : Option Value → xM → Prop} {a b : Int32}  (hq : Q (some (.int (b2i ((-999 ≤ a.toInt ∧ a.toInt ≤ 999) ∧ (-999 ≤ b.toInt ∧ b.toInt ≤ 999))))) (f, r)) : xMet G (d + 1) mX8_isInput [.int a, .int b] (f, r) r Q := by
  refine xMet_0 (by decide +kernel) rfl (Nat.le_of_ble_eq_true rfl) ?_
  show xX G (d + 1) mX8_isInput r r (xΦ G r r Q) 0 [(0, .int a), (1, .int b)] [] (f, r)
  refine xr_iload_n (n := 1) dX8_isInput_0 rfl rfl ?_
  refine xr_sipush (v := (-999)) (n := 4) dX8_isInput_1 (by decide) rfl ?_
  refine xr_sipush (v := nI 999) (n := 7) dX8_isInput_4 (by decide) rfl ?_
  refine xr_callS (y2 := mX8_within) (As := [_, _, _]) (n := 10) dX8_isInput_7 lm_X8_61 pm_X8_within kp_static_yX8_within rfl rfl (by simp [Value.category]) rfl ⟨Nat.le_refl _, Nat.le_refl _⟩ ?_
  refine s_X8_within ?_
  dsimp only [xK, xps]
  refine xr_beq (tgt := 30) (n := 13) dX8_isInput_10 (by decide) rfl (fun h10 => ?_) (fun h10 => ?_)
  · refine xr_iconst (v := nI 0) (n := 31) dX8_isInput_30 (by decide) rfl ?_
    refine xr_ireturn dX8_isInput_31 rfl (by first | exact b2i_nar | exact nar_1 | exact nar_0) rfl ?_
    have e1 : (-999 : Int32).toInt = -999 := by decide +kernel
    first | (rw [b2i_t (by (simp (disch := omega) only [nt] at *); omega)] at hq; exact hq) | (rw [b2i_f (by (simp (disch := omega) only [nt] at *); omega)] at hq; exact hq)
  · refine xr_iload_n (n := 14) dX8_isInput_13 rfl rfl ?_
    refine xr_sipush (v := (-999)) (n := 17) dX8_isInput_14 (by decide) rfl ?_
    refine xr_sipush (v := nI 999) (n := 20) dX8_isInput_17 (by decide) rfl ?_
    refine xr_callS (y2 := mX8_within) (As := [_, _, _]) (n := 23) dX8_isInput_20 lm_X8_61 pm_X8_within kp_static_yX8_within rfl rfl (by simp [Value.category]) rfl ⟨Nat.le_refl _, Nat.le_refl _⟩ ?_
    refine s_X8_within ?_
    dsimp only [xK, xps]
    refine xr_beq (tgt := 30) (n := 26) dX8_isInput_23 (by decide) rfl (fun h23 => ?_) (fun h23 => ?_)
    · refine xr_iconst (v := nI 0) (n := 31) dX8_isInput_30 (by decide) rfl ?_
      refine xr_ireturn dX8_isInput_31 rfl (by first | exact b2i_nar | exact nar_1 | exact nar_0) rfl ?_
      have e1 : (-999 : Int32).toInt = -999 := by decide +kernel
      first | (rw [b2i_t (by (simp (disch := omega) only [nt] at *); omega)] at hq; exact hq) | (rw [b2i_f (by (simp (disch := omega) only [nt] at *); omega)] at hq; exact hq)
    · refine xr_iconst (v := nI 1) (n := 27) dX8_isInput_26 (by decide) rfl ?_
      refine xr_goto (n := 31) dX8_isInput_27 (by decide) ?_
      refine xr_ireturn dX8_isInput_31 rfl (by first | exact b2i_nar | exact nar_1 | exact nar_0) rfl ?_
      have e1 : (-999 : Int32).toInt = -999 := by decide +kernel
      first | (rw [b2i_t (by (simp (disch := omega) only [nt] at *); omega)] at hq; exact hq) | (rw [b2i_f (by (simp (disch := omega) only [nt] at *); omega)] at hq; exact hq)

theorem s_X8_held {G : xG} {d : Nat} {f : Nat → xC} {r : Nat × Nat} {Q : Option Value → xM → Prop} {v : Int32}  (hq : Q (some (.int (mheld v))) (f, r)) : xMet G d mX8_held [.int v] (f, r) r Q := by
  refine xMet_0 (by decide +kernel) rfl (Nat.le_of_ble_eq_true rfl) ?_
  show xX G d mX8_held r r (xΦ G r r Q) 0 [(0, .int v)] [] (f, r)
  refine xr_iload_n (n := 1) dX8_held_0 rfl rfl ?_
  refine xr_sipush (v := (-999)) (n := 4) dX8_held_1 (by decide) rfl ?_
  refine xr_icmp_ge (tgt := 13) (n := 7) dX8_held_4 (by decide) rfl (fun h4 => ?_) (fun h4 => ?_)
  · refine xr_iload_n (n := 14) dX8_held_13 rfl rfl ?_
    refine xr_sipush (v := nI 999) (n := 17) dX8_held_14 (by decide) rfl ?_
    refine xr_icmp_le (tgt := 26) (n := 20) dX8_held_17 (by decide) rfl (fun h17 => ?_) (fun h17 => ?_)
    · refine xr_iload_n (n := 27) dX8_held_26 rfl rfl ?_
      refine xr_ireturn dX8_held_27 rfl rfl rfl ?_
      refine qi hq ?_
      unfold mheld
      first | rw [if_pos (by ((try simp (disch := omega) only [i_lt, i_le, i_eq, nt, i_m1] at *); omega))] | rw [if_neg (by ((try simp (disch := omega) only [i_lt, i_le, i_eq, nt, i_m1] at *); omega)), if_pos (by ((try simp (disch := omega) only [i_lt, i_le, i_eq, nt, i_m1] at *); omega))] | rw [if_neg (by ((try simp (disch := omega) only [i_lt, i_le, i_eq, nt, i_m1] at *); omega)), if_neg (by ((try simp (disch := omega) only [i_lt, i_le, i_eq, nt, i_m1] at *); omega))]
    · refine xr_sipush (v := nI 999) (n := 23) dX8_held_20 (by decide) rfl ?_
      refine xr_goto (n := 27) dX8_held_23 (by decide) ?_
      refine xr_ireturn dX8_held_27 rfl rfl rfl ?_
      refine qi hq ?_
      unfold mheld
      first | rw [if_pos (by ((try simp (disch := omega) only [i_lt, i_le, i_eq, nt, i_m1] at *); omega))] | rw [if_neg (by ((try simp (disch := omega) only [i_lt, i_le, i_eq, nt, i_m1] at *); omega)), if_pos (by ((try simp (disch := omega) only [i_lt, i_le, i_eq, nt, i_m1] at *); omega))] | rw [if_neg (by ((try simp (disch := omega) only [i_lt, i_le, i_eq, nt, i_m1] at *); omega)), if_neg (by ((try simp (disch := omega) only [i_lt, i_le, i_eq, nt, i_m1] at *); omega))]
  · refine xr_sipush (v := (-999)) (n := 10) dX8_held_7 (by decide) rfl ?_
    refine xr_goto (n := 27) dX8_held_10 (by decide) ?_
    refine xr_ireturn dX8_held_27 rfl rfl rfl ?_
    refine qi hq ?_
    unfold mheld
    first | rw [if_pos (by ((try simp (disch := omega) only [i_lt, i_le, i_eq, nt, i_m1] at *); omega))] | rw [if_neg (by ((try simp (disch := omega) only [i_lt, i_le, i_eq, nt, i_m1] at *); omega)), if_pos (by ((try simp (disch := omega) only [i_lt, i_le, i_eq, nt, i_m1] at *); omega))] | rw [if_neg (by ((try simp (disch := omega) only [i_lt, i_le, i_eq, nt, i_m1] at *); omega)), if_neg (by ((try simp (disch := omega) only [i_lt, i_le, i_eq, nt, i_m1] at *); omega))]

theorem s_X8_least {G : xG} {d : Nat} {f : Nat → xC} {r : Nat × Nat} {Q : Option Value → xM → Prop} {a b : Int32}  (hq : Q (some (.int (if a < b then a else b))) (f, r)) : xMet G d mX8_least [.int a, .int b] (f, r) r Q := by
  refine xMet_0 (by decide +kernel) rfl (Nat.le_of_ble_eq_true rfl) ?_
  show xX G d mX8_least r r (xΦ G r r Q) 0 [(0, .int a), (1, .int b)] [] (f, r)
  refine xr_iload_n (n := 1) dX8_least_0 rfl rfl ?_
  refine xr_iload_n (n := 2) dX8_least_1 rfl rfl ?_
  refine xr_icmp_ge (tgt := 9) (n := 5) dX8_least_2 (by decide) rfl (fun h2 => ?_) (fun h2 => ?_)
  · refine xr_iload_n (n := 10) dX8_least_9 rfl rfl ?_
    refine xr_ireturn dX8_least_10 rfl rfl rfl ?_
    refine qi hq ?_
    first | rw [if_pos (by ((try simp (disch := omega) only [i_lt, i_le, i_eq, nt, i_m1] at *); omega))] | rw [if_neg (by ((try simp (disch := omega) only [i_lt, i_le, i_eq, nt, i_m1] at *); omega))]
  · refine xr_iload_n (n := 6) dX8_least_5 rfl rfl ?_
    refine xr_goto (n := 10) dX8_least_6 (by decide) ?_
    refine xr_ireturn dX8_least_10 rfl rfl rfl ?_
    refine qi hq ?_
    first | rw [if_pos (by ((try simp (disch := omega) only [i_lt, i_le, i_eq, nt, i_m1] at *); omega))] | rw [if_neg (by ((try simp (disch := omega) only [i_lt, i_le, i_eq, nt, i_m1] at *); omega))]

theorem s_X8_of {G : xG} {d : Nat} {f : Nat → xC} {r : Nat × Nat} {Q : Option Value → xM → Prop} {m : Nat} {μ : xS} {s w : Nat} (hs : s < 60) (hw : w < 7) (hq : Q (some (.int (μ 5 (1 + 7 * s + w)))) (mput f m μ, r)) : xMet G d mX8_of [.ref m, .int (nI s), .int (nI w)] (mput f m μ, r) r Q := by
  refine xMet_0 (by decide +kernel) rfl (Nat.le_of_ble_eq_true rfl) ?_
  show xX G d mX8_of r r (xΦ G r r Q) 0 [(0, .ref m), (1, .int (nI s)), (2, .int (nI w))] [] (mput f m μ, r)
  refine xr_aload_n (n := 1) dX8_of_0 rfl rfl ?_
  refine xr_get (n := 4) dX8_of_1 fl_X8_19 (by first | exact mput_0 _ _ _ | exact mput_r (by decide)) (by rfl) rfl ?_
  refine xr_iconst (v := nI 1) (n := 5) dX8_of_4 (by decide) rfl ?_
  refine xr_bipush (v := nI 7) (n := 7) dX8_of_5 (by decide) rfl ?_
  refine xr_iload_n (n := 8) dX8_of_7 rfl rfl ?_
  refine xr_imul (n := 9) dX8_of_8 rfl ?_
  try simp (disch := omega) only [nI_clamp, pk_mul, nI_add, oi1, up2_a, ur_a, Nat.reduceEqDiff, Nat.reduceMul, Nat.reduceAdd, reduceIte]
  refine xr_iadd (n := 10) dX8_of_9 rfl ?_
  try simp (disch := omega) only [nI_clamp, pk_mul, nI_add, oi1, up2_a, ur_a, Nat.reduceEqDiff, Nat.reduceMul, Nat.reduceAdd, reduceIte]
  refine xr_iload_n (n := 11) dX8_of_10 rfl rfl ?_
  refine xr_iadd (n := 12) dX8_of_11 rfl ?_
  try simp (disch := omega) only [nI_clamp, pk_mul, nI_add, oi1, up2_a, ur_a, Nat.reduceEqDiff, Nat.reduceMul, Nat.reduceAdd, reduceIte]
  refine xr_iaload (n := 13) dX8_of_12 (by first | exact mput_0 _ _ _ | exact mput_r (by decide)) (by first | exact vp_in_nI (by omega) (by omega)) rfl ?_
  try simp (disch := omega) only [nI_clamp, pk_mul, nI_add, oi1, up2_a, ur_a, Nat.reduceEqDiff, Nat.reduceMul, Nat.reduceAdd, reduceIte]
  refine xr_ireturn dX8_of_13 rfl rfl rfl ?_
  first | exact hq | (rw [b2i_t (by ((try simp (disch := omega) only [i_lt, i_le, i_eq, nt, i_m1] at *); omega))] at hq; exact hq) | (rw [b2i_f (by ((try simp (disch := omega) only [i_lt, i_le, i_eq, nt, i_m1] at *); omega))] at hq; exact hq)

theorem s_X8_put {G : xG} {d : Nat} {f : Nat → xC} {r : Nat × Nat} {Q : Option Value → xM → Prop} {m : Nat} {μ : xS} {s w : Nat} {v : Int32} (hs : s < 60) (hw : w < 7) (hq : Q none (mput f m (up2 μ 5 (1 + 7 * s + w) v), r)) : xMet G d mX8_put [.ref m, .int (nI s), .int (nI w), .int v] (mput f m μ, r) r Q := by
  refine xMet_0 (by decide +kernel) rfl (Nat.le_of_ble_eq_true rfl) ?_
  show xX G d mX8_put r r (xΦ G r r Q) 0 [(0, .ref m), (1, .int (nI s)), (2, .int (nI w)), (3, .int v)] [] (mput f m μ, r)
  refine xr_aload_n (n := 1) dX8_put_0 rfl rfl ?_
  refine xr_get (n := 4) dX8_put_1 fl_X8_19 (by first | exact mput_0 _ _ _ | exact mput_r (by decide)) (by rfl) rfl ?_
  refine xr_iconst (v := nI 1) (n := 5) dX8_put_4 (by decide) rfl ?_
  refine xr_bipush (v := nI 7) (n := 7) dX8_put_5 (by decide) rfl ?_
  refine xr_iload_n (n := 8) dX8_put_7 rfl rfl ?_
  refine xr_imul (n := 9) dX8_put_8 rfl ?_
  try simp (disch := omega) only [nI_clamp, pk_mul, nI_add, oi1, up2_a, ur_a, Nat.reduceEqDiff, Nat.reduceMul, Nat.reduceAdd, reduceIte]
  refine xr_iadd (n := 10) dX8_put_9 rfl ?_
  try simp (disch := omega) only [nI_clamp, pk_mul, nI_add, oi1, up2_a, ur_a, Nat.reduceEqDiff, Nat.reduceMul, Nat.reduceAdd, reduceIte]
  refine xr_iload_n (n := 11) dX8_put_10 rfl rfl ?_
  refine xr_iadd (n := 12) dX8_put_11 rfl ?_
  try simp (disch := omega) only [nI_clamp, pk_mul, nI_add, oi1, up2_a, ur_a, Nat.reduceEqDiff, Nat.reduceMul, Nat.reduceAdd, reduceIte]
  refine xr_iload_n (n := 13) dX8_put_12 rfl rfl ?_
  refine xq_iastore (n := 14) dX8_put_13 (by first | exact mput_0 _ _ _ | exact mput_r (by decide)) (by first | exact vp_in_nI (by omega) (by omega)) rfl ?_
  simp (disch := omega) only [nI_clamp, List.set, mw_0, mw_1, mw_2, mw_3, mw_4, mw_5, mw_6, mw_7, mw_8, mw_9, mw_10, mw_11, mw_12, mw_13, mw_14, mw_15, mw_16, mw_17, mw_18, mw_19]
  refine xr_return dX8_put_14 rfl rfl ?_
  first | exact hq | (rw [b2i_t (by ((try simp (disch := omega) only [i_lt, i_le, i_eq, nt, i_m1] at *); omega))] at hq; exact hq) | (rw [b2i_f (by ((try simp (disch := omega) only [i_lt, i_le, i_eq, nt, i_m1] at *); omega))] at hq; exact hq)

theorem s_X8_takes {G : xG} {d : Nat} {f : Nat → xC} {r : Nat × Nat} {Q : Option Value → xM → Prop} {m : Nat} {μ : xS} {p : Nat} (hp : p ≤ 1) (hq : Q none (mput f m (ur μ 5 (fo (fun j => μ 0 (421 * p + j)) (μ 5) 0 421)), r)) : xMet G d mX8_takes [.ref m, .int (nI p)] (mput f m μ, r) r Q := by
  refine xMet_0 (by decide +kernel) rfl (Nat.le_of_ble_eq_true rfl) ?_
  show xX G d mX8_takes r r (xΦ G r r Q) 0 [(0, .ref m), (1, .int (nI p))] [] (mput f m μ, r)
  refine xr_iconst (v := nI 0) (n := 1) dX8_takes_0 (by decide) rfl ?_
  refine xr_istore_n (n := 2) dX8_takes_1 rfl rfl ?_
  dsimp only [xst, Nat.beq, List.filter, Bool.not_true, Bool.not_false]
  rw [show mput f m μ = mput f m (ur μ 5 (fo (fun j => μ 0 (421 * p + j)) (μ 5) 0 0)) from by rw [ur_fo0]]
  refine nat_down (P := fun k => xX G d mX8_takes r r (xΦ G r r Q) 2 [(0, .ref m), (1, .int (nI p)), (2, .int (nI k))] [] (mput f m (ur μ 5 (fo (fun j => μ 0 (421 * p + j)) (μ 5) 0 k)), r)) (N := 421) ?_ ?_ 0 (by omega)
  · refine xr_iload_n (n := 3) dX8_takes_2 rfl rfl ?_
    refine xr_sipush (v := nI 421) (n := 6) dX8_takes_3 (by decide) rfl ?_
    refine xr_icmp_ge (tgt := 33) (n := 9) dX8_takes_6 (by decide) rfl (fun h6 => ?_) (fun h6 => by (exfalso; ((try simp (disch := omega) only [i_lt, i_le, i_eq, nt, i_m1] at *); omega)))
    refine xr_return dX8_takes_33 rfl rfl ?_
    exact hq
  · intro k hk ih
    refine xr_iload_n (n := 3) dX8_takes_2 rfl rfl ?_
    refine xr_sipush (v := nI 421) (n := 6) dX8_takes_3 (by decide) rfl ?_
    refine xr_icmp_ge (tgt := 33) (n := 9) dX8_takes_6 (by decide) rfl (fun h6 => by (exfalso; ((try simp (disch := omega) only [i_lt, i_le, i_eq, nt, i_m1] at *); omega))) (fun h6 => ?_)
    refine xr_aload_n (n := 10) dX8_takes_9 rfl rfl ?_
    refine xr_get (n := 13) dX8_takes_10 fl_X8_19 (by first | exact mput_0 _ _ _ | exact mput_r (by decide)) (by rfl) rfl ?_
    refine xr_iload_n (n := 14) dX8_takes_13 rfl rfl ?_
    refine xr_aload_n (n := 15) dX8_takes_14 rfl rfl ?_
    refine xr_get (n := 18) dX8_takes_15 fl_X8_7 (by first | exact mput_0 _ _ _ | exact mput_r (by decide)) (by rfl) rfl ?_
    refine xr_sipush (v := nI 421) (n := 21) dX8_takes_18 (by decide) rfl ?_
    refine xr_iload_n (n := 22) dX8_takes_21 rfl rfl ?_
    refine xr_imul (n := 23) dX8_takes_22 rfl ?_
    try simp (disch := omega) only [nI_clamp, pk_mul, nI_add, oi1, up2_a, ur_a, Nat.reduceEqDiff, Nat.reduceMul, Nat.reduceAdd, reduceIte, fo_a]
    refine xr_iload_n (n := 24) dX8_takes_23 rfl rfl ?_
    refine xr_iadd (n := 25) dX8_takes_24 rfl ?_
    try simp (disch := omega) only [nI_clamp, pk_mul, nI_add, oi1, up2_a, ur_a, Nat.reduceEqDiff, Nat.reduceMul, Nat.reduceAdd, reduceIte, fo_a]
    refine xr_iaload (n := 26) dX8_takes_25 (by first | exact mput_0 _ _ _ | exact mput_r (by decide)) (by first | exact vp_in_nI (by omega) (by omega)) rfl ?_
    try simp (disch := omega) only [nI_clamp, pk_mul, nI_add, oi1, up2_a, ur_a, Nat.reduceEqDiff, Nat.reduceMul, Nat.reduceAdd, reduceIte, fo_a]
    refine xq_iastore (n := 27) dX8_takes_26 (by first | exact mput_0 _ _ _ | exact mput_r (by decide)) (by first | exact vp_in_nI (by omega) (by omega)) rfl ?_
    simp (disch := omega) only [nI_clamp, List.set, mw_0, mw_1, mw_2, mw_3, mw_4, mw_5, mw_6, mw_7, mw_8, mw_9, mw_10, mw_11, mw_12, mw_13, mw_14, mw_15, mw_16, mw_17, mw_18, mw_19]
    refine xr_iinc (n := 30) dX8_takes_27 rfl rfl (rfl) rfl ?_
    dsimp only [xst, Nat.beq, List.filter, Bool.not_true, Bool.not_false]
    try simp (disch := omega) only [nI_clamp, pk_mul, nI_add, oi1, up2_a, ur_a, Nat.reduceEqDiff, Nat.reduceMul, Nat.reduceAdd, reduceIte, fo_a]
    refine xr_goto (n := 2) dX8_takes_30 (by decide) ?_
    refine xX.eq rfl rfl rfl ?_ ih
    rw [← ur_fo (v := μ 0 (421 * p + k)) (by first | rfl | (rw [fo_out (by omega)]))]
    rw [Nat.zero_add]

theorem s_X8_lays {G : xG} {d : Nat} {f : Nat → xC} {r : Nat × Nat} {Q : Option Value → xM → Prop} {m : Nat} {μ : xS} {p : Nat} (hp : p ≤ 1) (hq : Q none (mput f m (ur μ 0 (fo (fun j => μ 5 j) (μ 0) (421 * p) 421)), r)) : xMet G d mX8_lays [.ref m, .int (nI p)] (mput f m μ, r) r Q := by
  refine xMet_0 (by decide +kernel) rfl (Nat.le_of_ble_eq_true rfl) ?_
  show xX G d mX8_lays r r (xΦ G r r Q) 0 [(0, .ref m), (1, .int (nI p))] [] (mput f m μ, r)
  refine xr_iconst (v := nI 0) (n := 1) dX8_lays_0 (by decide) rfl ?_
  refine xr_istore_n (n := 2) dX8_lays_1 rfl rfl ?_
  dsimp only [xst, Nat.beq, List.filter, Bool.not_true, Bool.not_false]
  rw [show mput f m μ = mput f m (ur μ 0 (fo (fun j => μ 5 j) (μ 0) (421 * p) 0)) from by rw [ur_fo0]]
  refine nat_down (P := fun k => xX G d mX8_lays r r (xΦ G r r Q) 2 [(0, .ref m), (1, .int (nI p)), (2, .int (nI k))] [] (mput f m (ur μ 0 (fo (fun j => μ 5 j) (μ 0) (421 * p) k)), r)) (N := 421) ?_ ?_ 0 (by omega)
  · refine xr_iload_n (n := 3) dX8_lays_2 rfl rfl ?_
    refine xr_sipush (v := nI 421) (n := 6) dX8_lays_3 (by decide) rfl ?_
    refine xr_icmp_ge (tgt := 33) (n := 9) dX8_lays_6 (by decide) rfl (fun h6 => ?_) (fun h6 => by (exfalso; ((try simp (disch := omega) only [i_lt, i_le, i_eq, nt, i_m1] at *); omega)))
    refine xr_return dX8_lays_33 rfl rfl ?_
    exact hq
  · intro k hk ih
    refine xr_iload_n (n := 3) dX8_lays_2 rfl rfl ?_
    refine xr_sipush (v := nI 421) (n := 6) dX8_lays_3 (by decide) rfl ?_
    refine xr_icmp_ge (tgt := 33) (n := 9) dX8_lays_6 (by decide) rfl (fun h6 => by (exfalso; ((try simp (disch := omega) only [i_lt, i_le, i_eq, nt, i_m1] at *); omega))) (fun h6 => ?_)
    refine xr_aload_n (n := 10) dX8_lays_9 rfl rfl ?_
    refine xr_get (n := 13) dX8_lays_10 fl_X8_7 (by first | exact mput_0 _ _ _ | exact mput_r (by decide)) (by rfl) rfl ?_
    refine xr_sipush (v := nI 421) (n := 16) dX8_lays_13 (by decide) rfl ?_
    refine xr_iload_n (n := 17) dX8_lays_16 rfl rfl ?_
    refine xr_imul (n := 18) dX8_lays_17 rfl ?_
    try simp (disch := omega) only [nI_clamp, pk_mul, nI_add, oi1, up2_a, ur_a, Nat.reduceEqDiff, Nat.reduceMul, Nat.reduceAdd, reduceIte, fo_a]
    refine xr_iload_n (n := 19) dX8_lays_18 rfl rfl ?_
    refine xr_iadd (n := 20) dX8_lays_19 rfl ?_
    try simp (disch := omega) only [nI_clamp, pk_mul, nI_add, oi1, up2_a, ur_a, Nat.reduceEqDiff, Nat.reduceMul, Nat.reduceAdd, reduceIte, fo_a]
    refine xr_aload_n (n := 21) dX8_lays_20 rfl rfl ?_
    refine xr_get (n := 24) dX8_lays_21 fl_X8_19 (by first | exact mput_0 _ _ _ | exact mput_r (by decide)) (by rfl) rfl ?_
    refine xr_iload_n (n := 25) dX8_lays_24 rfl rfl ?_
    refine xr_iaload (n := 26) dX8_lays_25 (by first | exact mput_0 _ _ _ | exact mput_r (by decide)) (by first | exact vp_in_nI (by omega) (by omega)) rfl ?_
    try simp (disch := omega) only [nI_clamp, pk_mul, nI_add, oi1, up2_a, ur_a, Nat.reduceEqDiff, Nat.reduceMul, Nat.reduceAdd, reduceIte, fo_a]
    refine xq_iastore (n := 27) dX8_lays_26 (by first | exact mput_0 _ _ _ | exact mput_r (by decide)) (by first | exact vp_in_nI (by omega) (by omega)) rfl ?_
    simp (disch := omega) only [nI_clamp, List.set, mw_0, mw_1, mw_2, mw_3, mw_4, mw_5, mw_6, mw_7, mw_8, mw_9, mw_10, mw_11, mw_12, mw_13, mw_14, mw_15, mw_16, mw_17, mw_18, mw_19]
    refine xr_iinc (n := 30) dX8_lays_27 rfl rfl (rfl) rfl ?_
    dsimp only [xst, Nat.beq, List.filter, Bool.not_true, Bool.not_false]
    try simp (disch := omega) only [nI_clamp, pk_mul, nI_add, oi1, up2_a, ur_a, Nat.reduceEqDiff, Nat.reduceMul, Nat.reduceAdd, reduceIte, fo_a]
    refine xr_goto (n := 2) dX8_lays_30 (by decide) ?_
    refine xX.eq rfl rfl rfl ?_ ih
    rw [← ur_fo (v := μ 5 (k)) (by first | rfl | (rw [fo_out (by omega)]))]
