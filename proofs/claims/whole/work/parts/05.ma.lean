theorem s_X8_within {G : xG} {d : Nat} {f : Nat → xC} {r : Nat × Nat} {Q : Option Value → xM → Prop} {v lo hi : Int32}  (hq : Q (some (.int (b2i (lo.toInt ≤ v.toInt ∧ v.toInt ≤ hi.toInt)))) (f, r)) : xMet G d mX8_within [.int v, .int lo, .int hi] (f, r) r Q := by
  refine xMet_0 (by decide +kernel) rfl (Nat.le_of_ble_eq_true rfl) ?_
  show xX G d mX8_within r r (xΦ G r r Q) 0 [(0, .int v), (1, .int lo), (2, .int hi)] [] (f, r)
  refine xr_iload_n (n := 1) dX8_within_0 rfl rfl ?_
  refine xr_iload_n (n := 2) dX8_within_1 rfl rfl ?_
  refine xr_icmp_lt (tgt := 14) (n := 5) dX8_within_2 (by decide) rfl (fun h2 => ?_) (fun h2 => ?_)
  · refine xr_iconst (v := nI 0) (n := 15) dX8_within_14 (by decide) rfl ?_
    refine xr_ireturn dX8_within_15 rfl (by first | exact b2i_nar | exact nar_1 | exact nar_0) rfl ?_
    first | exact hq | (rw [b2i_t (by ((try simp (disch := omega) only [i_lt, i_le, i_eq, nt, i_m1] at *); omega))] at hq; exact hq) | (rw [b2i_f (by ((try simp (disch := omega) only [i_lt, i_le, i_eq, nt, i_m1] at *); omega))] at hq; exact hq)
  · refine xr_iload_n (n := 6) dX8_within_5 rfl rfl ?_
    refine xr_iload_n (n := 7) dX8_within_6 rfl rfl ?_
    refine xr_icmp_gt (tgt := 14) (n := 10) dX8_within_7 (by decide) rfl (fun h7 => ?_) (fun h7 => ?_)
    · refine xr_iconst (v := nI 0) (n := 15) dX8_within_14 (by decide) rfl ?_
      refine xr_ireturn dX8_within_15 rfl (by first | exact b2i_nar | exact nar_1 | exact nar_0) rfl ?_
      first | exact hq | (rw [b2i_t (by ((try simp (disch := omega) only [i_lt, i_le, i_eq, nt, i_m1] at *); omega))] at hq; exact hq) | (rw [b2i_f (by ((try simp (disch := omega) only [i_lt, i_le, i_eq, nt, i_m1] at *); omega))] at hq; exact hq)
    · refine xr_iconst (v := nI 1) (n := 11) dX8_within_10 (by decide) rfl ?_
      refine xr_goto (n := 15) dX8_within_11 (by decide) ?_
      refine xr_ireturn dX8_within_15 rfl (by first | exact b2i_nar | exact nar_1 | exact nar_0) rfl ?_
      first | exact hq | (rw [b2i_t (by ((try simp (disch := omega) only [i_lt, i_le, i_eq, nt, i_m1] at *); omega))] at hq; exact hq) | (rw [b2i_f (by ((try simp (disch := omega) only [i_lt, i_le, i_eq, nt, i_m1] at *); omega))] at hq; exact hq)

theorem s_X8_isProgram {G : xG} {d : Nat} {f : Nat → xC} {r : Nat × Nat} {Q : Option Value → xM → Prop} {p : Int32}  (hq : Q (some (.int (b2i (0 ≤ p.toInt ∧ p.toInt ≤ 1)))) (f, r)) : xMet G (d + 1) mX8_isProgram [.int p] (f, r) r Q := by
  refine xMet_0 (by decide +kernel) rfl (Nat.le_of_ble_eq_true rfl) ?_
  show xX G (d + 1) mX8_isProgram r r (xΦ G r r Q) 0 [(0, .int p)] [] (f, r)
  refine xr_iload_n (n := 1) dX8_isProgram_0 rfl rfl ?_
  refine xr_iconst (v := nI 0) (n := 2) dX8_isProgram_1 (by decide) rfl ?_
  refine xr_iconst (v := nI 1) (n := 3) dX8_isProgram_2 (by decide) rfl ?_
  refine xr_callS (y2 := mX8_within) (As := [_, _, _]) (n := 6) dX8_isProgram_3 lm_X8_61 pm_X8_within kp_static_yX8_within rfl rfl (by simp [Value.category]) rfl ⟨Nat.le_refl _, Nat.le_refl _⟩ ?_
  refine s_X8_within ?_
  dsimp only [xK, xps]
  refine xr_ireturn dX8_isProgram_6 rfl (by first | exact b2i_nar | exact nar_1 | exact nar_0) rfl ?_
  rw [b2i_iff (q := 0 ≤ p.toInt ∧ p.toInt ≤ 1) (by (simp (disch := omega) only [nt]); omega)]; exact hq

theorem s_X8_isCell {G : xG} {d : Nat} {f : Nat → xC} {r : Nat × Nat} {Q : Option Value → xM → Prop} {p : Int32}  (hq : Q (some (.int (b2i (0 ≤ p.toInt ∧ p.toInt ≤ 5)))) (f, r)) : xMet G (d + 1) mX8_isCell [.int p] (f, r) r Q := by
  refine xMet_0 (by decide +kernel) rfl (Nat.le_of_ble_eq_true rfl) ?_
  show xX G (d + 1) mX8_isCell r r (xΦ G r r Q) 0 [(0, .int p)] [] (f, r)
  refine xr_iload_n (n := 1) dX8_isCell_0 rfl rfl ?_
  refine xr_iconst (v := nI 0) (n := 2) dX8_isCell_1 (by decide) rfl ?_
  refine xr_iconst (v := nI 5) (n := 3) dX8_isCell_2 (by decide) rfl ?_
  refine xr_callS (y2 := mX8_within) (As := [_, _, _]) (n := 6) dX8_isCell_3 lm_X8_61 pm_X8_within kp_static_yX8_within rfl rfl (by simp [Value.category]) rfl ⟨Nat.le_refl _, Nat.le_refl _⟩ ?_
  refine s_X8_within ?_
  dsimp only [xK, xps]
  refine xr_ireturn dX8_isCell_6 rfl (by first | exact b2i_nar | exact nar_1 | exact nar_0) rfl ?_
  rw [b2i_iff (q := 0 ≤ p.toInt ∧ p.toInt ≤ 5) (by (simp (disch := omega) only [nt]); omega)]; exact hq

theorem s_X8_isLetter {G : xG} {d : Nat} {f : Nat → xC} {r : Nat × Nat} {Q : Option Value → xM → Prop} {p : Int32}  (hq : Q (some (.int (b2i (97 ≤ p.toInt ∧ p.toInt ≤ 102)))) (f, r)) : xMet G (d + 1) mX8_isLetter [.int p] (f, r) r Q := by
  refine xMet_0 (by decide +kernel) rfl (Nat.le_of_ble_eq_true rfl) ?_
  show xX G (d + 1) mX8_isLetter r r (xΦ G r r Q) 0 [(0, .int p)] [] (f, r)
  refine xr_iload_n (n := 1) dX8_isLetter_0 rfl rfl ?_
  refine xr_bipush (v := nI 97) (n := 3) dX8_isLetter_1 (by decide) rfl ?_
  refine xr_bipush (v := nI 102) (n := 5) dX8_isLetter_3 (by decide) rfl ?_
  refine xr_callS (y2 := mX8_within) (As := [_, _, _]) (n := 8) dX8_isLetter_5 lm_X8_61 pm_X8_within kp_static_yX8_within rfl rfl (by simp [Value.category]) rfl ⟨Nat.le_refl _, Nat.le_refl _⟩ ?_
  refine s_X8_within ?_
  dsimp only [xK, xps]
  refine xr_ireturn dX8_isLetter_8 rfl (by first | exact b2i_nar | exact nar_1 | exact nar_0) rfl ?_
  rw [b2i_iff (q := 97 ≤ p.toInt ∧ p.toInt ≤ 102) (by (simp (disch := omega) only [nt]); omega)]; exact hq

theorem s_X8_held {G : xG} {d : Nat} {f : Nat → xC} {r : Nat × Nat} {Q : Option Value → xM → Prop} {v : Int32}  (hq : Q (some (.int (if v < (-999) then (-999) else if (999 : Int32) < v then 999 else v))) (f, r)) : xMet G d mX8_held [.int v] (f, r) r Q := by
  refine xMet_0 (by decide +kernel) rfl (Nat.le_of_ble_eq_true rfl) ?_
  show xX G d mX8_held r r (xΦ G r r Q) 0 [(0, .int v)] [] (f, r)
  refine xr_iload_n (n := 1) dX8_held_0 rfl rfl ?_
  refine xr_sipush (v := (-999)) (n := 4) dX8_held_1 (by decide) rfl ?_
  refine xr_icmp_ge (tgt := 13) (n := 7) dX8_held_4 (by decide) rfl (fun h4 => ?_) (fun h4 => ?_)
  · refine xr_iload_n (n := 14) dX8_held_13 rfl rfl ?_
    refine xr_sipush (v := nI 999) (n := 17) dX8_held_14 (by decide) rfl ?_
    refine xr_icmp_le (tgt := 26) (n := 20) dX8_held_17 (by decide) rfl (fun h17 => ?_) (fun h17 => ?_)
    · refine xr_iload_n (n := 27) dX8_held_26 rfl rfl ?_
      refine xr_ireturn dX8_held_27 rfl rfl rfl ?_
      trace_state; sorry
    · refine xr_sipush (v := nI 999) (n := 23) dX8_held_20 (by decide) rfl ?_
      refine xr_goto (n := 27) dX8_held_23 (by decide) ?_
      refine xr_ireturn dX8_held_27 rfl rfl rfl ?_
      trace_state; sorry
  · refine xr_sipush (v := (-999)) (n := 10) dX8_held_7 (by decide) rfl ?_
    refine xr_goto (n := 27) dX8_held_10 (by decide) ?_
    refine xr_ireturn dX8_held_27 rfl rfl rfl ?_
    trace_state; sorry
