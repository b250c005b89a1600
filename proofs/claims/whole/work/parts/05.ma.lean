theorem oi1 : Int32.ofInt 1 = nI 1 := by decide +kernel
theorem oi6 : Int32.ofInt 6 = nI 6 := by decide +kernel
theorem nneg {n : Nat} (h : n < 2 ^ 31) : ¬ (nI n).toInt < 0 := by rw [nt n h]; omega
def mheld (v : Int32) : Int32 := if v < (-999) then (-999) else if nI 999 < v then nI 999 else v
def mtake (μ : xS) (p : Nat) : xS := ur μ 5 (fo (fun j => μ 0 (421 * p + j)) (μ 5) 0 421)
def mlay (μ : xS) (p : Nat) : xS := ur μ 0 (fo (fun j => μ 5 j) (μ 0) (421 * p) 421)
def mshift (μ : xS) : xS := up2 (ur μ 1 (fo (fun j => μ 1 (j + 842)) (μ 1) 0 3368)) 2 0 (nI 4)
def mput1 (μ : xS) (sv : Nat) : xS := up2 (ur μ 1 (fo (fun j => μ 0 j) (μ 1) (842 * sv) 842)) 2 0 (nI (sv + 1))
def msave (μ : xS) (sv : Nat) : xS := if sv = 5 then mput1 (mshift μ) 4 else mput1 μ sv
def mback (μ : xS) (sv : Nat) : xS := ur (up2 μ 2 0 (nI sv)) 0 (fo (fun j => μ 1 (842 * sv + j)) (μ 0) 0 842)
def mswap (μ : xS) : xS := ur μ 0 (fo (fun j => μ 0 (421 + j)) (μ 0) 0 421)
def pas (t : Nat → Int32) (n a : Nat) (c : Int32) : Nat := if ch t n (skp t n a) = c then skp t n a + 1 else skp t n a
theorem pas_t {t : Nat → Int32} {n a : Nat} {c : Int32} (h : ch t n (skp t n a) = c) : pas t n a c = skp t n a + 1 := if_pos h
theorem pas_f {t : Nat → Int32} {n a : Nat} {c : Int32} (h : ¬ ch t n (skp t n a) = c) : pas t n a c = skp t n a := if_neg h
def pst (μ : xS) (n a : Nat) : Prop := μ 4 0 = nI n ∧ μ 6 0 = nI a ∧ a ≤ n ∧ n ≤ 120
theorem pst.at {μ : xS} {n a b : Nat} (h : pst μ n a) (hb : b ≤ n) : pst (up2 μ 6 0 (nI b)) n b := ⟨h.1, up2_ss _ _ _ _, hb, h.2.2.2⟩
theorem skp_le {t : Nat → Int32} {n a : Nat} (h : a ≤ n) : skp t n a ≤ n := (skp_ge t n _ a rfl).2 h
theorem ch_lt {t : Nat → Int32} {n a : Nat} (h : ¬ ch t n a = nI 0) : a < n := by
  unfold ch at h
  by_cases h2 : a < n
  · exact h2
  · rw [if_neg h2] at h; exact absurd rfl h
theorem pas_le {t : Nat → Int32} {n a : Nat} {c : Int32} (h : a ≤ n) (hc : ¬ c = nI 0) : pas t n a c ≤ n := by
  unfold pas
  have := skp_le (t := t) h
  split
  · rename_i h2
    have := ch_lt (t := t) (n := n) (a := skp t n a) (by rw [h2]; exact hc)
    omega
  · exact this
theorem s_X8_within {G : xG} {d : Nat} {f : Nat → xC} {r : Nat × Nat} {Q : Option Value → xM → Prop} {v lo hi : Int32}  (hq : Q (some (.int (b2i (lo.toInt ≤ v.toInt ∧ v.toInt ≤ hi.toInt)))) (f, r)) : xMet G d mX8_within [.int v, .int lo, .int hi] (f, r) r Q := by
  refine xMet_0 (by decide +kernel) rfl (Nat.le_of_ble_eq_true rfl) ?_
  show xX G d mX8_within r r (xΦ G r r Q) 0 [(0, .int v), (1, .int lo), (2, .int hi)] [] (f, r)
  refine xr_iload_n (n := 1) dX8_within_0 rfl rfl ?_
  refine xr_iload_n (n := 2) dX8_within_1 rfl rfl ?_
  refine xr_icmp_lt (tgt := 14) (n := 5) dX8_within_2 (by decide) rfl (fun h2 => ?_) (fun h2 => ?_)
  · refine xr_iconst (v := nI 0) (n := 15) dX8_within_14 (by decide) rfl ?_
    refine xr_ireturn dX8_within_15 rfl (by first | exact b2i_nar | exact nar_1 | exact nar_0) rfl ?_
    first | exact hq | (rw [b2i_t (by ((try simp (disch := omega) only [i_lt, i_le, i_eq, nt, i_m1, Int32.toInt_zero] at *); omega))] at hq; exact hq) | (rw [b2i_f (by ((try simp (disch := omega) only [i_lt, i_le, i_eq, nt, i_m1, Int32.toInt_zero] at *); omega))] at hq; exact hq)
  · refine xr_iload_n (n := 6) dX8_within_5 rfl rfl ?_
    refine xr_iload_n (n := 7) dX8_within_6 rfl rfl ?_
    refine xr_icmp_gt (tgt := 14) (n := 10) dX8_within_7 (by decide) rfl (fun h7 => ?_) (fun h7 => ?_)
    · refine xr_iconst (v := nI 0) (n := 15) dX8_within_14 (by decide) rfl ?_
      refine xr_ireturn dX8_within_15 rfl (by first | exact b2i_nar | exact nar_1 | exact nar_0) rfl ?_
      first | exact hq | (rw [b2i_t (by ((try simp (disch := omega) only [i_lt, i_le, i_eq, nt, i_m1, Int32.toInt_zero] at *); omega))] at hq; exact hq) | (rw [b2i_f (by ((try simp (disch := omega) only [i_lt, i_le, i_eq, nt, i_m1, Int32.toInt_zero] at *); omega))] at hq; exact hq)
    · refine xr_iconst (v := nI 1) (n := 11) dX8_within_10 (by decide) rfl ?_
      refine xr_goto (n := 15) dX8_within_11 (by decide) ?_
      refine xr_ireturn dX8_within_15 rfl (by first | exact b2i_nar | exact nar_1 | exact nar_0) rfl ?_
      first | exact hq | (rw [b2i_t (by ((try simp (disch := omega) only [i_lt, i_le, i_eq, nt, i_m1, Int32.toInt_zero] at *); omega))] at hq; exact hq) | (rw [b2i_f (by ((try simp (disch := omega) only [i_lt, i_le, i_eq, nt, i_m1, Int32.toInt_zero] at *); omega))] at hq; exact hq)

theorem s_X8_isProgram {G : xG} {d : Nat} {f : Nat → xC} {r : Nat × Nat} {Q : Option Value → xM → Prop} {p : Int32}  (hq : Q (some (.int (b2i (0 ≤ p.toInt ∧ p.toInt ≤ 1)))) (f, r)) : xMet G (d + 1) mX8_isProgram [.int p] (f, r) r Q := by
  refine xMet_0 (by decide +kernel) rfl (Nat.le_of_ble_eq_true rfl) ?_
  show xX G (d + 1) mX8_isProgram r r (xΦ G r r Q) 0 [(0, .int p)] [] (f, r)
  refine xr_iload_n (n := 1) dX8_isProgram_0 rfl rfl ?_
  refine xr_iconst (v := nI 0) (n := 2) dX8_isProgram_1 (by decide) rfl ?_
  refine xr_iconst (v := nI 1) (n := 3) dX8_isProgram_2 (by decide) rfl ?_
  refine xr_callS (y2 := mX8_within) (As := [_, _, _]) (n := 6) dX8_isProgram_3 lm_X8_61 pm_X8_within kp_static_yX8_within rfl rfl (by simp [Value.category]) rfl ⟨Nat.le_refl _, Nat.le_refl _⟩ ?_
  refine s_X8_within ?_
  dsimp only [xK, xps]
  refine xr_ireturn dX8_isProgram_6 rfl (by first | exact b2i_nar | exact nar_1 | exact nar_0) rfl ?_
  rw [b2i_iff (q := 0 ≤ p.toInt ∧ p.toInt ≤ 1) (by (simp (disch := omega) only [nt]); omega)]; exact hq

theorem s_X8_isCell {G : xG} {d : Nat} {f : Nat → xC} {r : Nat × Nat} {Q : Option Value → xM → Prop} {p : Int32}  (hq : Q (some (.int (b2i (0 ≤ p.toInt ∧ p.toInt ≤ 5)))) (f, r)) : xMet G (d + 1) mX8_isCell [.int p] (f, r) r Q := by
  refine xMet_0 (by decide +kernel) rfl (Nat.le_of_ble_eq_true rfl) ?_
  show xX G (d + 1) mX8_isCell r r (xΦ G r r Q) 0 [(0, .int p)] [] (f, r)
  refine xr_iload_n (n := 1) dX8_isCell_0 rfl rfl ?_
  refine xr_iconst (v := nI 0) (n := 2) dX8_isCell_1 (by decide) rfl ?_
  refine xr_iconst (v := nI 5) (n := 3) dX8_isCell_2 (by decide) rfl ?_
  refine xr_callS (y2 := mX8_within) (As := [_, _, _]) (n := 6) dX8_isCell_3 lm_X8_61 pm_X8_within kp_static_yX8_within rfl rfl (by simp [Value.category]) rfl ⟨Nat.le_refl _, Nat.le_refl _⟩ ?_
  refine s_X8_within ?_
  dsimp only [xK, xps]
  refine xr_ireturn dX8_isCell_6 rfl (by first | exact b2i_nar | exact nar_1 | exact nar_0) rfl ?_
  rw [b2i_iff (q := 0 ≤ p.toInt ∧ p.toInt ≤ 5) (by (simp (disch := omega) only [nt]); omega)]; exact hq

theorem s_X8_isLetter {G : xG} {d : Nat} {f : Nat → xC} {r : Nat × Nat} {Q : Option Value → xM → Prop} {p : Int32}  (hq : Q (some (.int (b2i (97 ≤ p.toInt ∧ p.toInt ≤ 102)))) (f, r)) : xMet G (d + 1) mX8_isLetter [.int p] (f, r) r Q := by
  refine xMet_0 (by decide +kernel) rfl (Nat.le_of_ble_eq_true rfl) ?_
  show xX G (d + 1) mX8_isLetter r r (xΦ G r r Q) 0 [(0, .int p)] [] (f, r)
  refine xr_iload_n (n := 1) dX8_isLetter_0 rfl rfl ?_
  refine xr_bipush (v := nI 97) (n := 3) dX8_isLetter_1 (by decide) rfl ?_
  refine xr_bipush (v := nI 102) (n := 5) dX8_isLetter_3 (by decide) rfl ?_
  refine xr_callS (y2 := mX8_within) (As := [_, _, _]) (n := 8) dX8_isLetter_5 lm_X8_61 pm_X8_within kp_static_yX8_within rfl rfl (by simp [Value.category]) rfl ⟨Nat.le_refl _, Nat.le_refl _⟩ ?_
  refine s_X8_within ?_
  dsimp only [xK, xps]
  refine xr_ireturn dX8_isLetter_8 rfl (by first | exact b2i_nar | exact nar_1 | exact nar_0) rfl ?_
  rw [b2i_iff (q := 97 ≤ p.toInt ∧ p.toInt ≤ 102) (by (simp (disch := omega) only [nt]); omega)]; exact hq

theorem s_X8_isInput {G : xG} {d : Nat} {f : Nat → xC} {r : Nat × Nat} {Q : Option Value → xM → Prop} {a b : Int32}  (hq : Q (some (.int (b2i ((-999 ≤ a.toInt ∧ a.toInt ≤ 999) ∧ (-999 ≤ b.toInt ∧ b.toInt ≤ 999))))) (f, r)) : xMet G (d + 1) mX8_isInput [.int a, .int b] (f, r) r Q := by
  refine xMet_0 (by decide +kernel) rfl (Nat.le_of_ble_eq_true rfl) ?_
  show xX G (d + 1) mX8_isInput r r (xΦ G r r Q) 0 [(0, .int a), (1, .int b)] [] (f, r)
  refine xr_iload_n (n := 1) dX8_isInput_0 rfl rfl ?_
  refine xr_sipush (v := (-999)) (n := 4) dX8_isInput_1 (by decide) rfl ?_
  refine xr_sipush (v := nI 999) (n := 7) dX8_isInput_4 (by decide) rfl ?_
  refine xr_callS (y2 := mX8_within) (As := [_, _, _]) (n := 10) dX8_isInput_7 lm_X8_61 pm_X8_within kp_static_yX8_within rfl rfl (by simp [Value.category]) rfl ⟨Nat.le_refl _, Nat.le_refl _⟩ ?_
  refine s_X8_within ?_
  dsimp only [xK, xps]
  refine xr_beq (tgt := 30) (n := 13) dX8_isInput_10 (by decide) rfl (fun h10 => ?_) (fun h10 => ?_)
  · refine xr_iconst (v := nI 0) (n := 31) dX8_isInput_30 (by decide) rfl ?_
    refine xr_ireturn dX8_isInput_31 rfl (by first | exact b2i_nar | exact nar_1 | exact nar_0) rfl ?_
    have e1 : (-999 : Int32).toInt = -999 := by decide +kernel
    first | (rw [b2i_t (by (simp (disch := omega) only [nt] at *); omega)] at hq; exact hq) | (rw [b2i_f (by (simp (disch := omega) only [nt] at *); omega)] at hq; exact hq)
  · refine xr_iload_n (n := 14) dX8_isInput_13 rfl rfl ?_
    refine xr_sipush (v := (-999)) (n := 17) dX8_isInput_14 (by decide) rfl ?_
    refine xr_sipush (v := nI 999) (n := 20) dX8_isInput_17 (by decide) rfl ?_
    refine xr_callS (y2 := mX8_within) (As := [_, _, _]) (n := 23) dX8_isInput_20 lm_X8_61 pm_X8_within kp_static_yX8_within rfl rfl (by simp [Value.category]) rfl ⟨Nat.le_refl _, Nat.le_refl _⟩ ?_
    refine s_X8_within ?_
    dsimp only [xK, xps]
    refine xr_beq (tgt := 30) (n := 26) dX8_isInput_23 (by decide) rfl (fun h23 => ?_) (fun h23 => ?_)
    · refine xr_iconst (v := nI 0) (n := 31) dX8_isInput_30 (by decide) rfl ?_
      refine xr_ireturn dX8_isInput_31 rfl (by first | exact b2i_nar | exact nar_1 | exact nar_0) rfl ?_
      have e1 : (-999 : Int32).toInt = -999 := by decide +kernel
      first | (rw [b2i_t (by (simp (disch := omega) only [nt] at *); omega)] at hq; exact hq) | (rw [b2i_f (by (simp (disch := omega) only [nt] at *); omega)] at hq; exact hq)
    · refine xr_iconst (v := nI 1) (n := 27) dX8_isInput_26 (by decide) rfl ?_
      refine xr_goto (n := 31) dX8_isInput_27 (by decide) ?_
      refine xr_ireturn dX8_isInput_31 rfl (by first | exact b2i_nar | exact nar_1 | exact nar_0) rfl ?_
      have e1 : (-999 : Int32).toInt = -999 := by decide +kernel
      first | (rw [b2i_t (by (simp (disch := omega) only [nt] at *); omega)] at hq; exact hq) | (rw [b2i_f (by (simp (disch := omega) only [nt] at *); omega)] at hq; exact hq)

theorem s_X8_held {G : xG} {d : Nat} {f : Nat → xC} {r : Nat × Nat} {Q : Option Value → xM → Prop} {v : Int32}  (hq : Q (some (.int (mheld v))) (f, r)) : xMet G d mX8_held [.int v] (f, r) r Q := by
  refine xMet_0 (by decide +kernel) rfl (Nat.le_of_ble_eq_true rfl) ?_
  show xX G d mX8_held r r (xΦ G r r Q) 0 [(0, .int v)] [] (f, r)
  refine xr_iload_n (n := 1) dX8_held_0 rfl rfl ?_
  refine xr_sipush (v := (-999)) (n := 4) dX8_held_1 (by decide) rfl ?_
  refine xr_icmp_ge (tgt := 13) (n := 7) dX8_held_4 (by decide) rfl (fun h4 => ?_) (fun h4 => ?_)
  · refine xr_iload_n (n := 14) dX8_held_13 rfl rfl ?_
    refine xr_sipush (v := nI 999) (n := 17) dX8_held_14 (by decide) rfl ?_
    refine xr_icmp_le (tgt := 26) (n := 20) dX8_held_17 (by decide) rfl (fun h17 => ?_) (fun h17 => ?_)
    · refine xr_iload_n (n := 27) dX8_held_26 rfl rfl ?_
      refine xr_ireturn dX8_held_27 rfl rfl rfl ?_
      refine qi hq ?_
      unfold mheld
      first | rw [if_pos (by ((try simp (disch := omega) only [i_lt, i_le, i_eq, nt, i_m1, Int32.toInt_zero] at *); omega))] | rw [if_neg (by ((try simp (disch := omega) only [i_lt, i_le, i_eq, nt, i_m1, Int32.toInt_zero] at *); omega)), if_pos (by ((try simp (disch := omega) only [i_lt, i_le, i_eq, nt, i_m1, Int32.toInt_zero] at *); omega))] | rw [if_neg (by ((try simp (disch := omega) only [i_lt, i_le, i_eq, nt, i_m1, Int32.toInt_zero] at *); omega)), if_neg (by ((try simp (disch := omega) only [i_lt, i_le, i_eq, nt, i_m1, Int32.toInt_zero] at *); omega))]
    · refine xr_sipush (v := nI 999) (n := 23) dX8_held_20 (by decide) rfl ?_
      refine xr_goto (n := 27) dX8_held_23 (by decide) ?_
      refine xr_ireturn dX8_held_27 rfl rfl rfl ?_
      refine qi hq ?_
      unfold mheld
      first | rw [if_pos (by ((try simp (disch := omega) only [i_lt, i_le, i_eq, nt, i_m1, Int32.toInt_zero] at *); omega))] | rw [if_neg (by ((try simp (disch := omega) only [i_lt, i_le, i_eq, nt, i_m1, Int32.toInt_zero] at *); omega)), if_pos (by ((try simp (disch := omega) only [i_lt, i_le, i_eq, nt, i_m1, Int32.toInt_zero] at *); omega))] | rw [if_neg (by ((try simp (disch := omega) only [i_lt, i_le, i_eq, nt, i_m1, Int32.toInt_zero] at *); omega)), if_neg (by ((try simp (disch := omega) only [i_lt, i_le, i_eq, nt, i_m1, Int32.toInt_zero] at *); omega))]
  · refine xr_sipush (v := (-999)) (n := 10) dX8_held_7 (by decide) rfl ?_
    refine xr_goto (n := 27) dX8_held_10 (by decide) ?_
    refine xr_ireturn dX8_held_27 rfl rfl rfl ?_
    refine qi hq ?_
    unfold mheld
    first | rw [if_pos (by ((try simp (disch := omega) only [i_lt, i_le, i_eq, nt, i_m1, Int32.toInt_zero] at *); omega))] | rw [if_neg (by ((try simp (disch := omega) only [i_lt, i_le, i_eq, nt, i_m1, Int32.toInt_zero] at *); omega)), if_pos (by ((try simp (disch := omega) only [i_lt, i_le, i_eq, nt, i_m1, Int32.toInt_zero] at *); omega))] | rw [if_neg (by ((try simp (disch := omega) only [i_lt, i_le, i_eq, nt, i_m1, Int32.toInt_zero] at *); omega)), if_neg (by ((try simp (disch := omega) only [i_lt, i_le, i_eq, nt, i_m1, Int32.toInt_zero] at *); omega))]

theorem s_X8_least {G : xG} {d : Nat} {f : Nat → xC} {r : Nat × Nat} {Q : Option Value → xM → Prop} {a b : Int32}  (hq : Q (some (.int (if a < b then a else b))) (f, r)) : xMet G d mX8_least [.int a, .int b] (f, r) r Q := by
  refine xMet_0 (by decide +kernel) rfl (Nat.le_of_ble_eq_true rfl) ?_
  show xX G d mX8_least r r (xΦ G r r Q) 0 [(0, .int a), (1, .int b)] [] (f, r)
  refine xr_iload_n (n := 1) dX8_least_0 rfl rfl ?_
  refine xr_iload_n (n := 2) dX8_least_1 rfl rfl ?_
  refine xr_icmp_ge (tgt := 9) (n := 5) dX8_least_2 (by decide) rfl (fun h2 => ?_) (fun h2 => ?_)
  · refine xr_iload_n (n := 10) dX8_least_9 rfl rfl ?_
    refine xr_ireturn dX8_least_10 rfl rfl rfl ?_
    refine qi hq ?_
    first | rw [if_pos (by ((try simp (disch := omega) only [i_lt, i_le, i_eq, nt, i_m1, Int32.toInt_zero] at *); omega))] | rw [if_neg (by ((try simp (disch := omega) only [i_lt, i_le, i_eq, nt, i_m1, Int32.toInt_zero] at *); omega))]
  · refine xr_iload_n (n := 6) dX8_least_5 rfl rfl ?_
    refine xr_goto (n := 10) dX8_least_6 (by decide) ?_
    refine xr_ireturn dX8_least_10 rfl rfl rfl ?_
    refine qi hq ?_
    first | rw [if_pos (by ((try simp (disch := omega) only [i_lt, i_le, i_eq, nt, i_m1, Int32.toInt_zero] at *); omega))] | rw [if_neg (by ((try simp (disch := omega) only [i_lt, i_le, i_eq, nt, i_m1, Int32.toInt_zero] at *); omega))]

theorem s_X8_of {G : xG} {d : Nat} {f : Nat → xC} {r : Nat × Nat} {Q : Option Value → xM → Prop} {m : Nat} {μ : xS} {s w : Nat} (hs : s < 60) (hw : w < 7) (hq : Q (some (.int (μ 5 (1 + 7 * s + w)))) (mput f m μ, r)) : xMet G d mX8_of [.ref m, .int (nI s), .int (nI w)] (mput f m μ, r) r Q := by
  refine xMet_0 (by decide +kernel) rfl (Nat.le_of_ble_eq_true rfl) ?_
  show xX G d mX8_of r r (xΦ G r r Q) 0 [(0, .ref m), (1, .int (nI s)), (2, .int (nI w))] [] (mput f m μ, r)
  refine xr_aload_n (n := 1) dX8_of_0 rfl rfl ?_
  refine xr_get (n := 4) dX8_of_1 fl_X8_19 (by first | exact mput_0 _ _ _ | exact mput_r (by decide)) (by rfl) rfl ?_
  refine xr_iconst (v := nI 1) (n := 5) dX8_of_4 (by decide) rfl ?_
  refine xr_bipush (v := nI 7) (n := 7) dX8_of_5 (by decide) rfl ?_
  refine xr_iload_n (n := 8) dX8_of_7 rfl rfl ?_
  refine xr_imul (n := 9) dX8_of_8 rfl ?_
  try simp (disch := omega) only [nI_clamp, pk_mul, nI_add, oi1, up2_a, ur_a, Nat.reduceEqDiff, Nat.reduceMul, Nat.reduceAdd, reduceIte, if_pos, if_neg]
  refine xr_iadd (n := 10) dX8_of_9 rfl ?_
  try simp (disch := omega) only [nI_clamp, pk_mul, nI_add, oi1, up2_a, ur_a, Nat.reduceEqDiff, Nat.reduceMul, Nat.reduceAdd, reduceIte, if_pos, if_neg]
  refine xr_iload_n (n := 11) dX8_of_10 rfl rfl ?_
  refine xr_iadd (n := 12) dX8_of_11 rfl ?_
  try simp (disch := omega) only [nI_clamp, pk_mul, nI_add, oi1, up2_a, ur_a, Nat.reduceEqDiff, Nat.reduceMul, Nat.reduceAdd, reduceIte, if_pos, if_neg]
  refine xr_iaload (n := 13) dX8_of_12 (by first | exact mput_0 _ _ _ | exact mput_r (by decide)) (by first | exact vp_in_nI (by omega) (by omega)) rfl ?_
  try simp (disch := omega) only [nI_clamp, pk_mul, nI_add, oi1, up2_a, ur_a, Nat.reduceEqDiff, Nat.reduceMul, Nat.reduceAdd, reduceIte, if_pos, if_neg]
  refine xr_ireturn dX8_of_13 rfl rfl rfl ?_
  first | exact hq | (rw [b2i_t (by ((try simp (disch := omega) only [i_lt, i_le, i_eq, nt, i_m1, Int32.toInt_zero] at *); omega))] at hq; exact hq) | (rw [b2i_f (by ((try simp (disch := omega) only [i_lt, i_le, i_eq, nt, i_m1, Int32.toInt_zero] at *); omega))] at hq; exact hq)

theorem s_X8_put {G : xG} {d : Nat} {f : Nat → xC} {r : Nat × Nat} {Q : Option Value → xM → Prop} {m : Nat} {μ : xS} {s w : Nat} {v : Int32} (hs : s < 60) (hw : w < 7) (hq : Q none (mput f m (up2 μ 5 (1 + 7 * s + w) v), r)) : xMet G d mX8_put [.ref m, .int (nI s), .int (nI w), .int v] (mput f m μ, r) r Q := by
  refine xMet_0 (by decide +kernel) rfl (Nat.le_of_ble_eq_true rfl) ?_
  show xX G d mX8_put r r (xΦ G r r Q) 0 [(0, .ref m), (1, .int (nI s)), (2, .int (nI w)), (3, .int v)] [] (mput f m μ, r)
  refine xr_aload_n (n := 1) dX8_put_0 rfl rfl ?_
  refine xr_get (n := 4) dX8_put_1 fl_X8_19 (by first | exact mput_0 _ _ _ | exact mput_r (by decide)) (by rfl) rfl ?_
  refine xr_iconst (v := nI 1) (n := 5) dX8_put_4 (by decide) rfl ?_
  refine xr_bipush (v := nI 7) (n := 7) dX8_put_5 (by decide) rfl ?_
  refine xr_iload_n (n := 8) dX8_put_7 rfl rfl ?_
  refine xr_imul (n := 9) dX8_put_8 rfl ?_
  try simp (disch := omega) only [nI_clamp, pk_mul, nI_add, oi1, up2_a, ur_a, Nat.reduceEqDiff, Nat.reduceMul, Nat.reduceAdd, reduceIte, if_pos, if_neg]
  refine xr_iadd (n := 10) dX8_put_9 rfl ?_
  try simp (disch := omega) only [nI_clamp, pk_mul, nI_add, oi1, up2_a, ur_a, Nat.reduceEqDiff, Nat.reduceMul, Nat.reduceAdd, reduceIte, if_pos, if_neg]
  refine xr_iload_n (n := 11) dX8_put_10 rfl rfl ?_
  refine xr_iadd (n := 12) dX8_put_11 rfl ?_
  try simp (disch := omega) only [nI_clamp, pk_mul, nI_add, oi1, up2_a, ur_a, Nat.reduceEqDiff, Nat.reduceMul, Nat.reduceAdd, reduceIte, if_pos, if_neg]
  refine xr_iload_n (n := 13) dX8_put_12 rfl rfl ?_
  refine xq_iastore (n := 14) dX8_put_13 (by first | exact mput_0 _ _ _ | exact mput_r (by decide)) (by first | exact vp_in_nI (by omega) (by omega)) rfl ?_
  simp (disch := omega) only [nI_clamp, List.set, mw_0, mw_1, mw_2, mw_3, mw_4, mw_5, mw_6, mw_7, mw_8, mw_9, mw_10, mw_11, mw_12, mw_13, mw_14, mw_15, mw_16, mw_17, mw_18, mw_19]
  refine xr_return dX8_put_14 rfl rfl ?_
  first | exact hq | (rw [b2i_t (by ((try simp (disch := omega) only [i_lt, i_le, i_eq, nt, i_m1, Int32.toInt_zero] at *); omega))] at hq; exact hq) | (rw [b2i_f (by ((try simp (disch := omega) only [i_lt, i_le, i_eq, nt, i_m1, Int32.toInt_zero] at *); omega))] at hq; exact hq)

theorem s_X8_takes {G : xG} {d : Nat} {f : Nat → xC} {r : Nat × Nat} {Q : Option Value → xM → Prop} {m : Nat} {μ : xS} {p : Nat} (hp : p ≤ 1) (hq : Q none (mput f m (mtake μ p), r)) : xMet G d mX8_takes [.ref m, .int (nI p)] (mput f m μ, r) r Q := by
  refine xMet_0 (by decide +kernel) rfl (Nat.le_of_ble_eq_true rfl) ?_
  show xX G d mX8_takes r r (xΦ G r r Q) 0 [(0, .ref m), (1, .int (nI p))] [] (mput f m μ, r)
  refine xr_iconst (v := nI 0) (n := 1) dX8_takes_0 (by decide) rfl ?_
  refine xq_istore_n 2 (n := 2) dX8_takes_1 rfl rfl rfl ?_
  simp only [xst, Nat.beq, List.filter, Bool.not_true, Bool.not_false]
  rw [show mput f m μ = mput f m (ur μ 5 (fo (fun j => μ 0 (421 * p + j)) (μ 5) 0 0)) from by rw [ur_fo0]]
  refine nat_down (P := fun k => xX G d mX8_takes r r (xΦ G r r Q) 2 [(0, .ref m), (1, .int (nI p)), (2, .int (nI k))] [] (mput f m (ur μ 5 (fo (fun j => μ 0 (421 * p + j)) (μ 5) 0 k)), r)) (N := 421) ?_ ?_ 0 (by omega)
  · refine xr_iload_n (n := 3) dX8_takes_2 rfl rfl ?_
    refine xr_sipush (v := nI 421) (n := 6) dX8_takes_3 (by decide) rfl ?_
    refine xr_icmp_ge (tgt := 33) (n := 9) dX8_takes_6 (by decide) rfl (fun h6 => ?_) (fun h6 => by (exfalso; ((try simp (disch := omega) only [i_lt, i_le, i_eq, nt, i_m1, Int32.toInt_zero] at *); omega)))
    refine xr_return dX8_takes_33 rfl rfl ?_
    exact hq
  · intro k hk ih
    refine xr_iload_n (n := 3) dX8_takes_2 rfl rfl ?_
    refine xr_sipush (v := nI 421) (n := 6) dX8_takes_3 (by decide) rfl ?_
    refine xr_icmp_ge (tgt := 33) (n := 9) dX8_takes_6 (by decide) rfl (fun h6 => by (exfalso; ((try simp (disch := omega) only [i_lt, i_le, i_eq, nt, i_m1, Int32.toInt_zero] at *); omega))) (fun h6 => ?_)
    refine xr_aload_n (n := 10) dX8_takes_9 rfl rfl ?_
    refine xr_get (n := 13) dX8_takes_10 fl_X8_19 (by first | exact mput_0 _ _ _ | exact mput_r (by decide)) (by rfl) rfl ?_
    refine xr_iload_n (n := 14) dX8_takes_13 rfl rfl ?_
    refine xr_aload_n (n := 15) dX8_takes_14 rfl rfl ?_
    refine xr_get (n := 18) dX8_takes_15 fl_X8_7 (by first | exact mput_0 _ _ _ | exact mput_r (by decide)) (by rfl) rfl ?_
    refine xr_sipush (v := nI 421) (n := 21) dX8_takes_18 (by decide) rfl ?_
    refine xr_iload_n (n := 22) dX8_takes_21 rfl rfl ?_
    refine xr_imul (n := 23) dX8_takes_22 rfl ?_
    try simp (disch := omega) only [nI_clamp, pk_mul, nI_add, oi1, up2_a, ur_a, Nat.reduceEqDiff, Nat.reduceMul, Nat.reduceAdd, reduceIte, if_pos, if_neg, fo_a]
    refine xr_iload_n (n := 24) dX8_takes_23 rfl rfl ?_
    refine xr_iadd (n := 25) dX8_takes_24 rfl ?_
    try simp (disch := omega) only [nI_clamp, pk_mul, nI_add, oi1, up2_a, ur_a, Nat.reduceEqDiff, Nat.reduceMul, Nat.reduceAdd, reduceIte, if_pos, if_neg, fo_a]
    refine xr_iaload (n := 26) dX8_takes_25 (by first | exact mput_0 _ _ _ | exact mput_r (by decide)) (by first | exact vp_in_nI (by omega) (by omega)) rfl ?_
    try simp (disch := omega) only [nI_clamp, pk_mul, nI_add, oi1, up2_a, ur_a, Nat.reduceEqDiff, Nat.reduceMul, Nat.reduceAdd, reduceIte, if_pos, if_neg, fo_a]
    refine xq_iastore (n := 27) dX8_takes_26 (by first | exact mput_0 _ _ _ | exact mput_r (by decide)) (by first | exact vp_in_nI (by omega) (by omega)) rfl ?_
    simp (disch := omega) only [nI_clamp, List.set, mw_0, mw_1, mw_2, mw_3, mw_4, mw_5, mw_6, mw_7, mw_8, mw_9, mw_10, mw_11, mw_12, mw_13, mw_14, mw_15, mw_16, mw_17, mw_18, mw_19]
    refine xr_iinc (n := 30) dX8_takes_27 rfl rfl (rfl) rfl ?_
    simp only [xst, Nat.beq, List.filter, Bool.not_true, Bool.not_false]
    try simp (disch := omega) only [nI_clamp, pk_mul, nI_add, oi1, up2_a, ur_a, Nat.reduceEqDiff, Nat.reduceMul, Nat.reduceAdd, reduceIte, if_pos, if_neg, fo_a]
    refine xr_goto (n := 2) dX8_takes_30 (by decide) ?_
    refine xX.eq rfl rfl rfl ?_ ih
    rw [← ur_fo (v := μ 0 (421 * p + k)) (by first | rfl | (rw [fo_out (by omega)]))]
    rw [Nat.zero_add]

theorem s_X8_lays {G : xG} {d : Nat} {f : Nat → xC} {r : Nat × Nat} {Q : Option Value → xM → Prop} {m : Nat} {μ : xS} {p : Nat} (hp : p ≤ 1) (hq : Q none (mput f m (mlay μ p), r)) : xMet G d mX8_lays [.ref m, .int (nI p)] (mput f m μ, r) r Q := by
  refine xMet_0 (by decide +kernel) rfl (Nat.le_of_ble_eq_true rfl) ?_
  show xX G d mX8_lays r r (xΦ G r r Q) 0 [(0, .ref m), (1, .int (nI p))] [] (mput f m μ, r)
  refine xr_iconst (v := nI 0) (n := 1) dX8_lays_0 (by decide) rfl ?_
  refine xq_istore_n 2 (n := 2) dX8_lays_1 rfl rfl rfl ?_
  simp only [xst, Nat.beq, List.filter, Bool.not_true, Bool.not_false]
  rw [show mput f m μ = mput f m (ur μ 0 (fo (fun j => μ 5 j) (μ 0) (421 * p) 0)) from by rw [ur_fo0]]
  refine nat_down (P := fun k => xX G d mX8_lays r r (xΦ G r r Q) 2 [(0, .ref m), (1, .int (nI p)), (2, .int (nI k))] [] (mput f m (ur μ 0 (fo (fun j => μ 5 j) (μ 0) (421 * p) k)), r)) (N := 421) ?_ ?_ 0 (by omega)
  · refine xr_iload_n (n := 3) dX8_lays_2 rfl rfl ?_
    refine xr_sipush (v := nI 421) (n := 6) dX8_lays_3 (by decide) rfl ?_
    refine xr_icmp_ge (tgt := 33) (n := 9) dX8_lays_6 (by decide) rfl (fun h6 => ?_) (fun h6 => by (exfalso; ((try simp (disch := omega) only [i_lt, i_le, i_eq, nt, i_m1, Int32.toInt_zero] at *); omega)))
    refine xr_return dX8_lays_33 rfl rfl ?_
    exact hq
  · intro k hk ih
    refine xr_iload_n (n := 3) dX8_lays_2 rfl rfl ?_
    refine xr_sipush (v := nI 421) (n := 6) dX8_lays_3 (by decide) rfl ?_
    refine xr_icmp_ge (tgt := 33) (n := 9) dX8_lays_6 (by decide) rfl (fun h6 => by (exfalso; ((try simp (disch := omega) only [i_lt, i_le, i_eq, nt, i_m1, Int32.toInt_zero] at *); omega))) (fun h6 => ?_)
    refine xr_aload_n (n := 10) dX8_lays_9 rfl rfl ?_
    refine xr_get (n := 13) dX8_lays_10 fl_X8_7 (by first | exact mput_0 _ _ _ | exact mput_r (by decide)) (by rfl) rfl ?_
    refine xr_sipush (v := nI 421) (n := 16) dX8_lays_13 (by decide) rfl ?_
    refine xr_iload_n (n := 17) dX8_lays_16 rfl rfl ?_
    refine xr_imul (n := 18) dX8_lays_17 rfl ?_
    try simp (disch := omega) only [nI_clamp, pk_mul, nI_add, oi1, up2_a, ur_a, Nat.reduceEqDiff, Nat.reduceMul, Nat.reduceAdd, reduceIte, if_pos, if_neg, fo_a]
    refine xr_iload_n (n := 19) dX8_lays_18 rfl rfl ?_
    refine xr_iadd (n := 20) dX8_lays_19 rfl ?_
    try simp (disch := omega) only [nI_clamp, pk_mul, nI_add, oi1, up2_a, ur_a, Nat.reduceEqDiff, Nat.reduceMul, Nat.reduceAdd, reduceIte, if_pos, if_neg, fo_a]
    refine xr_aload_n (n := 21) dX8_lays_20 rfl rfl ?_
    refine xr_get (n := 24) dX8_lays_21 fl_X8_19 (by first | exact mput_0 _ _ _ | exact mput_r (by decide)) (by rfl) rfl ?_
    refine xr_iload_n (n := 25) dX8_lays_24 rfl rfl ?_
    refine xr_iaload (n := 26) dX8_lays_25 (by first | exact mput_0 _ _ _ | exact mput_r (by decide)) (by first | exact vp_in_nI (by omega) (by omega)) rfl ?_
    try simp (disch := omega) only [nI_clamp, pk_mul, nI_add, oi1, up2_a, ur_a, Nat.reduceEqDiff, Nat.reduceMul, Nat.reduceAdd, reduceIte, if_pos, if_neg, fo_a]
    refine xq_iastore (n := 27) dX8_lays_26 (by first | exact mput_0 _ _ _ | exact mput_r (by decide)) (by first | exact vp_in_nI (by omega) (by omega)) rfl ?_
    simp (disch := omega) only [nI_clamp, List.set, mw_0, mw_1, mw_2, mw_3, mw_4, mw_5, mw_6, mw_7, mw_8, mw_9, mw_10, mw_11, mw_12, mw_13, mw_14, mw_15, mw_16, mw_17, mw_18, mw_19]
    refine xr_iinc (n := 30) dX8_lays_27 rfl rfl (rfl) rfl ?_
    simp only [xst, Nat.beq, List.filter, Bool.not_true, Bool.not_false]
    try simp (disch := omega) only [nI_clamp, pk_mul, nI_add, oi1, up2_a, ur_a, Nat.reduceEqDiff, Nat.reduceMul, Nat.reduceAdd, reduceIte, if_pos, if_neg, fo_a]
    refine xr_goto (n := 2) dX8_lays_30 (by decide) ?_
    refine xX.eq rfl rfl rfl ?_ ih
    rw [← ur_fo (v := μ 5 (k)) (by first | rfl | (rw [fo_out (by omega)]))]

theorem s_X8_append {G : xG} {d : Nat} {f : Nat → xC} {r : Nat × Nat} {Q : Option Value → xM → Prop} {m : Nat} {μ : xS} {c : Int32} {n : Nat} (hn : μ 4 0 = nI n) (hn2 : n ≤ 120) (hq1 : ¬ (1 ≤ c.toInt ∧ c.toInt ≤ 255) → Q (some (.int (-10001))) (mput f m μ, r)) (hq2 : (1 ≤ c.toInt ∧ c.toInt ≤ 255) → n = 120 → Q (some (.int (-10003))) (mput f m μ, r)) (hq3 : (1 ≤ c.toInt ∧ c.toInt ≤ 255) → n < 120 → Q (some (.int (nI (n + 1)))) (mput f m (up2 (up2 μ 3 n c) 4 0 (nI (n + 1))), r)) : xMet G (d + 1) mX8_append [.ref m, .int c] (mput f m μ, r) r Q := by
  refine xMet_0 (by decide +kernel) rfl (Nat.le_of_ble_eq_true rfl) ?_
  show xX G (d + 1) mX8_append r r (xΦ G r r Q) 0 [(0, .ref m), (1, .int c)] [] (mput f m μ, r)
  refine xr_iload_n (n := 1) dX8_append_0 rfl rfl ?_
  refine xr_iconst (v := nI 1) (n := 2) dX8_append_1 (by decide) rfl ?_
  refine xr_sipush (v := nI 255) (n := 5) dX8_append_2 (by decide) rfl ?_
  refine xr_callS (y2 := mX8_within) (As := [_, _, _]) (n := 8) dX8_append_5 lm_X8_61 pm_X8_within kp_static_yX8_within rfl rfl (by simp [Value.category]) rfl ⟨Nat.le_refl _, Nat.le_refl _⟩ ?_
  refine s_X8_within ?_
  dsimp only [xK, xps]
  rw [b2i_iff (q := 1 ≤ c.toInt ∧ c.toInt ≤ 255) (by (simp (disch := omega) only [nt]); omega)]
  refine xr_bne (tgt := 15) (n := 11) dX8_append_8 (by decide) rfl (fun h8 => ?_) (fun h8 => ?_)
  · refine xr_aload_n (n := 16) dX8_append_15 rfl rfl ?_
    refine xr_get (n := 19) dX8_append_16 fl_X8_69 (by first | exact mput_0 _ _ _ | exact mput_r (by decide)) (by rfl) rfl ?_
    try simp (disch := omega) only [nI_clamp, pk_mul, nI_add, oi1, up2_a, ur_a, Nat.reduceEqDiff, Nat.reduceMul, Nat.reduceAdd, reduceIte, if_pos, if_neg, hn]
    refine xr_bipush (v := nI 120) (n := 21) dX8_append_19 (by decide) rfl ?_
    refine xr_icmp_ne (tgt := 28) (n := 24) dX8_append_21 (by decide) rfl (fun h21 => ?_) (fun h21 => ?_)
    · have hlt : n < 120 := by ((try simp (disch := omega) only [i_lt, i_le, i_eq, nt, i_m1, Int32.toInt_zero] at *); omega)
      refine xr_aload_n (n := 29) dX8_append_28 rfl rfl ?_
      refine xr_get (n := 32) dX8_append_29 fl_X8_16 (by first | exact mput_0 _ _ _ | exact mput_r (by decide)) (by rfl) rfl ?_
      refine xr_aload_n (n := 33) dX8_append_32 rfl rfl ?_
      refine xr_get (n := 36) dX8_append_33 fl_X8_69 (by first | exact mput_0 _ _ _ | exact mput_r (by decide)) (by rfl) rfl ?_
      try simp (disch := omega) only [nI_clamp, pk_mul, nI_add, oi1, up2_a, ur_a, Nat.reduceEqDiff, Nat.reduceMul, Nat.reduceAdd, reduceIte, if_pos, if_neg, hn]
      refine xr_iload_n (n := 37) dX8_append_36 rfl rfl ?_
      refine xq_iastore (n := 38) dX8_append_37 (by first | exact mput_0 _ _ _ | exact mput_r (by decide)) (by first | exact vp_in_nI (by omega) (by omega)) rfl ?_
      simp (disch := omega) only [nI_clamp, List.set, mw_0, mw_1, mw_2, mw_3, mw_4, mw_5, mw_6, mw_7, mw_8, mw_9, mw_10, mw_11, mw_12, mw_13, mw_14, mw_15, mw_16, mw_17, mw_18, mw_19]
      refine xr_aload_n (n := 39) dX8_append_38 rfl rfl ?_
      refine xr_dup (n := 40) dX8_append_39 rfl rfl ?_
      refine xr_get (n := 43) dX8_append_40 fl_X8_69 (by first | exact mput_0 _ _ _ | exact mput_r (by decide)) (by rfl) rfl ?_
      try simp (disch := omega) only [nI_clamp, pk_mul, nI_add, oi1, up2_a, ur_a, Nat.reduceEqDiff, Nat.reduceMul, Nat.reduceAdd, reduceIte, if_pos, if_neg, hn]
      refine xr_iconst (v := nI 1) (n := 44) dX8_append_43 (by decide) rfl ?_
      refine xr_iadd (n := 45) dX8_append_44 rfl ?_
      try simp (disch := omega) only [nI_clamp, pk_mul, nI_add, oi1, up2_a, ur_a, Nat.reduceEqDiff, Nat.reduceMul, Nat.reduceAdd, reduceIte, if_pos, if_neg, hn]
      refine xq_put (n := 48) dX8_append_45 fl_X8_69 rfl (by first | exact mput_0 _ _ _ | exact mput_r (by decide)) (by rfl) (by rfl) (by rfl) rfl ?_
      simp (disch := omega) only [nI_clamp, List.set, mw_0, mw_1, mw_2, mw_3, mw_4, mw_5, mw_6, mw_7, mw_8, mw_9, mw_10, mw_11, mw_12, mw_13, mw_14, mw_15, mw_16, mw_17, mw_18, mw_19]
      refine xr_aload_n (n := 49) dX8_append_48 rfl rfl ?_
      refine xr_get (n := 52) dX8_append_49 fl_X8_69 (by first | exact mput_0 _ _ _ | exact mput_r (by decide)) (by rfl) rfl ?_
      try simp (disch := omega) only [nI_clamp, pk_mul, nI_add, oi1, up2_a, ur_a, Nat.reduceEqDiff, Nat.reduceMul, Nat.reduceAdd, reduceIte, if_pos, if_neg, hn]
      refine xr_ireturn dX8_append_52 rfl rfl rfl ?_
      exact hq3 h8 (by ((try simp (disch := omega) only [i_lt, i_le, i_eq, nt, i_m1, Int32.toInt_zero] at *); omega))
    · refine xr_sipush (v := (-10003)) (n := 27) dX8_append_24 (by decide) rfl ?_
      refine xr_ireturn dX8_append_27 rfl rfl rfl ?_
      exact hq2 h8 (by ((try simp (disch := omega) only [i_lt, i_le, i_eq, nt, i_m1, Int32.toInt_zero] at *); omega))
  · refine xr_sipush (v := (-10001)) (n := 14) dX8_append_11 (by decide) rfl ?_
    refine xr_ireturn dX8_append_14 rfl rfl rfl ?_
    exact hq1 h8

theorem s_X8_clearText {G : xG} {d : Nat} {f : Nat → xC} {r : Nat × Nat} {Q : Option Value → xM → Prop} {m : Nat} {μ : xS}   (hq : Q (some (.int (μ 4 0))) (mput f m (up2 μ 4 0 (nI 0)), r)) : xMet G d mX8_clearText [.ref m] (mput f m μ, r) r Q := by
  refine xMet_0 (by decide +kernel) rfl (Nat.le_of_ble_eq_true rfl) ?_
  show xX G d mX8_clearText r r (xΦ G r r Q) 0 [(0, .ref m)] [] (mput f m μ, r)
  refine xr_aload_n (n := 1) dX8_clearText_0 rfl rfl ?_
  refine xr_get (n := 4) dX8_clearText_1 fl_X8_69 (by first | exact mput_0 _ _ _ | exact mput_r (by decide)) (by rfl) rfl ?_
  try simp (disch := omega) only [nI_clamp, pk_mul, nI_add, oi1, up2_a, ur_a, Nat.reduceEqDiff, Nat.reduceMul, Nat.reduceAdd, reduceIte, if_pos, if_neg]
  refine xq_istore_n 1 (n := 5) dX8_clearText_4 rfl rfl rfl ?_
  simp only [xst, Nat.beq, List.filter, Bool.not_true, Bool.not_false]
  refine xr_aload_n (n := 6) dX8_clearText_5 rfl rfl ?_
  refine xr_iconst (v := nI 0) (n := 7) dX8_clearText_6 (by decide) rfl ?_
  refine xq_put (n := 10) dX8_clearText_7 fl_X8_69 rfl (by first | exact mput_0 _ _ _ | exact mput_r (by decide)) (by rfl) (by rfl) (by rfl) rfl ?_
  simp (disch := omega) only [nI_clamp, List.set, mw_0, mw_1, mw_2, mw_3, mw_4, mw_5, mw_6, mw_7, mw_8, mw_9, mw_10, mw_11, mw_12, mw_13, mw_14, mw_15, mw_16, mw_17, mw_18, mw_19]
  refine xr_iload_n (n := 11) dX8_clearText_10 rfl rfl ?_
  refine xr_ireturn dX8_clearText_11 rfl rfl rfl ?_
  first | exact hq | (rw [b2i_t (by ((try simp (disch := omega) only [i_lt, i_le, i_eq, nt, i_m1, Int32.toInt_zero] at *); omega))] at hq; exact hq) | (rw [b2i_f (by ((try simp (disch := omega) only [i_lt, i_le, i_eq, nt, i_m1, Int32.toInt_zero] at *); omega))] at hq; exact hq)

theorem s_X8_leadOf {G : xG} {d : Nat} {f : Nat → xC} {r : Nat × Nat} {Q : Option Value → xM → Prop} {m : Nat} {μ : xS} {k : Nat} (hk : k < 40) (hq : Q (some (.int (μ 11 k - μ 11 (40 + k)))) (mput f m μ, r)) : xMet G d mX8_leadOf [.ref m, .int (nI k)] (mput f m μ, r) r Q := by
  refine xMet_0 (by decide +kernel) rfl (Nat.le_of_ble_eq_true rfl) ?_
  show xX G d mX8_leadOf r r (xΦ G r r Q) 0 [(0, .ref m), (1, .int (nI k))] [] (mput f m μ, r)
  refine xr_aload_n (n := 1) dX8_leadOf_0 rfl rfl ?_
  refine xr_get (n := 4) dX8_leadOf_1 fl_X8_34 (by first | exact mput_0 _ _ _ | exact mput_r (by decide)) (by rfl) rfl ?_
  refine xr_iload_n (n := 5) dX8_leadOf_4 rfl rfl ?_
  refine xr_iaload (n := 6) dX8_leadOf_5 (by first | exact mput_0 _ _ _ | exact mput_r (by decide)) (by first | exact vp_in_nI (by omega) (by omega)) rfl ?_
  try simp (disch := omega) only [nI_clamp, pk_mul, nI_add, oi1, up2_a, ur_a, Nat.reduceEqDiff, Nat.reduceMul, Nat.reduceAdd, reduceIte, if_pos, if_neg]
  refine xr_aload_n (n := 7) dX8_leadOf_6 rfl rfl ?_
  refine xr_get (n := 10) dX8_leadOf_7 fl_X8_34 (by first | exact mput_0 _ _ _ | exact mput_r (by decide)) (by rfl) rfl ?_
  refine xr_bipush (v := nI 40) (n := 12) dX8_leadOf_10 (by decide) rfl ?_
  refine xr_iload_n (n := 13) dX8_leadOf_12 rfl rfl ?_
  refine xr_iadd (n := 14) dX8_leadOf_13 rfl ?_
  try simp (disch := omega) only [nI_clamp, pk_mul, nI_add, oi1, up2_a, ur_a, Nat.reduceEqDiff, Nat.reduceMul, Nat.reduceAdd, reduceIte, if_pos, if_neg]
  refine xr_iaload (n := 15) dX8_leadOf_14 (by first | exact mput_0 _ _ _ | exact mput_r (by decide)) (by first | exact vp_in_nI (by omega) (by omega)) rfl ?_
  try simp (disch := omega) only [nI_clamp, pk_mul, nI_add, oi1, up2_a, ur_a, Nat.reduceEqDiff, Nat.reduceMul, Nat.reduceAdd, reduceIte, if_pos, if_neg]
  refine xr_isub (n := 16) dX8_leadOf_15 rfl ?_
  try simp (disch := omega) only [nI_clamp, pk_mul, nI_add, oi1, up2_a, ur_a, Nat.reduceEqDiff, Nat.reduceMul, Nat.reduceAdd, reduceIte, if_pos, if_neg]
  refine xr_ireturn dX8_leadOf_16 rfl rfl rfl ?_
  first | exact hq | (rw [b2i_t (by ((try simp (disch := omega) only [i_lt, i_le, i_eq, nt, i_m1, Int32.toInt_zero] at *); omega))] at hq; exact hq) | (rw [b2i_f (by ((try simp (disch := omega) only [i_lt, i_le, i_eq, nt, i_m1, Int32.toInt_zero] at *); omega))] at hq; exact hq)

theorem s_X8_isEqual {G : xG} {d : Nat} {f : Nat → xC} {r : Nat × Nat} {Q : Option Value → xM → Prop} {m : Nat} {μ : xS} {k x z : Nat} (hk : k < 40) (hx : x < 6) (hz : z < 6) (hq : Q (some (.int (b2i (μ 12 (6 * k + x) = μ 12 (240 + 6 * k + z))))) (mput f m μ, r)) : xMet G d mX8_isEqual [.ref m, .int (nI k), .int (nI x), .int (nI z)] (mput f m μ, r) r Q := by
  refine xMet_0 (by decide +kernel) rfl (Nat.le_of_ble_eq_true rfl) ?_
  show xX G d mX8_isEqual r r (xΦ G r r Q) 0 [(0, .ref m), (1, .int (nI k)), (2, .int (nI x)), (3, .int (nI z))] [] (mput f m μ, r)
  refine xr_aload_n (n := 1) dX8_isEqual_0 rfl rfl ?_
  refine xr_get (n := 4) dX8_isEqual_1 fl_X8_37 (by first | exact mput_0 _ _ _ | exact mput_r (by decide)) (by rfl) rfl ?_
  refine xr_bipush (v := nI 6) (n := 6) dX8_isEqual_4 (by decide) rfl ?_
  refine xr_iload_n (n := 7) dX8_isEqual_6 rfl rfl ?_
  refine xr_imul (n := 8) dX8_isEqual_7 rfl ?_
  try simp (disch := omega) only [nI_clamp, pk_mul, nI_add, oi1, up2_a, ur_a, Nat.reduceEqDiff, Nat.reduceMul, Nat.reduceAdd, reduceIte, if_pos, if_neg]
  refine xr_iload_n (n := 9) dX8_isEqual_8 rfl rfl ?_
  refine xr_iadd (n := 10) dX8_isEqual_9 rfl ?_
  try simp (disch := omega) only [nI_clamp, pk_mul, nI_add, oi1, up2_a, ur_a, Nat.reduceEqDiff, Nat.reduceMul, Nat.reduceAdd, reduceIte, if_pos, if_neg]
  refine xr_iaload (n := 11) dX8_isEqual_10 (by first | exact mput_0 _ _ _ | exact mput_r (by decide)) (by first | exact vp_in_nI (by omega) (by omega)) rfl ?_
  try simp (disch := omega) only [nI_clamp, pk_mul, nI_add, oi1, up2_a, ur_a, Nat.reduceEqDiff, Nat.reduceMul, Nat.reduceAdd, reduceIte, if_pos, if_neg]
  refine xr_aload_n (n := 12) dX8_isEqual_11 rfl rfl ?_
  refine xr_get (n := 15) dX8_isEqual_12 fl_X8_37 (by first | exact mput_0 _ _ _ | exact mput_r (by decide)) (by rfl) rfl ?_
  refine xr_sipush (v := nI 240) (n := 18) dX8_isEqual_15 (by decide) rfl ?_
  refine xr_bipush (v := nI 6) (n := 20) dX8_isEqual_18 (by decide) rfl ?_
  refine xr_iload_n (n := 21) dX8_isEqual_20 rfl rfl ?_
  refine xr_imul (n := 22) dX8_isEqual_21 rfl ?_
  try simp (disch := omega) only [nI_clamp, pk_mul, nI_add, oi1, up2_a, ur_a, Nat.reduceEqDiff, Nat.reduceMul, Nat.reduceAdd, reduceIte, if_pos, if_neg]
  refine xr_iadd (n := 23) dX8_isEqual_22 rfl ?_
  try simp (disch := omega) only [nI_clamp, pk_mul, nI_add, oi1, up2_a, ur_a, Nat.reduceEqDiff, Nat.reduceMul, Nat.reduceAdd, reduceIte, if_pos, if_neg]
  refine xr_iload_n (n := 24) dX8_isEqual_23 rfl rfl ?_
  refine xr_iadd (n := 25) dX8_isEqual_24 rfl ?_
  try simp (disch := omega) only [nI_clamp, pk_mul, nI_add, oi1, up2_a, ur_a, Nat.reduceEqDiff, Nat.reduceMul, Nat.reduceAdd, reduceIte, if_pos, if_neg]
  refine xr_iaload (n := 26) dX8_isEqual_25 (by first | exact mput_0 _ _ _ | exact mput_r (by decide)) (by first | exact vp_in_nI (by omega) (by omega)) rfl ?_
  try simp (disch := omega) only [nI_clamp, pk_mul, nI_add, oi1, up2_a, ur_a, Nat.reduceEqDiff, Nat.reduceMul, Nat.reduceAdd, reduceIte, if_pos, if_neg]
  refine xr_icmp_ne (tgt := 33) (n := 29) dX8_isEqual_26 (by decide) rfl (fun h26 => ?_) (fun h26 => ?_)
  · refine xr_iconst (v := nI 0) (n := 34) dX8_isEqual_33 (by decide) rfl ?_
    refine xr_ireturn dX8_isEqual_34 rfl (by first | exact b2i_nar | exact nar_1 | exact nar_0) rfl ?_
    first | (rw [b2i_t (by assumption)] at hq; exact hq) | (rw [b2i_f (by assumption)] at hq; exact hq)
  · refine xr_iconst (v := nI 1) (n := 30) dX8_isEqual_29 (by decide) rfl ?_
    refine xr_goto (n := 34) dX8_isEqual_30 (by decide) ?_
    refine xr_ireturn dX8_isEqual_34 rfl (by first | exact b2i_nar | exact nar_1 | exact nar_0) rfl ?_
    first | (rw [b2i_t (by assumption)] at hq; exact hq) | (rw [b2i_f (by assumption)] at hq; exact hq)

theorem s_X8_term {G : xG} {d : Nat} {f : Nat → xC} {r : Nat × Nat} {Q : Option Value → xM → Prop} {m : Nat} {μ : xS} {sd t : Nat} (hsd : sd ≤ 1) (ht : t < 2000) (hq1 : t < 10 → t < 6) (hq : Q (some (.int (if t < 10 then μ 9 (6 * sd + t) else nI (t - 10)))) (mput f m μ, r)) : xMet G d mX8_term [.ref m, .int (nI sd), .int (nI t)] (mput f m μ, r) r Q := by
  refine xMet_0 (by decide +kernel) rfl (Nat.le_of_ble_eq_true rfl) ?_
  show xX G d mX8_term r r (xΦ G r r Q) 0 [(0, .ref m), (1, .int (nI sd)), (2, .int (nI t))] [] (mput f m μ, r)
  refine xr_iload_n (n := 1) dX8_term_0 rfl rfl ?_
  refine xr_bipush (v := nI 10) (n := 3) dX8_term_1 (by decide) rfl ?_
  refine xr_icmp_ge (tgt := 20) (n := 6) dX8_term_3 (by decide) rfl (fun h3 => ?_) (fun h3 => ?_)
  · refine xr_iload_n (n := 21) dX8_term_20 rfl rfl ?_
    refine xr_bipush (v := nI 10) (n := 23) dX8_term_21 (by decide) rfl ?_
    refine xr_isub (n := 24) dX8_term_23 rfl ?_
    try simp (disch := omega) only [nI_clamp, pk_mul, nI_add, oi1, up2_a, ur_a, Nat.reduceEqDiff, Nat.reduceMul, Nat.reduceAdd, reduceIte, if_pos, if_neg, pk_sub]
    refine xr_ireturn dX8_term_24 rfl rfl rfl ?_
    refine qi hq ?_
    first | (rw [if_pos (by ((try simp (disch := omega) only [i_lt, i_le, i_eq, nt, i_m1, Int32.toInt_zero] at *); omega))]; done) | (rw [if_neg (by ((try simp (disch := omega) only [i_lt, i_le, i_eq, nt, i_m1, Int32.toInt_zero] at *); omega))]; exact (pk_sub (by ((try simp (disch := omega) only [i_lt, i_le, i_eq, nt, i_m1, Int32.toInt_zero] at *); omega))).symm)
  · have ht6 := hq1 (by ((try simp (disch := omega) only [i_lt, i_le, i_eq, nt, i_m1, Int32.toInt_zero] at *); omega))
    refine xr_aload_n (n := 7) dX8_term_6 rfl rfl ?_
    refine xr_get (n := 10) dX8_term_7 fl_X8_28 (by first | exact mput_0 _ _ _ | exact mput_r (by decide)) (by rfl) rfl ?_
    refine xr_bipush (v := nI 6) (n := 12) dX8_term_10 (by decide) rfl ?_
    refine xr_iload_n (n := 13) dX8_term_12 rfl rfl ?_
    refine xr_imul (n := 14) dX8_term_13 rfl ?_
    try simp (disch := omega) only [nI_clamp, pk_mul, nI_add, oi1, up2_a, ur_a, Nat.reduceEqDiff, Nat.reduceMul, Nat.reduceAdd, reduceIte, if_pos, if_neg, pk_sub]
    refine xr_iload_n (n := 15) dX8_term_14 rfl rfl ?_
    refine xr_iadd (n := 16) dX8_term_15 rfl ?_
    try simp (disch := omega) only [nI_clamp, pk_mul, nI_add, oi1, up2_a, ur_a, Nat.reduceEqDiff, Nat.reduceMul, Nat.reduceAdd, reduceIte, if_pos, if_neg, pk_sub]
    refine xr_iaload (n := 17) dX8_term_16 (by first | exact mput_0 _ _ _ | exact mput_r (by decide)) (by first | exact vp_in_nI (by omega) (by omega)) rfl ?_
    try simp (disch := omega) only [nI_clamp, pk_mul, nI_add, oi1, up2_a, ur_a, Nat.reduceEqDiff, Nat.reduceMul, Nat.reduceAdd, reduceIte, if_pos, if_neg, pk_sub]
    refine xr_goto (n := 24) dX8_term_17 (by decide) ?_
    refine xr_ireturn dX8_term_24 rfl rfl rfl ?_
    refine qi hq ?_
    first | (rw [if_pos (by ((try simp (disch := omega) only [i_lt, i_le, i_eq, nt, i_m1, Int32.toInt_zero] at *); omega))]; done) | (rw [if_neg (by ((try simp (disch := omega) only [i_lt, i_le, i_eq, nt, i_m1, Int32.toInt_zero] at *); omega))]; exact (pk_sub (by ((try simp (disch := omega) only [i_lt, i_le, i_eq, nt, i_m1, Int32.toInt_zero] at *); omega))).symm)

theorem s_X8_tellsCell {G : xG} {d : Nat} {f : Nat → xC} {r : Nat × Nat} {Q : Option Value → xM → Prop} {m : Nat} {μ : xS} {sd s n c : Nat} (hsd : sd ≤ 1) (hs : s < 60) (hn : μ 13 (6 * sd + 2) = nI n) (hn2 : n ≤ 400) (hc : μ 5 (1 + 7 * s + 1) = nI c) (hc2 : c < 6) (hq : Q none (mput f m (up2 (if n < 40 then up2 μ 10 (40 * sd + n) (μ 9 (6 * sd + c)) else μ) 13 (6 * sd + 2) (nI (n + 1))), r)) : xMet G (d + 1) mX8_tellsCell [.ref m, .int (nI sd), .int (nI s)] (mput f m μ, r) r Q := by
  refine xMet_0 (by decide +kernel) rfl (Nat.le_of_ble_eq_true rfl) ?_
  show xX G (d + 1) mX8_tellsCell r r (xΦ G r r Q) 0 [(0, .ref m), (1, .int (nI sd)), (2, .int (nI s))] [] (mput f m μ, r)
  refine xr_aload_n (n := 1) dX8_tellsCell_0 rfl rfl ?_
  refine xr_get (n := 4) dX8_tellsCell_1 fl_X8_40 (by first | exact mput_0 _ _ _ | exact mput_r (by decide)) (by rfl) rfl ?_
  refine xr_bipush (v := nI 6) (n := 6) dX8_tellsCell_4 (by decide) rfl ?_
  refine xr_iload_n (n := 7) dX8_tellsCell_6 rfl rfl ?_
  refine xr_imul (n := 8) dX8_tellsCell_7 rfl ?_
  try simp (disch := omega) only [nI_clamp, pk_mul, nI_add, oi1, up2_a, ur_a, Nat.reduceEqDiff, Nat.reduceMul, Nat.reduceAdd, reduceIte, if_pos, if_neg, hn, hc]
  refine xr_iconst (v := nI 2) (n := 9) dX8_tellsCell_8 (by decide) rfl ?_
  refine xr_iadd (n := 10) dX8_tellsCell_9 rfl ?_
  try simp (disch := omega) only [nI_clamp, pk_mul, nI_add, oi1, up2_a, ur_a, Nat.reduceEqDiff, Nat.reduceMul, Nat.reduceAdd, reduceIte, if_pos, if_neg, hn, hc]
  refine xr_iaload (n := 11) dX8_tellsCell_10 (by first | exact mput_0 _ _ _ | exact mput_r (by decide)) (by first | exact vp_in_nI (by omega) (by omega)) rfl ?_
  try simp (disch := omega) only [nI_clamp, pk_mul, nI_add, oi1, up2_a, ur_a, Nat.reduceEqDiff, Nat.reduceMul, Nat.reduceAdd, reduceIte, if_pos, if_neg, hn, hc]
  refine xq_istore_n 3 (n := 12) dX8_tellsCell_11 rfl rfl rfl ?_
  simp only [xst, Nat.beq, List.filter, Bool.not_true, Bool.not_false]
  refine xr_iload_n (n := 13) dX8_tellsCell_12 rfl rfl ?_
  refine xr_bipush (v := nI 40) (n := 15) dX8_tellsCell_13 (by decide) rfl ?_
  refine xr_icmp_ge (tgt := 45) (n := 18) dX8_tellsCell_15 (by decide) rfl (fun h15 => ?_) (fun h15 => ?_)
  · have hlt : ¬ n < 40 := by ((try simp (disch := omega) only [i_lt, i_le, i_eq, nt, i_m1, Int32.toInt_zero] at *); omega)
    refine xr_aload_n (n := 46) dX8_tellsCell_45 rfl rfl ?_
    refine xr_get (n := 49) dX8_tellsCell_46 fl_X8_40 (by first | exact mput_0 _ _ _ | exact mput_r (by decide)) (by rfl) rfl ?_
    refine xr_bipush (v := nI 6) (n := 51) dX8_tellsCell_49 (by decide) rfl ?_
    refine xr_iload_n (n := 52) dX8_tellsCell_51 rfl rfl ?_
    refine xr_imul (n := 53) dX8_tellsCell_52 rfl ?_
    try simp (disch := omega) only [nI_clamp, pk_mul, nI_add, oi1, up2_a, ur_a, Nat.reduceEqDiff, Nat.reduceMul, Nat.reduceAdd, reduceIte, if_pos, if_neg, hn, hc]
    refine xr_iconst (v := nI 2) (n := 54) dX8_tellsCell_53 (by decide) rfl ?_
    refine xr_iadd (n := 55) dX8_tellsCell_54 rfl ?_
    try simp (disch := omega) only [nI_clamp, pk_mul, nI_add, oi1, up2_a, ur_a, Nat.reduceEqDiff, Nat.reduceMul, Nat.reduceAdd, reduceIte, if_pos, if_neg, hn, hc]
    refine xr_dup2 (n := 56) dX8_tellsCell_55 rfl rfl rfl ?_
    refine xr_iaload (n := 57) dX8_tellsCell_56 (by first | exact mput_0 _ _ _ | exact mput_r (by decide)) (by first | exact vp_in_nI (by omega) (by omega)) rfl ?_
    try simp (disch := omega) only [nI_clamp, pk_mul, nI_add, oi1, up2_a, ur_a, Nat.reduceEqDiff, Nat.reduceMul, Nat.reduceAdd, reduceIte, if_pos, if_neg, hn, hc]
    refine xr_iconst (v := nI 1) (n := 58) dX8_tellsCell_57 (by decide) rfl ?_
    refine xr_iadd (n := 59) dX8_tellsCell_58 rfl ?_
    try simp (disch := omega) only [nI_clamp, pk_mul, nI_add, oi1, up2_a, ur_a, Nat.reduceEqDiff, Nat.reduceMul, Nat.reduceAdd, reduceIte, if_pos, if_neg, hn, hc]
    refine xq_iastore (n := 60) dX8_tellsCell_59 (by first | exact mput_0 _ _ _ | exact mput_r (by decide)) (by first | exact vp_in_nI (by omega) (by omega)) rfl ?_
    simp (disch := omega) only [nI_clamp, List.set, mw_0, mw_1, mw_2, mw_3, mw_4, mw_5, mw_6, mw_7, mw_8, mw_9, mw_10, mw_11, mw_12, mw_13, mw_14, mw_15, mw_16, mw_17, mw_18, mw_19]
    refine xr_return dX8_tellsCell_60 rfl rfl ?_
    first | (rw [if_pos hlt] at hq; exact hq) | (rw [if_neg hlt] at hq; exact hq)
  · have hlt : n < 40 := by ((try simp (disch := omega) only [i_lt, i_le, i_eq, nt, i_m1, Int32.toInt_zero] at *); omega)
    refine xr_aload_n (n := 19) dX8_tellsCell_18 rfl rfl ?_
    refine xr_get (n := 22) dX8_tellsCell_19 fl_X8_31 (by first | exact mput_0 _ _ _ | exact mput_r (by decide)) (by rfl) rfl ?_
    refine xr_bipush (v := nI 40) (n := 24) dX8_tellsCell_22 (by decide) rfl ?_
    refine xr_iload_n (n := 25) dX8_tellsCell_24 rfl rfl ?_
    refine xr_imul (n := 26) dX8_tellsCell_25 rfl ?_
    try simp (disch := omega) only [nI_clamp, pk_mul, nI_add, oi1, up2_a, ur_a, Nat.reduceEqDiff, Nat.reduceMul, Nat.reduceAdd, reduceIte, if_pos, if_neg, hn, hc]
    refine xr_iload_n (n := 27) dX8_tellsCell_26 rfl rfl ?_
    refine xr_iadd (n := 28) dX8_tellsCell_27 rfl ?_
    try simp (disch := omega) only [nI_clamp, pk_mul, nI_add, oi1, up2_a, ur_a, Nat.reduceEqDiff, Nat.reduceMul, Nat.reduceAdd, reduceIte, if_pos, if_neg, hn, hc]
    refine xr_aload_n (n := 29) dX8_tellsCell_28 rfl rfl ?_
    refine xr_get (n := 32) dX8_tellsCell_29 fl_X8_28 (by first | exact mput_0 _ _ _ | exact mput_r (by decide)) (by rfl) rfl ?_
    refine xr_bipush (v := nI 6) (n := 34) dX8_tellsCell_32 (by decide) rfl ?_
    refine xr_iload_n (n := 35) dX8_tellsCell_34 rfl rfl ?_
    refine xr_imul (n := 36) dX8_tellsCell_35 rfl ?_
    try simp (disch := omega) only [nI_clamp, pk_mul, nI_add, oi1, up2_a, ur_a, Nat.reduceEqDiff, Nat.reduceMul, Nat.reduceAdd, reduceIte, if_pos, if_neg, hn, hc]
    refine xr_aload_n (n := 37) dX8_tellsCell_36 rfl rfl ?_
    refine xr_iload_n (n := 38) dX8_tellsCell_37 rfl rfl ?_
    refine xr_iconst (v := nI 1) (n := 39) dX8_tellsCell_38 (by decide) rfl ?_
    refine xr_callV (y2 := mX8_of) (As := [_, _]) (n := 42) dX8_tellsCell_39 lm_X8_124 pm_X8_of pi_X8_of (by first | exact mput_0 _ _ _ | exact mput_r (by decide)) rfl rfl rfl (by simp [Value.category]) rfl ⟨Nat.le_refl _, Nat.le_refl _⟩ ?_
    refine s_X8_of (by omega) (by omega) ?_
    dsimp only [xK, xps]
    refine xr_iadd (n := 43) dX8_tellsCell_42 rfl ?_
    try simp (disch := omega) only [nI_clamp, pk_mul, nI_add, oi1, up2_a, ur_a, Nat.reduceEqDiff, Nat.reduceMul, Nat.reduceAdd, reduceIte, if_pos, if_neg, hn, hc]
    refine xr_iaload (n := 44) dX8_tellsCell_43 (by first | exact mput_0 _ _ _ | exact mput_r (by decide)) (by first | exact vp_in_nI (by omega) (by omega)) rfl ?_
    try simp (disch := omega) only [nI_clamp, pk_mul, nI_add, oi1, up2_a, ur_a, Nat.reduceEqDiff, Nat.reduceMul, Nat.reduceAdd, reduceIte, if_pos, if_neg, hn, hc]
    refine xq_iastore (n := 45) dX8_tellsCell_44 (by first | exact mput_0 _ _ _ | exact mput_r (by decide)) (by first | exact vp_in_nI (by omega) (by omega)) rfl ?_
    simp (disch := omega) only [nI_clamp, List.set, mw_0, mw_1, mw_2, mw_3, mw_4, mw_5, mw_6, mw_7, mw_8, mw_9, mw_10, mw_11, mw_12, mw_13, mw_14, mw_15, mw_16, mw_17, mw_18, mw_19]
    refine xr_aload_n (n := 46) dX8_tellsCell_45 rfl rfl ?_
    refine xr_get (n := 49) dX8_tellsCell_46 fl_X8_40 (by first | exact mput_0 _ _ _ | exact mput_r (by decide)) (by rfl) rfl ?_
    refine xr_bipush (v := nI 6) (n := 51) dX8_tellsCell_49 (by decide) rfl ?_
    refine xr_iload_n (n := 52) dX8_tellsCell_51 rfl rfl ?_
    refine xr_imul (n := 53) dX8_tellsCell_52 rfl ?_
    try simp (disch := omega) only [nI_clamp, pk_mul, nI_add, oi1, up2_a, ur_a, Nat.reduceEqDiff, Nat.reduceMul, Nat.reduceAdd, reduceIte, if_pos, if_neg, hn, hc]
    refine xr_iconst (v := nI 2) (n := 54) dX8_tellsCell_53 (by decide) rfl ?_
    refine xr_iadd (n := 55) dX8_tellsCell_54 rfl ?_
    try simp (disch := omega) only [nI_clamp, pk_mul, nI_add, oi1, up2_a, ur_a, Nat.reduceEqDiff, Nat.reduceMul, Nat.reduceAdd, reduceIte, if_pos, if_neg, hn, hc]
    refine xr_dup2 (n := 56) dX8_tellsCell_55 rfl rfl rfl ?_
    refine xr_iaload (n := 57) dX8_tellsCell_56 (by first | exact mput_0 _ _ _ | exact mput_r (by decide)) (by first | exact vp_in_nI (by omega) (by omega)) rfl ?_
    try simp (disch := omega) only [nI_clamp, pk_mul, nI_add, oi1, up2_a, ur_a, Nat.reduceEqDiff, Nat.reduceMul, Nat.reduceAdd, reduceIte, if_pos, if_neg, hn, hc]
    refine xr_iconst (v := nI 1) (n := 58) dX8_tellsCell_57 (by decide) rfl ?_
    refine xr_iadd (n := 59) dX8_tellsCell_58 rfl ?_
    try simp (disch := omega) only [nI_clamp, pk_mul, nI_add, oi1, up2_a, ur_a, Nat.reduceEqDiff, Nat.reduceMul, Nat.reduceAdd, reduceIte, if_pos, if_neg, hn, hc]
    refine xq_iastore (n := 60) dX8_tellsCell_59 (by first | exact mput_0 _ _ _ | exact mput_r (by decide)) (by first | exact vp_in_nI (by omega) (by omega)) rfl ?_
    simp (disch := omega) only [nI_clamp, List.set, mw_0, mw_1, mw_2, mw_3, mw_4, mw_5, mw_6, mw_7, mw_8, mw_9, mw_10, mw_11, mw_12, mw_13, mw_14, mw_15, mw_16, mw_17, mw_18, mw_19]
    refine xr_return dX8_tellsCell_60 rfl rfl ?_
    first | (rw [if_pos hlt] at hq; exact hq) | (rw [if_neg hlt] at hq; exact hq)

theorem s_X8_roundOf {G : xG} {d : Nat} {f : Nat → xC} {r : Nat × Nat} {Q : Option Value → xM → Prop} {m : Nat} {μ : xS} {sd dp a b e : Nat} (hsd : sd ≤ 1) (hdp : dp < 6) (ha : μ 16 dp = nI a) (hb : μ 13 (6 * sd + 4) = nI b) (he : μ 13 (6 * sd + 5) = nI e) (ha2 : a ≤ 400) (hb2 : b ≤ 400) (he2 : e ≤ 400) (hq : Q none (mput f m (up2 (up2 (up2 μ 16 dp (nI (a + 1))) 13 (6 * sd + 4) (nI (b + 1))) 13 (6 * sd + 5) (nI (if e < a + 1 then a + 1 else e))), r)) : xMet G d mX8_roundOf [.ref m, .int (nI sd), .int (nI dp)] (mput f m μ, r) r Q := by
  refine xMet_0 (by decide +kernel) rfl (Nat.le_of_ble_eq_true rfl) ?_
  show xX G d mX8_roundOf r r (xΦ G r r Q) 0 [(0, .ref m), (1, .int (nI sd)), (2, .int (nI dp))] [] (mput f m μ, r)
  refine xr_aload_n (n := 1) dX8_roundOf_0 rfl rfl ?_
  refine xr_get (n := 4) dX8_roundOf_1 fl_X8_49 (by first | exact mput_0 _ _ _ | exact mput_r (by decide)) (by rfl) rfl ?_
  refine xr_iload_n (n := 5) dX8_roundOf_4 rfl rfl ?_
  refine xr_dup2 (n := 6) dX8_roundOf_5 rfl rfl rfl ?_
  refine xr_iaload (n := 7) dX8_roundOf_6 (by first | exact mput_0 _ _ _ | exact mput_r (by decide)) (by first | exact vp_in_nI (by omega) (by omega)) rfl ?_
  try simp (disch := omega) only [nI_clamp, pk_mul, nI_add, oi1, up2_a, ur_a, Nat.reduceEqDiff, Nat.reduceMul, Nat.reduceAdd, reduceIte, if_pos, if_neg, ha, hb, he]
  refine xr_iconst (v := nI 1) (n := 8) dX8_roundOf_7 (by decide) rfl ?_
  refine xr_iadd (n := 9) dX8_roundOf_8 rfl ?_
  try simp (disch := omega) only [nI_clamp, pk_mul, nI_add, oi1, up2_a, ur_a, Nat.reduceEqDiff, Nat.reduceMul, Nat.reduceAdd, reduceIte, if_pos, if_neg, ha, hb, he]
  refine xq_iastore (n := 10) dX8_roundOf_9 (by first | exact mput_0 _ _ _ | exact mput_r (by decide)) (by first | exact vp_in_nI (by omega) (by omega)) rfl ?_
  simp (disch := omega) only [nI_clamp, List.set, mw_0, mw_1, mw_2, mw_3, mw_4, mw_5, mw_6, mw_7, mw_8, mw_9, mw_10, mw_11, mw_12, mw_13, mw_14, mw_15, mw_16, mw_17, mw_18, mw_19]
  refine xr_aload_n (n := 11) dX8_roundOf_10 rfl rfl ?_
  refine xr_get (n := 14) dX8_roundOf_11 fl_X8_40 (by first | exact mput_0 _ _ _ | exact mput_r (by decide)) (by rfl) rfl ?_
  refine xr_bipush (v := nI 6) (n := 16) dX8_roundOf_14 (by decide) rfl ?_
  refine xr_iload_n (n := 17) dX8_roundOf_16 rfl rfl ?_
  refine xr_imul (n := 18) dX8_roundOf_17 rfl ?_
  try simp (disch := omega) only [nI_clamp, pk_mul, nI_add, oi1, up2_a, ur_a, Nat.reduceEqDiff, Nat.reduceMul, Nat.reduceAdd, reduceIte, if_pos, if_neg, ha, hb, he]
  refine xr_iconst (v := nI 4) (n := 19) dX8_roundOf_18 (by decide) rfl ?_
  refine xr_iadd (n := 20) dX8_roundOf_19 rfl ?_
  try simp (disch := omega) only [nI_clamp, pk_mul, nI_add, oi1, up2_a, ur_a, Nat.reduceEqDiff, Nat.reduceMul, Nat.reduceAdd, reduceIte, if_pos, if_neg, ha, hb, he]
  refine xr_dup2 (n := 21) dX8_roundOf_20 rfl rfl rfl ?_
  refine xr_iaload (n := 22) dX8_roundOf_21 (by first | exact mput_0 _ _ _ | exact mput_r (by decide)) (by first | exact vp_in_nI (by omega) (by omega)) rfl ?_
  try simp (disch := omega) only [nI_clamp, pk_mul, nI_add, oi1, up2_a, ur_a, Nat.reduceEqDiff, Nat.reduceMul, Nat.reduceAdd, reduceIte, if_pos, if_neg, ha, hb, he]
  refine xr_iconst (v := nI 1) (n := 23) dX8_roundOf_22 (by decide) rfl ?_
  refine xr_iadd (n := 24) dX8_roundOf_23 rfl ?_
  try simp (disch := omega) only [nI_clamp, pk_mul, nI_add, oi1, up2_a, ur_a, Nat.reduceEqDiff, Nat.reduceMul, Nat.reduceAdd, reduceIte, if_pos, if_neg, ha, hb, he]
  refine xq_iastore (n := 25) dX8_roundOf_24 (by first | exact mput_0 _ _ _ | exact mput_r (by decide)) (by first | exact vp_in_nI (by omega) (by omega)) rfl ?_
  simp (disch := omega) only [nI_clamp, List.set, mw_0, mw_1, mw_2, mw_3, mw_4, mw_5, mw_6, mw_7, mw_8, mw_9, mw_10, mw_11, mw_12, mw_13, mw_14, mw_15, mw_16, mw_17, mw_18, mw_19]
  refine xr_aload_n (n := 26) dX8_roundOf_25 rfl rfl ?_
  refine xr_get (n := 29) dX8_roundOf_26 fl_X8_40 (by first | exact mput_0 _ _ _ | exact mput_r (by decide)) (by rfl) rfl ?_
  refine xr_bipush (v := nI 6) (n := 31) dX8_roundOf_29 (by decide) rfl ?_
  refine xr_iload_n (n := 32) dX8_roundOf_31 rfl rfl ?_
  refine xr_imul (n := 33) dX8_roundOf_32 rfl ?_
  try simp (disch := omega) only [nI_clamp, pk_mul, nI_add, oi1, up2_a, ur_a, Nat.reduceEqDiff, Nat.reduceMul, Nat.reduceAdd, reduceIte, if_pos, if_neg, ha, hb, he]
  refine xr_iconst (v := nI 5) (n := 34) dX8_roundOf_33 (by decide) rfl ?_
  refine xr_iadd (n := 35) dX8_roundOf_34 rfl ?_
  try simp (disch := omega) only [nI_clamp, pk_mul, nI_add, oi1, up2_a, ur_a, Nat.reduceEqDiff, Nat.reduceMul, Nat.reduceAdd, reduceIte, if_pos, if_neg, ha, hb, he]
  refine xr_aload_n (n := 36) dX8_roundOf_35 rfl rfl ?_
  refine xr_get (n := 39) dX8_roundOf_36 fl_X8_49 (by first | exact mput_0 _ _ _ | exact mput_r (by decide)) (by rfl) rfl ?_
  refine xr_iload_n (n := 40) dX8_roundOf_39 rfl rfl ?_
  refine xr_iaload (n := 41) dX8_roundOf_40 (by first | exact mput_0 _ _ _ | exact mput_r (by decide)) (by first | exact vp_in_nI (by omega) (by omega)) rfl ?_
  try simp (disch := omega) only [nI_clamp, pk_mul, nI_add, oi1, up2_a, ur_a, Nat.reduceEqDiff, Nat.reduceMul, Nat.reduceAdd, reduceIte, if_pos, if_neg, ha, hb, he]
  refine xr_aload_n (n := 42) dX8_roundOf_41 rfl rfl ?_
  refine xr_get (n := 45) dX8_roundOf_42 fl_X8_40 (by first | exact mput_0 _ _ _ | exact mput_r (by decide)) (by rfl) rfl ?_
  refine xr_bipush (v := nI 6) (n := 47) dX8_roundOf_45 (by decide) rfl ?_
  refine xr_iload_n (n := 48) dX8_roundOf_47 rfl rfl ?_
  refine xr_imul (n := 49) dX8_roundOf_48 rfl ?_
  try simp (disch := omega) only [nI_clamp, pk_mul, nI_add, oi1, up2_a, ur_a, Nat.reduceEqDiff, Nat.reduceMul, Nat.reduceAdd, reduceIte, if_pos, if_neg, ha, hb, he]
  refine xr_iconst (v := nI 5) (n := 50) dX8_roundOf_49 (by decide) rfl ?_
  refine xr_iadd (n := 51) dX8_roundOf_50 rfl ?_
  try simp (disch := omega) only [nI_clamp, pk_mul, nI_add, oi1, up2_a, ur_a, Nat.reduceEqDiff, Nat.reduceMul, Nat.reduceAdd, reduceIte, if_pos, if_neg, ha, hb, he]
  refine xr_iaload (n := 52) dX8_roundOf_51 (by first | exact mput_0 _ _ _ | exact mput_r (by decide)) (by first | exact vp_in_nI (by omega) (by omega)) rfl ?_
  try simp (disch := omega) only [nI_clamp, pk_mul, nI_add, oi1, up2_a, ur_a, Nat.reduceEqDiff, Nat.reduceMul, Nat.reduceAdd, reduceIte, if_pos, if_neg, ha, hb, he]
  refine xr_icmp_le (tgt := 64) (n := 55) dX8_roundOf_52 (by decide) rfl (fun h52 => ?_) (fun h52 => ?_)
  · refine xr_aload_n (n := 65) dX8_roundOf_64 rfl rfl ?_
    refine xr_get (n := 68) dX8_roundOf_65 fl_X8_40 (by first | exact mput_0 _ _ _ | exact mput_r (by decide)) (by rfl) rfl ?_
    refine xr_bipush (v := nI 6) (n := 70) dX8_roundOf_68 (by decide) rfl ?_
    refine xr_iload_n (n := 71) dX8_roundOf_70 rfl rfl ?_
    refine xr_imul (n := 72) dX8_roundOf_71 rfl ?_
    refine xr_iconst (v := nI 5) (n := 73) dX8_roundOf_72 (by decide) rfl ?_
    refine xr_iadd (n := 74) dX8_roundOf_73 rfl ?_
    try simp (disch := omega) only [nI_clamp, pk_mul, nI_add, oi1, up2_a, ur_a, Nat.reduceEqDiff, Nat.reduceMul, Nat.reduceAdd, reduceIte, if_pos, if_neg, ha, hb, he]
    refine xr_iaload (n := 75) dX8_roundOf_74 (by first | exact mput_0 _ _ _ | exact mput_r (by decide)) (by first | exact vp_in_nI (by omega) (by omega)) rfl ?_
    try simp (disch := omega) only [nI_clamp, pk_mul, nI_add, oi1, up2_a, ur_a, Nat.reduceEqDiff, Nat.reduceMul, Nat.reduceAdd, reduceIte, if_pos, if_neg, ha, hb, he]
    refine xq_iastore (n := 76) dX8_roundOf_75 (by first | exact mput_0 _ _ _ | exact mput_r (by decide)) (by first | exact vp_in_nI (by omega) (by omega)) rfl ?_
    simp (disch := omega) only [nI_clamp, List.set, mw_0, mw_1, mw_2, mw_3, mw_4, mw_5, mw_6, mw_7, mw_8, mw_9, mw_10, mw_11, mw_12, mw_13, mw_14, mw_15, mw_16, mw_17, mw_18, mw_19]
    refine xr_return dX8_roundOf_76 rfl rfl ?_
    first | (rw [if_pos (by ((try simp (disch := omega) only [i_lt, i_le, i_eq, nt, i_m1, Int32.toInt_zero] at *); omega))] at hq; exact hq) | (rw [if_neg (by ((try simp (disch := omega) only [i_lt, i_le, i_eq, nt, i_m1, Int32.toInt_zero] at *); omega))] at hq; exact hq)
  · refine xr_aload_n (n := 56) dX8_roundOf_55 rfl rfl ?_
    refine xr_get (n := 59) dX8_roundOf_56 fl_X8_49 (by first | exact mput_0 _ _ _ | exact mput_r (by decide)) (by rfl) rfl ?_
    refine xr_iload_n (n := 60) dX8_roundOf_59 rfl rfl ?_
    refine xr_iaload (n := 61) dX8_roundOf_60 (by first | exact mput_0 _ _ _ | exact mput_r (by decide)) (by first | exact vp_in_nI (by omega) (by omega)) rfl ?_
    try simp (disch := omega) only [nI_clamp, pk_mul, nI_add, oi1, up2_a, ur_a, Nat.reduceEqDiff, Nat.reduceMul, Nat.reduceAdd, reduceIte, if_pos, if_neg, ha, hb, he]
    refine xr_goto (n := 75) dX8_roundOf_61 (by decide) ?_
    refine xq_iastore (n := 76) dX8_roundOf_75 (by first | exact mput_0 _ _ _ | exact mput_r (by decide)) (by first | exact vp_in_nI (by omega) (by omega)) rfl ?_
    simp (disch := omega) only [nI_clamp, List.set, mw_0, mw_1, mw_2, mw_3, mw_4, mw_5, mw_6, mw_7, mw_8, mw_9, mw_10, mw_11, mw_12, mw_13, mw_14, mw_15, mw_16, mw_17, mw_18, mw_19]
    refine xr_return dX8_roundOf_76 rfl rfl ?_
    first | (rw [if_pos (by ((try simp (disch := omega) only [i_lt, i_le, i_eq, nt, i_m1, Int32.toInt_zero] at *); omega))] at hq; exact hq) | (rw [if_neg (by ((try simp (disch := omega) only [i_lt, i_le, i_eq, nt, i_m1, Int32.toInt_zero] at *); omega))] at hq; exact hq)
