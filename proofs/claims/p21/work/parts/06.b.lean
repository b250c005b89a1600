/-! the class: statics, and what a listing answers -/
theorem or_0 (x : Int32) : x ||| nI 0 = x := Int32.or_zero
theorem i_min60b {n : Nat} (h : n ≤ 60) : (if nI n < nI 60 then nI n else nI 60) = nI n := by
  by_cases e : n < 60
  · rw [if_pos (by rw [i_lt, nt _ (by omega), nt _ (by omega)]; omega)]
  · rw [if_neg (by rw [i_lt, nt _ (by omega), nt _ (by omega)]; omega), show n = 60 from by omega]
theorem s_X7_isWithin {G : xG} {d : Nat} {f : Nat → xC} {r : Nat × Nat} {Q : Option Value → xM → Prop} {v lo hi : Int32}  (hq : Q (some (.int (b2i (lo.toInt ≤ v.toInt ∧ v.toInt ≤ hi.toInt)))) (f, r)) : xMet G d mX7_isWithin [.int v, .int lo, .int hi] (f, r) r Q := by
  refine xMet_0 (by decide +kernel) rfl (Nat.le_of_ble_eq_true rfl) ?_
  show xX G d mX7_isWithin r r (xΦ G r r Q) 0 [(0, .int v), (1, .int lo), (2, .int hi)] [] (f, r)
  refine xr_iload_n (n := 1) dX7_isWithin_0 rfl rfl ?_
  refine xr_iload_n (n := 2) dX7_isWithin_1 rfl rfl ?_
  refine xr_icmp_lt (tgt := 14) (n := 5) dX7_isWithin_2 (by decide) rfl (fun h2 => ?_) (fun h2 => ?_)
  · refine xr_iconst (v := nI 0) (n := 15) dX7_isWithin_14 (by decide) rfl ?_
    refine xr_ireturn dX7_isWithin_15 rfl (by first | exact b2i_nar | exact nar_1 | exact nar_0) rfl ?_
    first | exact hq | (rw [b2i_t (by ((try simp (disch := omega) only [i_lt, i_le, i_eq, nt, i_m1, Int32.toInt_zero] at *); omega))] at hq; exact hq) | (rw [b2i_f (by ((try simp (disch := omega) only [i_lt, i_le, i_eq, nt, i_m1, Int32.toInt_zero] at *); omega))] at hq; exact hq)
  · refine xr_iload_n (n := 6) dX7_isWithin_5 rfl rfl ?_
    refine xr_iload_n (n := 7) dX7_isWithin_6 rfl rfl ?_
    refine xr_icmp_gt (tgt := 14) (n := 10) dX7_isWithin_7 (by decide) rfl (fun h7 => ?_) (fun h7 => ?_)
    · refine xr_iconst (v := nI 0) (n := 15) dX7_isWithin_14 (by decide) rfl ?_
      refine xr_ireturn dX7_isWithin_15 rfl (by first | exact b2i_nar | exact nar_1 | exact nar_0) rfl ?_
      first | exact hq | (rw [b2i_t (by ((try simp (disch := omega) only [i_lt, i_le, i_eq, nt, i_m1, Int32.toInt_zero] at *); omega))] at hq; exact hq) | (rw [b2i_f (by ((try simp (disch := omega) only [i_lt, i_le, i_eq, nt, i_m1, Int32.toInt_zero] at *); omega))] at hq; exact hq)
    · refine xr_iconst (v := nI 1) (n := 11) dX7_isWithin_10 (by decide) rfl ?_
      refine xr_goto (n := 15) dX7_isWithin_11 (by decide) ?_
      refine xr_ireturn dX7_isWithin_15 rfl (by first | exact b2i_nar | exact nar_1 | exact nar_0) rfl ?_
      first | exact hq | (rw [b2i_t (by ((try simp (disch := omega) only [i_lt, i_le, i_eq, nt, i_m1, Int32.toInt_zero] at *); omega))] at hq; exact hq) | (rw [b2i_f (by ((try simp (disch := omega) only [i_lt, i_le, i_eq, nt, i_m1, Int32.toInt_zero] at *); omega))] at hq; exact hq)

theorem s_X7_isProgram {G : xG} {d : Nat} {f : Nat → xC} {r : Nat × Nat} {Q : Option Value → xM → Prop} {p : Int32}  (hq : Q (some (.int (b2i (0 ≤ p.toInt ∧ p.toInt ≤ 1)))) (f, r)) : xMet G (d + 1) mX7_isProgram [.int p] (f, r) r Q := by
  refine xMet_0 (by decide +kernel) rfl (Nat.le_of_ble_eq_true rfl) ?_
  show xX G (d + 1) mX7_isProgram r r (xΦ G r r Q) 0 [(0, .int p)] [] (f, r)
  refine xr_iload_n (n := 1) dX7_isProgram_0 rfl rfl ?_
  refine xr_iconst (v := nI 0) (n := 2) dX7_isProgram_1 (by decide) rfl ?_
  refine xr_iconst (v := nI 1) (n := 3) dX7_isProgram_2 (by decide) rfl ?_
  refine xr_callS (y2 := mX7_isWithin) (As := [_, _, _]) (n := 6) dX7_isProgram_3 lm_X7_59 pm_X7_isWithin kp_static_yX7_isWithin rfl rfl (by simp [Value.category]) rfl ⟨Nat.le_refl _, Nat.le_refl _⟩ ?_
  refine s_X7_isWithin ?_
  dsimp only [xK, xps]
  refine xr_ireturn dX7_isProgram_6 rfl (by first | exact b2i_nar | exact nar_1 | exact nar_0) rfl ?_
  rw [b2i_iff (q := 0 ≤ p.toInt ∧ p.toInt ≤ 1) (by (simp (disch := omega) only [nt]); omega)]; exact hq

theorem s_X7_isCell {G : xG} {d : Nat} {f : Nat → xC} {r : Nat × Nat} {Q : Option Value → xM → Prop} {p : Int32}  (hq : Q (some (.int (b2i (0 ≤ p.toInt ∧ p.toInt ≤ 5)))) (f, r)) : xMet G (d + 1) mX7_isCell [.int p] (f, r) r Q := by
  refine xMet_0 (by decide +kernel) rfl (Nat.le_of_ble_eq_true rfl) ?_
  show xX G (d + 1) mX7_isCell r r (xΦ G r r Q) 0 [(0, .int p)] [] (f, r)
  refine xr_iload_n (n := 1) dX7_isCell_0 rfl rfl ?_
  refine xr_iconst (v := nI 0) (n := 2) dX7_isCell_1 (by decide) rfl ?_
  refine xr_iconst (v := nI 5) (n := 3) dX7_isCell_2 (by decide) rfl ?_
  refine xr_callS (y2 := mX7_isWithin) (As := [_, _, _]) (n := 6) dX7_isCell_3 lm_X7_59 pm_X7_isWithin kp_static_yX7_isWithin rfl rfl (by simp [Value.category]) rfl ⟨Nat.le_refl _, Nat.le_refl _⟩ ?_
  refine s_X7_isWithin ?_
  dsimp only [xK, xps]
  refine xr_ireturn dX7_isCell_6 rfl (by first | exact b2i_nar | exact nar_1 | exact nar_0) rfl ?_
  rw [b2i_iff (q := 0 ≤ p.toInt ∧ p.toInt ≤ 5) (by (simp (disch := omega) only [nt]); omega)]; exact hq

theorem s_X3_isDigit {G : xG} {d : Nat} {f : Nat → xC} {r : Nat × Nat} {Q : Option Value → xM → Prop} {p : Int32}  (hq : Q (some (.int (b2i (48 ≤ p.toInt ∧ p.toInt ≤ 57)))) (f, r)) : xMet G (d + 1) mX3_isDigit [.int p] (f, r) r Q := by
  refine xMet_0 (by decide +kernel) rfl (Nat.le_of_ble_eq_true rfl) ?_
  show xX G (d + 1) mX3_isDigit r r (xΦ G r r Q) 0 [(0, .int p)] [] (f, r)
  refine xr_iload_n (n := 1) dX3_isDigit_0 rfl rfl ?_
  refine xr_bipush (v := nI 48) (n := 3) dX3_isDigit_1 (by decide) rfl ?_
  refine xr_bipush (v := nI 57) (n := 5) dX3_isDigit_3 (by decide) rfl ?_
  refine xr_callS (y2 := mX7_isWithin) (As := [_, _, _]) (n := 8) dX3_isDigit_5 lm_X3_93 pm_X7_isWithin kp_static_yX7_isWithin rfl rfl (by simp [Value.category]) rfl ⟨Nat.le_refl _, Nat.le_refl _⟩ ?_
  refine s_X7_isWithin ?_
  dsimp only [xK, xps]
  refine xr_ireturn dX3_isDigit_8 rfl (by first | exact b2i_nar | exact nar_1 | exact nar_0) rfl ?_
  rw [b2i_iff (q := 48 ≤ p.toInt ∧ p.toInt ≤ 57) (by (simp (disch := omega) only [nt]); omega)]; exact hq

theorem s_X7_isInput {G : xG} {d : Nat} {f : Nat → xC} {r : Nat × Nat} {Q : Option Value → xM → Prop} {a b : Int32}  (hq : Q (some (.int (b2i ((-999 ≤ a.toInt ∧ a.toInt ≤ 999) ∧ (-999 ≤ b.toInt ∧ b.toInt ≤ 999))))) (f, r)) : xMet G (d + 1) mX7_isInput [.int a, .int b] (f, r) r Q := by
  refine xMet_0 (by decide +kernel) rfl (Nat.le_of_ble_eq_true rfl) ?_
  show xX G (d + 1) mX7_isInput r r (xΦ G r r Q) 0 [(0, .int a), (1, .int b)] [] (f, r)
  refine xr_iload_n (n := 1) dX7_isInput_0 rfl rfl ?_
  refine xr_sipush (v := (-999)) (n := 4) dX7_isInput_1 (by decide) rfl ?_
  refine xr_sipush (v := nI 999) (n := 7) dX7_isInput_4 (by decide) rfl ?_
  refine xr_callS (y2 := mX7_isWithin) (As := [_, _, _]) (n := 10) dX7_isInput_7 lm_X7_59 pm_X7_isWithin kp_static_yX7_isWithin rfl rfl (by simp [Value.category]) rfl ⟨Nat.le_refl _, Nat.le_refl _⟩ ?_
  refine s_X7_isWithin ?_
  dsimp only [xK, xps]
  refine xr_beq (tgt := 30) (n := 13) dX7_isInput_10 (by decide) rfl (fun h10 => ?_) (fun h10 => ?_)
  · refine xr_iconst (v := nI 0) (n := 31) dX7_isInput_30 (by decide) rfl ?_
    refine xr_ireturn dX7_isInput_31 rfl (by first | exact b2i_nar | exact nar_1 | exact nar_0) rfl ?_
    have e1 : (-999 : Int32).toInt = -999 := by decide +kernel
    first | (rw [b2i_t (by (simp (disch := omega) only [nt] at *); omega)] at hq; exact hq) | (rw [b2i_f (by (simp (disch := omega) only [nt] at *); omega)] at hq; exact hq)
  · refine xr_iload_n (n := 14) dX7_isInput_13 rfl rfl ?_
    refine xr_sipush (v := (-999)) (n := 17) dX7_isInput_14 (by decide) rfl ?_
    refine xr_sipush (v := nI 999) (n := 20) dX7_isInput_17 (by decide) rfl ?_
    refine xr_callS (y2 := mX7_isWithin) (As := [_, _, _]) (n := 23) dX7_isInput_20 lm_X7_59 pm_X7_isWithin kp_static_yX7_isWithin rfl rfl (by simp [Value.category]) rfl ⟨Nat.le_refl _, Nat.le_refl _⟩ ?_
    refine s_X7_isWithin ?_
    dsimp only [xK, xps]
    refine xr_beq (tgt := 30) (n := 26) dX7_isInput_23 (by decide) rfl (fun h23 => ?_) (fun h23 => ?_)
    · refine xr_iconst (v := nI 0) (n := 31) dX7_isInput_30 (by decide) rfl ?_
      refine xr_ireturn dX7_isInput_31 rfl (by first | exact b2i_nar | exact nar_1 | exact nar_0) rfl ?_
      have e1 : (-999 : Int32).toInt = -999 := by decide +kernel
      first | (rw [b2i_t (by (simp (disch := omega) only [nt] at *); omega)] at hq; exact hq) | (rw [b2i_f (by (simp (disch := omega) only [nt] at *); omega)] at hq; exact hq)
    · refine xr_iconst (v := nI 1) (n := 27) dX7_isInput_26 (by decide) rfl ?_
      refine xr_goto (n := 31) dX7_isInput_27 (by decide) ?_
      refine xr_ireturn dX7_isInput_31 rfl (by first | exact b2i_nar | exact nar_1 | exact nar_0) rfl ?_
      have e1 : (-999 : Int32).toInt = -999 := by decide +kernel
      first | (rw [b2i_t (by (simp (disch := omega) only [nt] at *); omega)] at hq; exact hq) | (rw [b2i_f (by (simp (disch := omega) only [nt] at *); omega)] at hq; exact hq)

def tmv (t : Nat) : Nat := if t < 10 then 1000 + t else t - 10
def oui (k : Nat) : Int32 := if k = 0 then (-1) else nI (k - 1)
def mid (P : Nat → Nat → Nat) (s : Nat) : Nat := if P s 0 = 3 then P s 6 else if P s 0 = 4 then P s 5 else s + 1
def LsS (σ : xS) (P : Nat → Nat → Nat) (s : Nat) : Prop := σ 0 s = nI (P s 0 + 1) ∧ σ 1 s = nI (P s 1) ∧ (P s 0 = 0 → σ 2 s = nI (tmv (P s 3)) ∧ (P s 2 ≠ 0 → σ 4 s = nI (tmv (P s 4))) ∧ (P s 2 = 0 → σ 4 s = nI 0)) ∧ σ 3 s = nI (P s 2) ∧ σ 5 s = oui (outr P s s) ∧ σ 6 s = nI (mid P s) ∧ σ 7 s = nI (pend P s)
/-- a listing holds the program P of n statements -/
def LsP (σ : xS) (n : Nat) (P : Nat → Nat → Nat) : Prop := σ 9 0 = nI n ∧ n ≤ 60 ∧ ∀ s, s < n → LsS σ P s ∧ σ 8 s = nI (fol P s)
theorem i_min60 {n : Nat} (h : n ≤ 60) : (if nI 60 < nI n then nI 60 else nI n) = nI n := by
  rw [if_neg (fun q => by rw [i_lt, nt _ (by omega), nt _ (by omega)] at q; omega)]
theorem s_X1_isFull {G : xG} {d : Nat} {f : Nat → xC} {r : Nat × Nat} {Q : Option Value → xM → Prop} {a n : Nat} {σ : xS} (hL : lat f a σ) (hn : σ 9 0 = nI n) (hn2 : n ≤ 60) (hq : Q (some (.int (b2i (60 ≤ n)))) (f, r)) : xMet G d mX1_isFull [.ref a] (f, r) r Q := by
  refine xMet_0 (by decide +kernel) rfl (Nat.le_of_ble_eq_true rfl) ?_
  show xX G d mX1_isFull r r (xΦ G r r Q) 0 [(0, .ref a)] [] (f, r)
  refine xr_aload_n (n := 1) dX1_isFull_0 rfl rfl ?_
  refine xr_get (n := 4) dX1_isFull_1 fl_X1_39 (by first | exact lat_0 hL | exact lat_r hL (by decide)) (by rfl) rfl ?_
  try simp (disch := omega) only [nI_clamp, pk_mul, nI_add, oi1, up2_a, ur_a, Nat.reduceEqDiff, Nat.reduceMul, Nat.reduceAdd, reduceIte, if_pos, if_neg, hn]
  refine xr_bipush (v := nI 60) (n := 6) dX1_isFull_4 (by decide) rfl ?_
  refine xr_icmp_lt (tgt := 13) (n := 9) dX1_isFull_6 (by decide) rfl (fun h6 => ?_) (fun h6 => ?_)
  · refine xr_iconst (v := nI 0) (n := 14) dX1_isFull_13 (by decide) rfl ?_
    refine xr_ireturn dX1_isFull_14 rfl (by first | exact b2i_nar | exact nar_1 | exact nar_0) rfl ?_
    first | exact hq | (rw [b2i_t (by ((try simp (disch := omega) only [i_lt, i_le, i_eq, nt, i_m1, Int32.toInt_zero] at *); omega))] at hq; exact hq) | (rw [b2i_f (by ((try simp (disch := omega) only [i_lt, i_le, i_eq, nt, i_m1, Int32.toInt_zero] at *); omega))] at hq; exact hq)
  · refine xr_iconst (v := nI 1) (n := 10) dX1_isFull_9 (by decide) rfl ?_
    refine xr_goto (n := 14) dX1_isFull_10 (by decide) ?_
    refine xr_ireturn dX1_isFull_14 rfl (by first | exact b2i_nar | exact nar_1 | exact nar_0) rfl ?_
    first | exact hq | (rw [b2i_t (by ((try simp (disch := omega) only [i_lt, i_le, i_eq, nt, i_m1, Int32.toInt_zero] at *); omega))] at hq; exact hq) | (rw [b2i_f (by ((try simp (disch := omega) only [i_lt, i_le, i_eq, nt, i_m1, Int32.toInt_zero] at *); omega))] at hq; exact hq)

theorem s_X1_holds {G : xG} {d : Nat} {f : Nat → xC} {r : Nat × Nat} {Q : Option Value → xM → Prop} {a n : Nat} {σ : xS} {v : Int32} (hL : lat f a σ) (hn : σ 9 0 = nI n) (hn2 : n ≤ 60) (hq : Q (some (.int (b2i (0 ≤ v.toInt ∧ v.toInt < n)))) (f, r)) : xMet G (d + 1) mX1_holds [.ref a, .int v] (f, r) r Q := by
  refine xMet_0 (by decide +kernel) rfl (Nat.le_of_ble_eq_true rfl) ?_
  show xX G (d + 1) mX1_holds r r (xΦ G r r Q) 0 [(0, .ref a), (1, .int v)] [] (f, r)
  refine xr_iload_n (n := 1) dX1_holds_0 rfl rfl ?_
  refine xr_if_lt (tgt := 22) (n := 4) dX1_holds_1 (by decide) rfl (fun h1 => ?_) (fun h1 => ?_)
  · refine xr_iconst (v := nI 0) (n := 23) dX1_holds_22 (by decide) rfl ?_
    refine xr_ireturn dX1_holds_23 rfl (by first | exact b2i_nar | exact nar_1 | exact nar_0) rfl ?_
    first | exact hq | (rw [b2i_t (by ((try simp (disch := omega) only [i_lt, i_le, i_eq, nt, i_m1, Int32.toInt_zero] at *); omega))] at hq; exact hq) | (rw [b2i_f (by ((try simp (disch := omega) only [i_lt, i_le, i_eq, nt, i_m1, Int32.toInt_zero] at *); omega))] at hq; exact hq)
  · refine xr_iload_n (n := 5) dX1_holds_4 rfl rfl ?_
    refine xr_aload_n (n := 6) dX1_holds_5 rfl rfl ?_
    refine xr_get (n := 9) dX1_holds_6 fl_X1_39 (by first | exact lat_0 hL | exact lat_r hL (by decide)) (by rfl) rfl ?_
    try simp (disch := omega) only [nI_clamp, pk_mul, nI_add, oi1, up2_a, ur_a, Nat.reduceEqDiff, Nat.reduceMul, Nat.reduceAdd, reduceIte, if_pos, if_neg, hn]
    refine xr_icmp_ge (tgt := 22) (n := 12) dX1_holds_9 (by decide) rfl (fun h9 => ?_) (fun h9 => ?_)
    · refine xr_iconst (v := nI 0) (n := 23) dX1_holds_22 (by decide) rfl ?_
      refine xr_ireturn dX1_holds_23 rfl (by first | exact b2i_nar | exact nar_1 | exact nar_0) rfl ?_
      first | exact hq | (rw [b2i_t (by ((try simp (disch := omega) only [i_lt, i_le, i_eq, nt, i_m1, Int32.toInt_zero] at *); omega))] at hq; exact hq) | (rw [b2i_f (by ((try simp (disch := omega) only [i_lt, i_le, i_eq, nt, i_m1, Int32.toInt_zero] at *); omega))] at hq; exact hq)
    · refine xr_iload_n (n := 13) dX1_holds_12 rfl rfl ?_
      refine xr_bipush (v := nI 60) (n := 15) dX1_holds_13 (by decide) rfl ?_
      refine xr_icmp_ge (tgt := 22) (n := 18) dX1_holds_15 (by decide) rfl (fun h15 => ?_) (fun h15 => ?_)
      · refine xr_iconst (v := nI 0) (n := 23) dX1_holds_22 (by decide) rfl ?_
        refine xr_ireturn dX1_holds_23 rfl (by first | exact b2i_nar | exact nar_1 | exact nar_0) rfl ?_
        first | exact hq | (rw [b2i_t (by ((try simp (disch := omega) only [i_lt, i_le, i_eq, nt, i_m1, Int32.toInt_zero] at *); omega))] at hq; exact hq) | (rw [b2i_f (by ((try simp (disch := omega) only [i_lt, i_le, i_eq, nt, i_m1, Int32.toInt_zero] at *); omega))] at hq; exact hq)
      · refine xr_iconst (v := nI 1) (n := 19) dX1_holds_18 (by decide) rfl ?_
        refine xr_goto (n := 23) dX1_holds_19 (by decide) ?_
        refine xr_ireturn dX1_holds_23 rfl (by first | exact b2i_nar | exact nar_1 | exact nar_0) rfl ?_
        first | exact hq | (rw [b2i_t (by ((try simp (disch := omega) only [i_lt, i_le, i_eq, nt, i_m1, Int32.toInt_zero] at *); omega))] at hq; exact hq) | (rw [b2i_f (by ((try simp (disch := omega) only [i_lt, i_le, i_eq, nt, i_m1, Int32.toInt_zero] at *); omega))] at hq; exact hq)

theorem ib_s {s n : Nat} (h : s < n) (hn : n ≤ 60) : 0 ≤ (nI s).toInt ∧ (nI s).toInt < n := by
  rw [nt _ (by omega)]; omega
theorem s_X1_item {G : xG} {d : Nat} {f : Nat → xC} {r : Nat × Nat} {Q : Option Value → xM → Prop} {a n : Nat} {σ : xS} {b s : Nat} {g : Nat → Int32} (hL : lat f a σ) (hn : σ 9 0 = nI n) (hn2 : n ≤ 60) (hb : f b = aI 0 60 g) (hs : s < n) (hq : Q (some (.int (g s))) (f, r)) : xMet G (d + 2) mX1_item [.ref a, .ref b, .int (nI s)] (f, r) r Q := by
  refine xMet_0 (by decide +kernel) rfl (Nat.le_of_ble_eq_true rfl) ?_
  show xX G (d + 2) mX1_item r r (xΦ G r r Q) 0 [(0, .ref a), (1, .ref b), (2, .int (nI s))] [] (f, r)
  refine xr_aload_n (n := 1) dX1_item_0 rfl rfl ?_
  refine xr_iload_n (n := 2) dX1_item_1 rfl rfl ?_
  refine xr_callV (y2 := mX1_holds) (As := [_]) (n := 5) dX1_item_2 lm_X1_47 pm_X1_holds pi_X1_holds (by first | exact lat_0 hL | exact lat_r hL (by decide)) rfl rfl rfl (by simp [Value.category]) rfl ⟨Nat.le_refl _, Nat.le_refl _⟩ ?_
  refine s_X1_holds hL hn hn2 ?_
  dsimp only [xK, xps]
  refine xr_beq (tgt := 14) (n := 8) dX1_item_5 (by decide) rfl (fun h5 => ?_) (fun h5 => ?_)
  · exfalso; exact h5 (ib_s hs hn2)
  · refine xr_aload_n (n := 9) dX1_item_8 rfl rfl ?_
    refine xr_iload_n (n := 10) dX1_item_9 rfl rfl ?_
    refine xr_iaload (n := 11) dX1_item_10 (by exact hb) (by first | exact vp_in_nI (by omega) (by omega)) rfl ?_
    try simp (disch := omega) only [nI_clamp, pk_mul, nI_add, oi1, up2_a, ur_a, Nat.reduceEqDiff, Nat.reduceMul, Nat.reduceAdd, reduceIte, if_pos, if_neg]
    refine xr_goto (n := 15) dX1_item_11 (by decide) ?_
    refine xr_ireturn dX1_item_15 rfl rfl rfl ?_
    first | exact hq | (rw [b2i_t (by ((try simp (disch := omega) only [i_lt, i_le, i_eq, nt, i_m1, Int32.toInt_zero] at *); omega))] at hq; exact hq) | (rw [b2i_f (by ((try simp (disch := omega) only [i_lt, i_le, i_eq, nt, i_m1, Int32.toInt_zero] at *); omega))] at hq; exact hq)

theorem s_X1_kindOf {G : xG} {d : Nat} {f : Nat → xC} {r : Nat × Nat} {Q : Option Value → xM → Prop} {a n : Nat} {σ : xS} {s : Nat} (hL : lat f a σ) (hn : σ 9 0 = nI n) (hn2 : n ≤ 60) (hs : s < n) (hq : Q (some (.int (σ 0 s))) (f, r)) : xMet G (d + 3) mX1_kindOf [.ref a, .int (nI s)] (f, r) r Q := by
  refine xMet_0 (by decide +kernel) rfl (Nat.le_of_ble_eq_true rfl) ?_
  show xX G (d + 3) mX1_kindOf r r (xΦ G r r Q) 0 [(0, .ref a), (1, .int (nI s))] [] (f, r)
  refine xr_aload_n (n := 1) dX1_kindOf_0 rfl rfl ?_
  refine xr_aload_n (n := 2) dX1_kindOf_1 rfl rfl ?_
  refine xr_get (n := 5) dX1_kindOf_2 fl_X1_9 (by first | exact lat_0 hL | exact lat_r hL (by decide)) (by rfl) rfl ?_
  refine xr_iload_n (n := 6) dX1_kindOf_5 rfl rfl ?_
  refine xr_callV (y2 := mX1_item) (As := [_, _]) (n := 9) dX1_kindOf_6 lm_X1_72 pm_X1_item pi_X1_item (by first | exact lat_0 hL | exact lat_r hL (by decide)) rfl rfl rfl (by simp [Value.category]) rfl ⟨Nat.le_refl _, Nat.le_refl _⟩ ?_
  refine s_X1_item hL hn hn2 (lat_r hL (by decide)) (by omega) ?_
  dsimp only [xK, xps]
  refine xr_ireturn dX1_kindOf_9 rfl rfl rfl ?_
  first | exact hq | (rw [b2i_t (by ((try simp (disch := omega) only [i_lt, i_le, i_eq, nt, i_m1, Int32.toInt_zero] at *); omega))] at hq; exact hq) | (rw [b2i_f (by ((try simp (disch := omega) only [i_lt, i_le, i_eq, nt, i_m1, Int32.toInt_zero] at *); omega))] at hq; exact hq)

theorem s_X1_targetOf {G : xG} {d : Nat} {f : Nat → xC} {r : Nat × Nat} {Q : Option Value → xM → Prop} {a n : Nat} {σ : xS} {s : Nat} (hL : lat f a σ) (hn : σ 9 0 = nI n) (hn2 : n ≤ 60) (hs : s < n) (hq : Q (some (.int (σ 1 s))) (f, r)) : xMet G (d + 3) mX1_targetOf [.ref a, .int (nI s)] (f, r) r Q := by
  refine xMet_0 (by decide +kernel) rfl (Nat.le_of_ble_eq_true rfl) ?_
  show xX G (d + 3) mX1_targetOf r r (xΦ G r r Q) 0 [(0, .ref a), (1, .int (nI s))] [] (f, r)
  refine xr_aload_n (n := 1) dX1_targetOf_0 rfl rfl ?_
  refine xr_aload_n (n := 2) dX1_targetOf_1 rfl rfl ?_
  refine xr_get (n := 5) dX1_targetOf_2 fl_X1_15 (by first | exact lat_0 hL | exact lat_r hL (by decide)) (by rfl) rfl ?_
  refine xr_iload_n (n := 6) dX1_targetOf_5 rfl rfl ?_
  refine xr_callV (y2 := mX1_item) (As := [_, _]) (n := 9) dX1_targetOf_6 lm_X1_72 pm_X1_item pi_X1_item (by first | exact lat_0 hL | exact lat_r hL (by decide)) rfl rfl rfl (by simp [Value.category]) rfl ⟨Nat.le_refl _, Nat.le_refl _⟩ ?_
  refine s_X1_item hL hn hn2 (lat_r hL (by decide)) (by omega) ?_
  dsimp only [xK, xps]
  refine xr_ireturn dX1_targetOf_9 rfl rfl rfl ?_
  first | exact hq | (rw [b2i_t (by ((try simp (disch := omega) only [i_lt, i_le, i_eq, nt, i_m1, Int32.toInt_zero] at *); omega))] at hq; exact hq) | (rw [b2i_f (by ((try simp (disch := omega) only [i_lt, i_le, i_eq, nt, i_m1, Int32.toInt_zero] at *); omega))] at hq; exact hq)

theorem s_X1_leftOf {G : xG} {d : Nat} {f : Nat → xC} {r : Nat × Nat} {Q : Option Value → xM → Prop} {a n : Nat} {σ : xS} {s : Nat} (hL : lat f a σ) (hn : σ 9 0 = nI n) (hn2 : n ≤ 60) (hs : s < n) (hq : Q (some (.int (σ 2 s))) (f, r)) : xMet G (d + 3) mX1_leftOf [.ref a, .int (nI s)] (f, r) r Q := by
  refine xMet_0 (by decide +kernel) rfl (Nat.le_of_ble_eq_true rfl) ?_
  show xX G (d + 3) mX1_leftOf r r (xΦ G r r Q) 0 [(0, .ref a), (1, .int (nI s))] [] (f, r)
  refine xr_aload_n (n := 1) dX1_leftOf_0 rfl rfl ?_
  refine xr_aload_n (n := 2) dX1_leftOf_1 rfl rfl ?_
  refine xr_get (n := 5) dX1_leftOf_2 fl_X1_18 (by first | exact lat_0 hL | exact lat_r hL (by decide)) (by rfl) rfl ?_
  refine xr_iload_n (n := 6) dX1_leftOf_5 rfl rfl ?_
  refine xr_callV (y2 := mX1_item) (As := [_, _]) (n := 9) dX1_leftOf_6 lm_X1_72 pm_X1_item pi_X1_item (by first | exact lat_0 hL | exact lat_r hL (by decide)) rfl rfl rfl (by simp [Value.category]) rfl ⟨Nat.le_refl _, Nat.le_refl _⟩ ?_
  refine s_X1_item hL hn hn2 (lat_r hL (by decide)) (by omega) ?_
  dsimp only [xK, xps]
  refine xr_ireturn dX1_leftOf_9 rfl rfl rfl ?_
  first | exact hq | (rw [b2i_t (by ((try simp (disch := omega) only [i_lt, i_le, i_eq, nt, i_m1, Int32.toInt_zero] at *); omega))] at hq; exact hq) | (rw [b2i_f (by ((try simp (disch := omega) only [i_lt, i_le, i_eq, nt, i_m1, Int32.toInt_zero] at *); omega))] at hq; exact hq)

theorem s_X1_operatorOf {G : xG} {d : Nat} {f : Nat → xC} {r : Nat × Nat} {Q : Option Value → xM → Prop} {a n : Nat} {σ : xS} {s : Nat} (hL : lat f a σ) (hn : σ 9 0 = nI n) (hn2 : n ≤ 60) (hs : s < n) (hq : Q (some (.int (σ 3 s))) (f, r)) : xMet G (d + 3) mX1_operatorOf [.ref a, .int (nI s)] (f, r) r Q := by
  refine xMet_0 (by decide +kernel) rfl (Nat.le_of_ble_eq_true rfl) ?_
  show xX G (d + 3) mX1_operatorOf r r (xΦ G r r Q) 0 [(0, .ref a), (1, .int (nI s))] [] (f, r)
  refine xr_aload_n (n := 1) dX1_operatorOf_0 rfl rfl ?_
  refine xr_aload_n (n := 2) dX1_operatorOf_1 rfl rfl ?_
  refine xr_get (n := 5) dX1_operatorOf_2 fl_X1_21 (by first | exact lat_0 hL | exact lat_r hL (by decide)) (by rfl) rfl ?_
  refine xr_iload_n (n := 6) dX1_operatorOf_5 rfl rfl ?_
  refine xr_callV (y2 := mX1_item) (As := [_, _]) (n := 9) dX1_operatorOf_6 lm_X1_72 pm_X1_item pi_X1_item (by first | exact lat_0 hL | exact lat_r hL (by decide)) rfl rfl rfl (by simp [Value.category]) rfl ⟨Nat.le_refl _, Nat.le_refl _⟩ ?_
  refine s_X1_item hL hn hn2 (lat_r hL (by decide)) (by omega) ?_
  dsimp only [xK, xps]
  refine xr_ireturn dX1_operatorOf_9 rfl rfl rfl ?_
  first | exact hq | (rw [b2i_t (by ((try simp (disch := omega) only [i_lt, i_le, i_eq, nt, i_m1, Int32.toInt_zero] at *); omega))] at hq; exact hq) | (rw [b2i_f (by ((try simp (disch := omega) only [i_lt, i_le, i_eq, nt, i_m1, Int32.toInt_zero] at *); omega))] at hq; exact hq)

theorem s_X1_rightOf {G : xG} {d : Nat} {f : Nat → xC} {r : Nat × Nat} {Q : Option Value → xM → Prop} {a n : Nat} {σ : xS} {s : Nat} (hL : lat f a σ) (hn : σ 9 0 = nI n) (hn2 : n ≤ 60) (hs : s < n) (hq : Q (some (.int (σ 4 s))) (f, r)) : xMet G (d + 3) mX1_rightOf [.ref a, .int (nI s)] (f, r) r Q := by
  refine xMet_0 (by decide +kernel) rfl (Nat.le_of_ble_eq_true rfl) ?_
  show xX G (d + 3) mX1_rightOf r r (xΦ G r r Q) 0 [(0, .ref a), (1, .int (nI s))] [] (f, r)
  refine xr_aload_n (n := 1) dX1_rightOf_0 rfl rfl ?_
  refine xr_aload_n (n := 2) dX1_rightOf_1 rfl rfl ?_
  refine xr_get (n := 5) dX1_rightOf_2 fl_X1_24 (by first | exact lat_0 hL | exact lat_r hL (by decide)) (by rfl) rfl ?_
  refine xr_iload_n (n := 6) dX1_rightOf_5 rfl rfl ?_
  refine xr_callV (y2 := mX1_item) (As := [_, _]) (n := 9) dX1_rightOf_6 lm_X1_72 pm_X1_item pi_X1_item (by first | exact lat_0 hL | exact lat_r hL (by decide)) rfl rfl rfl (by simp [Value.category]) rfl ⟨Nat.le_refl _, Nat.le_refl _⟩ ?_
  refine s_X1_item hL hn hn2 (lat_r hL (by decide)) (by omega) ?_
  dsimp only [xK, xps]
  refine xr_ireturn dX1_rightOf_9 rfl rfl rfl ?_
  first | exact hq | (rw [b2i_t (by ((try simp (disch := omega) only [i_lt, i_le, i_eq, nt, i_m1, Int32.toInt_zero] at *); omega))] at hq; exact hq) | (rw [b2i_f (by ((try simp (disch := omega) only [i_lt, i_le, i_eq, nt, i_m1, Int32.toInt_zero] at *); omega))] at hq; exact hq)

theorem s_X1_followerAt {G : xG} {d : Nat} {f : Nat → xC} {r : Nat × Nat} {Q : Option Value → xM → Prop} {a n : Nat} {σ : xS} {s : Nat} (hL : lat f a σ) (hn : σ 9 0 = nI n) (hn2 : n ≤ 60) (hs : s < n) (hq : Q (some (.int (σ 8 s))) (f, r)) : xMet G (d + 3) mX1_followerAt [.ref a, .int (nI s)] (f, r) r Q := by
  refine xMet_0 (by decide +kernel) rfl (Nat.le_of_ble_eq_true rfl) ?_
  show xX G (d + 3) mX1_followerAt r r (xΦ G r r Q) 0 [(0, .ref a), (1, .int (nI s))] [] (f, r)
  refine xr_aload_n (n := 1) dX1_followerAt_0 rfl rfl ?_
  refine xr_aload_n (n := 2) dX1_followerAt_1 rfl rfl ?_
  refine xr_get (n := 5) dX1_followerAt_2 fl_X1_36 (by first | exact lat_0 hL | exact lat_r hL (by decide)) (by rfl) rfl ?_
  refine xr_iload_n (n := 6) dX1_followerAt_5 rfl rfl ?_
  refine xr_callV (y2 := mX1_item) (As := [_, _]) (n := 9) dX1_followerAt_6 lm_X1_72 pm_X1_item pi_X1_item (by first | exact lat_0 hL | exact lat_r hL (by decide)) rfl rfl rfl (by simp [Value.category]) rfl ⟨Nat.le_refl _, Nat.le_refl _⟩ ?_
  refine s_X1_item hL hn hn2 (lat_r hL (by decide)) (by omega) ?_
  dsimp only [xK, xps]
  refine xr_ireturn dX1_followerAt_9 rfl rfl rfl ?_
  first | exact hq | (rw [b2i_t (by ((try simp (disch := omega) only [i_lt, i_le, i_eq, nt, i_m1, Int32.toInt_zero] at *); omega))] at hq; exact hq) | (rw [b2i_f (by ((try simp (disch := omega) only [i_lt, i_le, i_eq, nt, i_m1, Int32.toInt_zero] at *); omega))] at hq; exact hq)

theorem s_X1_entered {G : xG} {d : Nat} {f : Nat → xC} {r : Nat × Nat} {Q : Option Value → xM → Prop} {a n : Nat} {σ : xS} {s mi kd : Nat} (hL : lat f a σ) (hn : σ 9 0 = nI n) (hn2 : n ≤ 60) (hs : s < n) (h6 : σ 6 s = nI mi) (hm : mi ≤ 60) (h0 : σ 0 s = nI kd) (hk : kd ≤ 5) (hq : Q (some (.int (if s + 1 < mi then nI (s + 1) else if kd = 4 then nI s else σ 8 s))) (f, r)) : xMet G (d + 4) mX1_entered [.ref a, .int (nI s)] (f, r) r Q := by
  refine xMet_0 (by decide +kernel) rfl (Nat.le_of_ble_eq_true rfl) ?_
  show xX G (d + 4) mX1_entered r r (xΦ G r r Q) 0 [(0, .ref a), (1, .int (nI s))] [] (f, r)
  refine xr_aload_n (n := 1) dX1_entered_0 rfl rfl ?_
  refine xr_aload_n (n := 2) dX1_entered_1 rfl rfl ?_
  refine xr_get (n := 5) dX1_entered_2 fl_X1_30 (by first | exact lat_0 hL | exact lat_r hL (by decide)) (by rfl) rfl ?_
  refine xr_iload_n (n := 6) dX1_entered_5 rfl rfl ?_
  refine xr_callV (y2 := mX1_item) (As := [_, _]) (n := 9) dX1_entered_6 lm_X1_72 pm_X1_item pi_X1_item (by first | exact lat_0 hL | exact lat_r hL (by decide)) rfl rfl rfl (by simp [Value.category]) rfl ⟨Nat.le_refl _, Nat.le_refl _⟩ ?_
  refine s_X1_item hL hn hn2 (lat_r hL (by decide)) (by omega) ?_
  dsimp only [xK, xps]
  rw [h6]
  refine xr_iload_n (n := 10) dX1_entered_9 rfl rfl ?_
  refine xr_iconst (v := nI 1) (n := 11) dX1_entered_10 (by decide) rfl ?_
  refine xr_iadd (n := 12) dX1_entered_11 rfl ?_
  try simp (disch := omega) only [nI_clamp, pk_mul, nI_add, oi1, up2_a, ur_a, Nat.reduceEqDiff, Nat.reduceMul, Nat.reduceAdd, reduceIte, if_pos, if_neg]
  refine xr_icmp_le (tgt := 19) (n := 15) dX1_entered_12 (by decide) rfl (fun h12 => ?_) (fun h12 => ?_)
  · refine xr_aload_n (n := 20) dX1_entered_19 rfl rfl ?_
    refine xr_iload_n (n := 21) dX1_entered_20 rfl rfl ?_
    refine xr_callV (y2 := mX1_kindOf) (As := [_]) (n := 24) dX1_entered_21 lm_X1_76 pm_X1_kindOf pi_X1_kindOf (by first | exact lat_0 hL | exact lat_r hL (by decide)) rfl rfl rfl (by simp [Value.category]) rfl ⟨Nat.le_refl _, Nat.le_refl _⟩ ?_
    refine s_X1_kindOf hL hn hn2 (by omega) ?_
    dsimp only [xK, xps]
    rw [h0]
    refine xr_iconst (v := nI 4) (n := 25) dX1_entered_24 (by decide) rfl ?_
    refine xr_icmp_ne (tgt := 32) (n := 28) dX1_entered_25 (by decide) rfl (fun h25 => ?_) (fun h25 => ?_)
    · refine xr_aload_n (n := 33) dX1_entered_32 rfl rfl ?_
      refine xr_iload_n (n := 34) dX1_entered_33 rfl rfl ?_
      refine xr_callV (y2 := mX1_followerAt) (As := [_]) (n := 37) dX1_entered_34 lm_X1_79 pm_X1_followerAt pi_X1_followerAt (by first | exact lat_0 hL | exact lat_r hL (by decide)) rfl rfl rfl (by simp [Value.category]) rfl ⟨Nat.le_refl _, Nat.le_refl _⟩ ?_
      refine s_X1_followerAt hL hn hn2 (by omega) ?_
      dsimp only [xK, xps]
      refine xr_ireturn dX1_entered_37 rfl rfl rfl ?_
      refine qi hq ?_
      first | (rw [if_pos (by ((try simp (disch := omega) only [i_lt, i_le, i_eq, nt, i_m1, Int32.toInt_zero] at *); omega))]; done) | (rw [if_neg (by ((try simp (disch := omega) only [i_lt, i_le, i_eq, nt, i_m1, Int32.toInt_zero] at *); omega)), if_pos (by ((try simp (disch := omega) only [i_lt, i_le, i_eq, nt, i_m1, Int32.toInt_zero] at *); omega))]; done) | (rw [if_neg (by ((try simp (disch := omega) only [i_lt, i_le, i_eq, nt, i_m1, Int32.toInt_zero] at *); omega)), if_neg (by ((try simp (disch := omega) only [i_lt, i_le, i_eq, nt, i_m1, Int32.toInt_zero] at *); omega))]; done)
    · refine xr_iload_n (n := 29) dX1_entered_28 rfl rfl ?_
      refine xr_goto (n := 37) dX1_entered_29 (by decide) ?_
      refine xr_ireturn dX1_entered_37 rfl rfl rfl ?_
      refine qi hq ?_
      first | (rw [if_pos (by ((try simp (disch := omega) only [i_lt, i_le, i_eq, nt, i_m1, Int32.toInt_zero] at *); omega))]; done) | (rw [if_neg (by ((try simp (disch := omega) only [i_lt, i_le, i_eq, nt, i_m1, Int32.toInt_zero] at *); omega)), if_pos (by ((try simp (disch := omega) only [i_lt, i_le, i_eq, nt, i_m1, Int32.toInt_zero] at *); omega))]; done) | (rw [if_neg (by ((try simp (disch := omega) only [i_lt, i_le, i_eq, nt, i_m1, Int32.toInt_zero] at *); omega)), if_neg (by ((try simp (disch := omega) only [i_lt, i_le, i_eq, nt, i_m1, Int32.toInt_zero] at *); omega))]; done)
  · refine xr_iload_n (n := 16) dX1_entered_15 rfl rfl ?_
    refine xr_iconst (v := nI 1) (n := 17) dX1_entered_16 (by decide) rfl ?_
    refine xr_iadd (n := 18) dX1_entered_17 rfl ?_
    try simp (disch := omega) only [nI_clamp, pk_mul, nI_add, oi1, up2_a, ur_a, Nat.reduceEqDiff, Nat.reduceMul, Nat.reduceAdd, reduceIte, if_pos, if_neg]
    refine xr_ireturn dX1_entered_18 rfl rfl rfl ?_
    refine qi hq ?_
    first | (rw [if_pos (by ((try simp (disch := omega) only [i_lt, i_le, i_eq, nt, i_m1, Int32.toInt_zero] at *); omega))]; done) | (rw [if_neg (by ((try simp (disch := omega) only [i_lt, i_le, i_eq, nt, i_m1, Int32.toInt_zero] at *); omega)), if_pos (by ((try simp (disch := omega) only [i_lt, i_le, i_eq, nt, i_m1, Int32.toInt_zero] at *); omega))]; done) | (rw [if_neg (by ((try simp (disch := omega) only [i_lt, i_le, i_eq, nt, i_m1, Int32.toInt_zero] at *); omega)), if_neg (by ((try simp (disch := omega) only [i_lt, i_le, i_eq, nt, i_m1, Int32.toInt_zero] at *); omega))]; done)

theorem s_X1_passed {G : xG} {d : Nat} {f : Nat → xC} {r : Nat × Nat} {Q : Option Value → xM → Prop} {a n : Nat} {σ : xS} {s mi en : Nat} (hL : lat f a σ) (hn : σ 9 0 = nI n) (hn2 : n ≤ 60) (hs : s < n) (h6 : σ 6 s = nI mi) (hm : mi ≤ 60) (h7 : σ 7 s = nI en) (he : en ≤ 60) (hq : Q (some (.int (if mi < en then nI mi else σ 8 s))) (f, r)) : xMet G (d + 4) mX1_passed [.ref a, .int (nI s)] (f, r) r Q := by
  refine xMet_0 (by decide +kernel) rfl (Nat.le_of_ble_eq_true rfl) ?_
  show xX G (d + 4) mX1_passed r r (xΦ G r r Q) 0 [(0, .ref a), (1, .int (nI s))] [] (f, r)
  refine xr_aload_n (n := 1) dX1_passed_0 rfl rfl ?_
  refine xr_aload_n (n := 2) dX1_passed_1 rfl rfl ?_
  refine xr_get (n := 5) dX1_passed_2 fl_X1_30 (by first | exact lat_0 hL | exact lat_r hL (by decide)) (by rfl) rfl ?_
  refine xr_iload_n (n := 6) dX1_passed_5 rfl rfl ?_
  refine xr_callV (y2 := mX1_item) (As := [_, _]) (n := 9) dX1_passed_6 lm_X1_72 pm_X1_item pi_X1_item (by first | exact lat_0 hL | exact lat_r hL (by decide)) rfl rfl rfl (by simp [Value.category]) rfl ⟨Nat.le_refl _, Nat.le_refl _⟩ ?_
  refine s_X1_item hL hn hn2 (lat_r hL (by decide)) (by omega) ?_
  dsimp only [xK, xps]
  rw [h6]
  refine xq_istore_n 2 (n := 10) dX1_passed_9 rfl rfl rfl ?_
  simp only [xst, Nat.beq, List.filter, Bool.not_true, Bool.not_false]
  refine xr_aload_n (n := 11) dX1_passed_10 rfl rfl ?_
  refine xr_aload_n (n := 12) dX1_passed_11 rfl rfl ?_
  refine xr_get (n := 15) dX1_passed_12 fl_X1_33 (by first | exact lat_0 hL | exact lat_r hL (by decide)) (by rfl) rfl ?_
  refine xr_iload_n (n := 16) dX1_passed_15 rfl rfl ?_
  refine xr_callV (y2 := mX1_item) (As := [_, _]) (n := 19) dX1_passed_16 lm_X1_72 pm_X1_item pi_X1_item (by first | exact lat_0 hL | exact lat_r hL (by decide)) rfl rfl rfl (by simp [Value.category]) rfl ⟨Nat.le_refl _, Nat.le_refl _⟩ ?_
  refine s_X1_item hL hn hn2 (lat_r hL (by decide)) (by omega) ?_
  dsimp only [xK, xps]
  rw [h7]
  refine xr_iload_n (n := 20) dX1_passed_19 rfl rfl ?_
  refine xr_icmp_le (tgt := 27) (n := 23) dX1_passed_20 (by decide) rfl (fun h20 => ?_) (fun h20 => ?_)
  · refine xr_aload_n (n := 28) dX1_passed_27 rfl rfl ?_
    refine xr_iload_n (n := 29) dX1_passed_28 rfl rfl ?_
    refine xr_callV (y2 := mX1_followerAt) (As := [_]) (n := 32) dX1_passed_29 lm_X1_79 pm_X1_followerAt pi_X1_followerAt (by first | exact lat_0 hL | exact lat_r hL (by decide)) rfl rfl rfl (by simp [Value.category]) rfl ⟨Nat.le_refl _, Nat.le_refl _⟩ ?_
    refine s_X1_followerAt hL hn hn2 (by omega) ?_
    dsimp only [xK, xps]
    refine xr_ireturn dX1_passed_32 rfl rfl rfl ?_
    refine qi hq ?_
    first | (rw [if_pos (by ((try simp (disch := omega) only [i_lt, i_le, i_eq, nt, i_m1, Int32.toInt_zero] at *); omega))]; done) | (rw [if_neg (by ((try simp (disch := omega) only [i_lt, i_le, i_eq, nt, i_m1, Int32.toInt_zero] at *); omega))]; done)
  · refine xr_iload_n (n := 24) dX1_passed_23 rfl rfl ?_
    refine xr_goto (n := 32) dX1_passed_24 (by decide) ?_
    refine xr_ireturn dX1_passed_32 rfl rfl rfl ?_
    refine qi hq ?_
    first | (rw [if_pos (by ((try simp (disch := omega) only [i_lt, i_le, i_eq, nt, i_m1, Int32.toInt_zero] at *); omega))]; done) | (rw [if_neg (by ((try simp (disch := omega) only [i_lt, i_le, i_eq, nt, i_m1, Int32.toInt_zero] at *); omega))]; done)

theorem s_X1_tally {G : xG} {d : Nat} {f : Nat → xC} {r : Nat × Nat} {Q : Option Value → xM → Prop} {a n : Nat} {σ : xS} {P : Nat → Nat → Nat} {kd : Nat} (hL : lat f a σ) (hP : LsP σ n P) (hO : okP n P) (hkd : kd ≤ 4) (hq : Q (some (.int (nI (cntk P kd n)))) (f, r)) : xMet G d mX1_tally [.ref a, .int (nI (kd + 1))] (f, r) r Q := by
  refine xMet_0 (by decide +kernel) rfl (Nat.le_of_ble_eq_true rfl) ?_
  show xX G d mX1_tally r r (xΦ G r r Q) 0 [(0, .ref a), (1, .int (nI (kd + 1)))] [] (f, r)
  obtain ⟨hn, hn2, hS⟩ := id hP
  refine xr_iconst (v := nI 0) (n := 1) dX1_tally_0 (by decide) rfl ?_
  refine xq_istore_n 2 (n := 2) dX1_tally_1 rfl rfl rfl ?_
  simp only [xst, Nat.beq, List.filter, Bool.not_true, Bool.not_false]
  refine xr_iconst (v := nI 0) (n := 3) dX1_tally_2 (by decide) rfl ?_
  refine xq_istore_n 3 (n := 4) dX1_tally_3 rfl rfl rfl ?_
  simp only [xst, Nat.beq, List.filter, Bool.not_true, Bool.not_false]
  refine nat_down (P := fun k => xX G d mX1_tally r r (xΦ G r r Q) 4 [(0, .ref a), (1, .int (nI (kd + 1))), (2, .int (nI (cntk P kd k))), (3, .int (nI k))] [] (f, r)) (N := n) ?_ ?_ 0 (by omega)
  · refine xr_iload_n (n := 5) dX1_tally_4 rfl rfl ?_
    refine xr_aload_n (n := 6) dX1_tally_5 rfl rfl ?_
    refine xr_get (n := 9) dX1_tally_6 fl_X1_39 (by first | exact lat_0 hL | exact lat_r hL (by decide)) (by rfl) rfl ?_
    try simp (disch := omega) only [nI_clamp, pk_mul, nI_add, oi1, up2_a, ur_a, Nat.reduceEqDiff, Nat.reduceMul, Nat.reduceAdd, reduceIte, if_pos, if_neg, hn]
    refine xr_icmp_ge (tgt := 37) (n := 12) dX1_tally_9 (by decide) rfl (fun h9 => ?_) (fun h9 => by (exfalso; ((try simp (disch := omega) only [i_lt, i_le, i_eq, nt, i_m1, Int32.toInt_zero] at *); omega)))
    refine xr_iload_n (n := 38) dX1_tally_37 rfl rfl ?_
    refine xr_ireturn dX1_tally_38 rfl rfl rfl ?_
    exact hq
  · intro k hk ih
    obtain ⟨⟨e0, e1, -, -, e5, -, -⟩, -⟩ := hS k hk
    obtain ⟨k0, k1, -⟩ := hO.2 k hk
    have hc := cntk_le P kd k
    refine xr_iload_n (n := 5) dX1_tally_4 rfl rfl ?_
    refine xr_aload_n (n := 6) dX1_tally_5 rfl rfl ?_
    refine xr_get (n := 9) dX1_tally_6 fl_X1_39 (by first | exact lat_0 hL | exact lat_r hL (by decide)) (by rfl) rfl ?_
    try simp (disch := omega) only [nI_clamp, pk_mul, nI_add, oi1, up2_a, ur_a, Nat.reduceEqDiff, Nat.reduceMul, Nat.reduceAdd, reduceIte, if_pos, if_neg, hn]
    refine xr_icmp_ge (tgt := 37) (n := 12) dX1_tally_9 (by decide) rfl (fun h9 => by (exfalso; ((try simp (disch := omega) only [i_lt, i_le, i_eq, nt, i_m1, Int32.toInt_zero] at *); omega))) (fun h9 => ?_)
    refine xr_iload_n (n := 13) dX1_tally_12 rfl rfl ?_
    refine xr_bipush (v := nI 60) (n := 15) dX1_tally_13 (by decide) rfl ?_
    refine xr_icmp_ge (tgt := 37) (n := 18) dX1_tally_15 (by decide) rfl (fun h15 => by (exfalso; ((try simp (disch := omega) only [i_lt, i_le, i_eq, nt, i_m1, Int32.toInt_zero] at *); omega))) (fun h15 => ?_)
    refine xr_aload_n (n := 19) dX1_tally_18 rfl rfl ?_
    refine xr_get (n := 22) dX1_tally_19 fl_X1_9 (by first | exact lat_0 hL | exact lat_r hL (by decide)) (by rfl) rfl ?_
    refine xr_iload_n (n := 23) dX1_tally_22 rfl rfl ?_
    refine xr_iaload (n := 24) dX1_tally_23 (by first | exact lat_0 hL | exact lat_r hL (by decide)) (by first | exact vp_in_nI (by omega) (by omega)) rfl ?_
    try simp (disch := omega) only [nI_clamp, pk_mul, nI_add, oi1, up2_a, ur_a, Nat.reduceEqDiff, Nat.reduceMul, Nat.reduceAdd, reduceIte, if_pos, if_neg, hn]
    rw [e0]
    refine xr_iload_n (n := 25) dX1_tally_24 rfl rfl ?_
    refine xr_icmp_ne (tgt := 31) (n := 28) dX1_tally_25 (by decide) rfl (fun h25 => ?_) (fun h25 => ?_)
    · refine xr_iinc (n := 34) dX1_tally_31 rfl rfl (rfl) rfl ?_
      simp only [xst, Nat.beq, List.filter, Bool.not_true, Bool.not_false]
      try simp (disch := omega) only [nI_clamp, pk_mul, nI_add, oi1, up2_a, ur_a, Nat.reduceEqDiff, Nat.reduceMul, Nat.reduceAdd, reduceIte, if_pos, if_neg, hn]
      refine xr_goto (n := 4) dX1_tally_34 (by decide) ?_
      first | (rw [cntk_t (by ((try simp (disch := omega) only [i_lt, i_le, i_eq, nt, i_m1, Int32.toInt_zero] at *); omega))] at ih; exact ih) | (rw [cntk_f (by ((try simp (disch := omega) only [i_lt, i_le, i_eq, nt, i_m1, Int32.toInt_zero] at *); omega))] at ih; exact ih)
    · refine xr_iinc (n := 31) dX1_tally_28 rfl rfl (rfl) rfl ?_
      simp only [xst, Nat.beq, List.filter, Bool.not_true, Bool.not_false]
      try simp (disch := omega) only [nI_clamp, pk_mul, nI_add, oi1, up2_a, ur_a, Nat.reduceEqDiff, Nat.reduceMul, Nat.reduceAdd, reduceIte, if_pos, if_neg, hn]
      refine xr_iinc (n := 34) dX1_tally_31 rfl rfl (rfl) rfl ?_
      simp only [xst, Nat.beq, List.filter, Bool.not_true, Bool.not_false]
      try simp (disch := omega) only [nI_clamp, pk_mul, nI_add, oi1, up2_a, ur_a, Nat.reduceEqDiff, Nat.reduceMul, Nat.reduceAdd, reduceIte, if_pos, if_neg, hn]
      refine xr_goto (n := 4) dX1_tally_34 (by decide) ?_
      first | (rw [cntk_t (by ((try simp (disch := omega) only [i_lt, i_le, i_eq, nt, i_m1, Int32.toInt_zero] at *); omega))] at ih; exact ih) | (rw [cntk_f (by ((try simp (disch := omega) only [i_lt, i_le, i_eq, nt, i_m1, Int32.toInt_zero] at *); omega))] at ih; exact ih)

theorem s_X1_settableCells {G : xG} {d : Nat} {f : Nat → xC} {r : Nat × Nat} {Q : Option Value → xM → Prop} {a n : Nat} {σ : xS} {P : Nat → Nat → Nat} (hL : lat f a σ) (hP : LsP σ n P) (hO : okP n P) (hq : Q (some (.int (setb P n))) (f, r)) : xMet G d mX1_settableCells [.ref a] (f, r) r Q := by
  refine xMet_0 (by decide +kernel) rfl (Nat.le_of_ble_eq_true rfl) ?_
  show xX G d mX1_settableCells r r (xΦ G r r Q) 0 [(0, .ref a)] [] (f, r)
  obtain ⟨hn, hn2, hS⟩ := id hP
  refine xr_iconst (v := nI 0) (n := 1) dX1_settableCells_0 (by decide) rfl ?_
  refine xq_istore_n 1 (n := 2) dX1_settableCells_1 rfl rfl rfl ?_
  simp only [xst, Nat.beq, List.filter, Bool.not_true, Bool.not_false]
  refine xr_iconst (v := nI 0) (n := 3) dX1_settableCells_2 (by decide) rfl ?_
  refine xq_istore_n 2 (n := 4) dX1_settableCells_3 rfl rfl rfl ?_
  simp only [xst, Nat.beq, List.filter, Bool.not_true, Bool.not_false]
  refine nat_down (P := fun k => xX G d mX1_settableCells r r (xΦ G r r Q) 4 [(0, .ref a), (1, .int (setb P k)), (2, .int (nI k))] [] (f, r)) (N := n) ?_ ?_ 0 (by omega)
  · refine xr_iload_n (n := 5) dX1_settableCells_4 rfl rfl ?_
    refine xr_aload_n (n := 6) dX1_settableCells_5 rfl rfl ?_
    refine xr_get (n := 9) dX1_settableCells_6 fl_X1_39 (by first | exact lat_0 hL | exact lat_r hL (by decide)) (by rfl) rfl ?_
    try simp (disch := omega) only [nI_clamp, pk_mul, nI_add, oi1, up2_a, ur_a, Nat.reduceEqDiff, Nat.reduceMul, Nat.reduceAdd, reduceIte, if_pos, if_neg, hn]
    refine xr_icmp_ge (tgt := 45) (n := 12) dX1_settableCells_9 (by decide) rfl (fun h9 => ?_) (fun h9 => by (exfalso; ((try simp (disch := omega) only [i_lt, i_le, i_eq, nt, i_m1, Int32.toInt_zero] at *); omega)))
    refine xr_iload_n (n := 46) dX1_settableCells_45 rfl rfl ?_
    refine xr_ireturn dX1_settableCells_46 rfl rfl rfl ?_
    exact hq
  · intro k hk ih
    obtain ⟨⟨e0, e1, -, -, e5, -, -⟩, -⟩ := hS k hk
    obtain ⟨k0, k1, -⟩ := hO.2 k hk
    refine xr_iload_n (n := 5) dX1_settableCells_4 rfl rfl ?_
    refine xr_aload_n (n := 6) dX1_settableCells_5 rfl rfl ?_
    refine xr_get (n := 9) dX1_settableCells_6 fl_X1_39 (by first | exact lat_0 hL | exact lat_r hL (by decide)) (by rfl) rfl ?_
    try simp (disch := omega) only [nI_clamp, pk_mul, nI_add, oi1, up2_a, ur_a, Nat.reduceEqDiff, Nat.reduceMul, Nat.reduceAdd, reduceIte, if_pos, if_neg, hn]
    refine xr_icmp_ge (tgt := 45) (n := 12) dX1_settableCells_9 (by decide) rfl (fun h9 => by (exfalso; ((try simp (disch := omega) only [i_lt, i_le, i_eq, nt, i_m1, Int32.toInt_zero] at *); omega))) (fun h9 => ?_)
    refine xr_iload_n (n := 13) dX1_settableCells_12 rfl rfl ?_
    refine xr_bipush (v := nI 60) (n := 15) dX1_settableCells_13 (by decide) rfl ?_
    refine xr_icmp_ge (tgt := 45) (n := 18) dX1_settableCells_15 (by decide) rfl (fun h15 => by (exfalso; ((try simp (disch := omega) only [i_lt, i_le, i_eq, nt, i_m1, Int32.toInt_zero] at *); omega))) (fun h15 => ?_)
    refine xr_aload_n (n := 19) dX1_settableCells_18 rfl rfl ?_
    refine xr_get (n := 22) dX1_settableCells_19 fl_X1_9 (by first | exact lat_0 hL | exact lat_r hL (by decide)) (by rfl) rfl ?_
    refine xr_iload_n (n := 23) dX1_settableCells_22 rfl rfl ?_
    refine xr_iaload (n := 24) dX1_settableCells_23 (by first | exact lat_0 hL | exact lat_r hL (by decide)) (by first | exact vp_in_nI (by omega) (by omega)) rfl ?_
    try simp (disch := omega) only [nI_clamp, pk_mul, nI_add, oi1, up2_a, ur_a, Nat.reduceEqDiff, Nat.reduceMul, Nat.reduceAdd, reduceIte, if_pos, if_neg, hn]
    rw [e0]
    refine xr_iconst (v := nI 1) (n := 25) dX1_settableCells_24 (by decide) rfl ?_
    refine xr_icmp_ne (tgt := 39) (n := 28) dX1_settableCells_25 (by decide) rfl (fun h25 => ?_) (fun h25 => ?_)
    · refine xr_iinc (n := 42) dX1_settableCells_39 rfl rfl (rfl) rfl ?_
      simp only [xst, Nat.beq, List.filter, Bool.not_true, Bool.not_false]
      try simp (disch := omega) only [nI_clamp, pk_mul, nI_add, oi1, up2_a, ur_a, Nat.reduceEqDiff, Nat.reduceMul, Nat.reduceAdd, reduceIte, if_pos, if_neg, hn]
      refine xr_goto (n := 4) dX1_settableCells_42 (by decide) ?_
      rw [setb_s] at ih
      first | (rw [if_pos (by ((try simp (disch := omega) only [i_lt, i_le, i_eq, nt, i_m1, Int32.toInt_zero] at *); omega))] at ih; exact ih) | (rw [if_neg (by ((try simp (disch := omega) only [i_lt, i_le, i_eq, nt, i_m1, Int32.toInt_zero] at *); omega)), or_0] at ih; exact ih)
    · refine xr_iload_n (n := 29) dX1_settableCells_28 rfl rfl ?_
      refine xr_iconst (v := nI 1) (n := 30) dX1_settableCells_29 (by decide) rfl ?_
      refine xr_aload_n (n := 31) dX1_settableCells_30 rfl rfl ?_
      refine xr_get (n := 34) dX1_settableCells_31 fl_X1_15 (by first | exact lat_0 hL | exact lat_r hL (by decide)) (by rfl) rfl ?_
      refine xr_iload_n (n := 35) dX1_settableCells_34 rfl rfl ?_
      refine xr_iaload (n := 36) dX1_settableCells_35 (by first | exact lat_0 hL | exact lat_r hL (by decide)) (by first | exact vp_in_nI (by omega) (by omega)) rfl ?_
      try simp (disch := omega) only [nI_clamp, pk_mul, nI_add, oi1, up2_a, ur_a, Nat.reduceEqDiff, Nat.reduceMul, Nat.reduceAdd, reduceIte, if_pos, if_neg, hn]
      rw [e1]
      refine xr_ishl (n := 37) dX1_settableCells_36 rfl ?_
      refine xr_ior (n := 38) dX1_settableCells_37 rfl ?_
      refine xq_istore_n 1 (n := 39) dX1_settableCells_38 rfl rfl rfl ?_
      simp only [xst, Nat.beq, List.filter, Bool.not_true, Bool.not_false]
      refine xr_iinc (n := 42) dX1_settableCells_39 rfl rfl (rfl) rfl ?_
      simp only [xst, Nat.beq, List.filter, Bool.not_true, Bool.not_false]
      try simp (disch := omega) only [nI_clamp, pk_mul, nI_add, oi1, up2_a, ur_a, Nat.reduceEqDiff, Nat.reduceMul, Nat.reduceAdd, reduceIte, if_pos, if_neg, hn]
      refine xr_goto (n := 4) dX1_settableCells_42 (by decide) ?_
      rw [setb_s] at ih
      first | (rw [if_pos (by ((try simp (disch := omega) only [i_lt, i_le, i_eq, nt, i_m1, Int32.toInt_zero] at *); omega))] at ih; exact ih) | (rw [if_neg (by ((try simp (disch := omega) only [i_lt, i_le, i_eq, nt, i_m1, Int32.toInt_zero] at *); omega)), or_0] at ih; exact ih)
