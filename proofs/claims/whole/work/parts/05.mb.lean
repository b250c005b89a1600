/-- a program of n statements in a row of code: kind, cell, operator, one, other, middle, end -/
def isPg (row : Nat → Int32) (n : Nat) (P : Nat → Nat → Nat) : Prop := row 0 = nI n ∧ ∀ s w, s < n → w < 7 → row (1 + 7 * s + w) = nI (P s w)
def okT (t : Nat) : Prop := t < 6 ∨ (10 ≤ t ∧ t ≤ 1009)
/-- what each statement's numbers keep to -/
def okP (n : Nat) (P : Nat → Nat → Nat) : Prop := n ≤ 60 ∧ ∀ s, s < n → P s 0 ≤ 4 ∧ P s 1 < 6 ∧ (P s 2 = 0 ∨ P s 2 = 42 ∨ P s 2 = 43 ∨ P s 2 = 45) ∧ okT (P s 3) ∧ okT (P s 4) ∧ (3 ≤ P s 0 → s < P s 6 ∧ P s 6 ≤ n) ∧ (P s 0 = 4 → s < P s 5 ∧ P s 5 ≤ P s 6)
theorem isPg.g {row : Nat → Int32} {n : Nat} {P : Nat → Nat → Nat} (h : isPg row n P) {s w : Nat} (hs : s < n) (hw : w < 7) : row (1 + 7 * s + w) = nI (P s w) := h.2 s w hs hw
def mterm (μ : xS) (sd t : Nat) : Int32 := if t < 10 then μ 9 (6 * sd + t) else nI (t - 10)
def mval (a b : Int32) (op : Nat) : Int32 := if op = 0 then a else if op = 43 then a + b else if op = 45 then a - b else a * b
def msets (μ : xS) (sd c op one oth : Nat) : xS := up2 μ 9 (6 * sd + c) (mheld (mval (mterm μ sd one) (mterm μ sd oth) op))
def mtells (μ : xS) (sd n c : Nat) : xS := up2 (if n < 40 then up2 μ 10 (40 * sd + n) (μ 9 (6 * sd + c)) else μ) 13 (6 * sd + 2) (nI (n + 1))
def mmark1 (μ : xS) (sd n st k : Nat) : xS := ur (up2 μ 11 (40 * sd + n) (nI st)) 12 (fo (fun c => μ 9 (6 * sd + c)) (μ 12) (240 * sd + 6 * n) k)
def mmarks (μ : xS) (sd n st : Nat) : xS := up2 (if n < 40 then mmark1 μ sd n st 6 else μ) 13 (6 * sd + 3) (nI (n + 1))
def mround (μ : xS) (sd dp a b e : Nat) : xS := up2 (up2 (up2 μ 16 dp (nI (a + 1))) 13 (6 * sd + 4) (nI (b + 1))) 13 (6 * sd + 5) (nI (if e < a + 1 then a + 1 else e))
theorem s_X8_sizeOf {G : xG} {d : Nat} {f : Nat → xC} {r : Nat × Nat} {Q : Option Value → xM → Prop} {m : Nat} {μ : xS} {n s : Nat} {P : Nat → Nat → Nat} (hP : isPg (μ 5) n P) (hO : okP n P) (hs : s < n) (hq : Q (some (.int (nI (if 3 ≤ P s 0 then P s 6 - s else 1)))) (mput f m μ, r)) : xMet G (d + 1) mX8_sizeOf [.ref m, .int (nI s)] (mput f m μ, r) r Q := by
  refine xMet_0 (by decide +kernel) rfl (Nat.le_of_ble_eq_true rfl) ?_
  show xX G (d + 1) mX8_sizeOf r r (xΦ G r r Q) 0 [(0, .ref m), (1, .int (nI s))] [] (mput f m μ, r)
  have hn6 := hO.1
  obtain ⟨k0, k1, k2, k3, k4, k6, k5⟩ := hO.2 s hs
  unfold okT at k3 k4
  have g0 := hP.g (w := 0) hs (by omega)
  have g1 := hP.g (w := 1) hs (by omega)
  have g2 := hP.g (w := 2) hs (by omega)
  have g3 := hP.g (w := 3) hs (by omega)
  have g4 := hP.g (w := 4) hs (by omega)
  have g5 := hP.g (w := 5) hs (by omega)
  have g6 := hP.g (w := 6) hs (by omega)
  refine xr_aload_n (n := 1) dX8_sizeOf_0 rfl rfl ?_
  refine xr_iload_n (n := 2) dX8_sizeOf_1 rfl rfl ?_
  refine xr_iconst (v := nI 0) (n := 3) dX8_sizeOf_2 (by decide) rfl ?_
  refine xr_callV (y2 := mX8_of) (As := [_, _]) (n := 6) dX8_sizeOf_3 lm_X8_124 pm_X8_of pi_X8_of (by first | exact mput_0 _ _ _ | exact mput_r (by decide)) rfl rfl rfl (by simp [Value.category]) rfl ⟨Nat.le_refl _, Nat.le_refl _⟩ ?_
  refine s_X8_of (by omega) (by omega) ?_
  dsimp only [xK, xps]
  try simp (disch := omega) only [nI_clamp, pk_mul, nI_add, oi1, up2_a, ur_a, Nat.reduceEqDiff, Nat.reduceMul, Nat.reduceAdd, reduceIte, if_pos, if_neg, g0, g1, g2, g3, g4, g5, g6]
  refine xr_iconst (v := nI 3) (n := 7) dX8_sizeOf_6 (by decide) rfl ?_
  refine xr_icmp_lt (tgt := 22) (n := 10) dX8_sizeOf_7 (by decide) rfl (fun h7 => ?_) (fun h7 => ?_)
  · refine xr_iconst (v := nI 1) (n := 23) dX8_sizeOf_22 (by decide) rfl ?_
    refine xr_ireturn dX8_sizeOf_23 rfl rfl rfl ?_
    refine qi hq ?_
    first | (rw [if_neg (by ((try simp (disch := omega) only [i_lt, i_le, i_eq, nt, i_m1, Int32.toInt_zero] at *); omega))]; done) | (rw [if_pos (show 3 ≤ P s 0 by ((try simp (disch := omega) only [i_lt, i_le, i_eq, nt, i_m1, Int32.toInt_zero] at *); omega))]; exact (pk_sub (Nat.le_of_lt (k6 (by ((try simp (disch := omega) only [i_lt, i_le, i_eq, nt, i_m1, Int32.toInt_zero] at *); omega))).1)).symm)
  · refine xr_aload_n (n := 11) dX8_sizeOf_10 rfl rfl ?_
    refine xr_iload_n (n := 12) dX8_sizeOf_11 rfl rfl ?_
    refine xr_bipush (v := nI 6) (n := 14) dX8_sizeOf_12 (by decide) rfl ?_
    refine xr_callV (y2 := mX8_of) (As := [_, _]) (n := 17) dX8_sizeOf_14 lm_X8_124 pm_X8_of pi_X8_of (by first | exact mput_0 _ _ _ | exact mput_r (by decide)) rfl rfl rfl (by simp [Value.category]) rfl ⟨Nat.le_refl _, Nat.le_refl _⟩ ?_
    refine s_X8_of (by omega) (by omega) ?_
    dsimp only [xK, xps]
    try simp (disch := omega) only [nI_clamp, pk_mul, nI_add, oi1, up2_a, ur_a, Nat.reduceEqDiff, Nat.reduceMul, Nat.reduceAdd, reduceIte, if_pos, if_neg, g0, g1, g2, g3, g4, g5, g6]
    refine xr_iload_n (n := 18) dX8_sizeOf_17 rfl rfl ?_
    refine xr_isub (n := 19) dX8_sizeOf_18 rfl ?_
    try simp (disch := omega) only [nI_clamp, pk_mul, nI_add, oi1, up2_a, ur_a, Nat.reduceEqDiff, Nat.reduceMul, Nat.reduceAdd, reduceIte, if_pos, if_neg, g0, g1, g2, g3, g4, g5, g6]
    refine xr_goto (n := 23) dX8_sizeOf_19 (by decide) ?_
    refine xr_ireturn dX8_sizeOf_23 rfl rfl rfl ?_
    refine qi hq ?_
    first | (rw [if_neg (by ((try simp (disch := omega) only [i_lt, i_le, i_eq, nt, i_m1, Int32.toInt_zero] at *); omega))]; done) | (rw [if_pos (show 3 ≤ P s 0 by ((try simp (disch := omega) only [i_lt, i_le, i_eq, nt, i_m1, Int32.toInt_zero] at *); omega))]; exact (pk_sub (Nat.le_of_lt (k6 (by ((try simp (disch := omega) only [i_lt, i_le, i_eq, nt, i_m1, Int32.toInt_zero] at *); omega))).1)).symm)

theorem s_X8_sets {G : xG} {d : Nat} {f : Nat → xC} {r : Nat × Nat} {Q : Option Value → xM → Prop} {m : Nat} {μ : xS} {sd : Nat} {n s : Nat} {P : Nat → Nat → Nat} (hsd : sd ≤ 1) (hP : isPg (μ 5) n P) (hO : okP n P) (hs : s < n) (hq : Q none (mput f m (msets μ sd (P s 1) (P s 2) (P s 3) (P s 4)), r)) : xMet G (d + 1) mX8_sets [.ref m, .int (nI sd), .int (nI s)] (mput f m μ, r) r Q := by
  refine xMet_0 (by decide +kernel) rfl (Nat.le_of_ble_eq_true rfl) ?_
  show xX G (d + 1) mX8_sets r r (xΦ G r r Q) 0 [(0, .ref m), (1, .int (nI sd)), (2, .int (nI s))] [] (mput f m μ, r)
  have hn6 := hO.1
  obtain ⟨k0, k1, k2, k3, k4, k6, k5⟩ := hO.2 s hs
  unfold okT at k3 k4
  have g0 := hP.g (w := 0) hs (by omega)
  have g1 := hP.g (w := 1) hs (by omega)
  have g2 := hP.g (w := 2) hs (by omega)
  have g3 := hP.g (w := 3) hs (by omega)
  have g4 := hP.g (w := 4) hs (by omega)
  have g5 := hP.g (w := 5) hs (by omega)
  have g6 := hP.g (w := 6) hs (by omega)
  refine xr_aload_n (n := 1) dX8_sets_0 rfl rfl ?_
  refine xr_iload_n (n := 2) dX8_sets_1 rfl rfl ?_
  refine xr_aload_n (n := 3) dX8_sets_2 rfl rfl ?_
  refine xr_iload_n (n := 4) dX8_sets_3 rfl rfl ?_
  refine xr_iconst (v := nI 3) (n := 5) dX8_sets_4 (by decide) rfl ?_
  refine xr_callV (y2 := mX8_of) (As := [_, _]) (n := 8) dX8_sets_5 lm_X8_124 pm_X8_of pi_X8_of (by first | exact mput_0 _ _ _ | exact mput_r (by decide)) rfl rfl rfl (by simp [Value.category]) rfl ⟨Nat.le_refl _, Nat.le_refl _⟩ ?_
  refine s_X8_of (by omega) (by omega) ?_
  dsimp only [xK, xps]
  try simp (disch := omega) only [nI_clamp, pk_mul, nI_add, oi1, up2_a, ur_a, Nat.reduceEqDiff, Nat.reduceMul, Nat.reduceAdd, reduceIte, if_pos, if_neg, g0, g1, g2, g3, g4, g5, g6]
  refine xr_callV (y2 := mX8_term) (As := [_, _]) (n := 11) dX8_sets_8 lm_X8_146 pm_X8_term pi_X8_term (by first | exact mput_0 _ _ _ | exact mput_r (by decide)) rfl rfl rfl (by simp [Value.category]) rfl ⟨Nat.le_refl _, Nat.le_refl _⟩ ?_
  refine s_X8_term (by omega) (by omega) (by omega) ?_
  rw [show (if P s 3 < 10 then μ 9 (6 * sd + P s 3) else nI (P s 3 - 10)) = mterm μ sd (P s 3) from rfl]
  dsimp only [xK, xps]
  refine xq_istore_n 3 (n := 12) dX8_sets_11 rfl rfl rfl ?_
  simp only [xst, Nat.beq, List.filter, Bool.not_true, Bool.not_false]
  refine xr_aload_n (n := 13) dX8_sets_12 rfl rfl ?_
  refine xr_iload_n (n := 14) dX8_sets_13 rfl rfl ?_
  refine xr_iconst (v := nI 2) (n := 15) dX8_sets_14 (by decide) rfl ?_
  refine xr_callV (y2 := mX8_of) (As := [_, _]) (n := 18) dX8_sets_15 lm_X8_124 pm_X8_of pi_X8_of (by first | exact mput_0 _ _ _ | exact mput_r (by decide)) rfl rfl rfl (by simp [Value.category]) rfl ⟨Nat.le_refl _, Nat.le_refl _⟩ ?_
  refine s_X8_of (by omega) (by omega) ?_
  dsimp only [xK, xps]
  try simp (disch := omega) only [nI_clamp, pk_mul, nI_add, oi1, up2_a, ur_a, Nat.reduceEqDiff, Nat.reduceMul, Nat.reduceAdd, reduceIte, if_pos, if_neg, g0, g1, g2, g3, g4, g5, g6]
  refine xr_istore (n := 20) dX8_sets_18 rfl rfl ?_
  simp only [xst, Nat.beq, List.filter, Bool.not_true, Bool.not_false]
  refine xr_iload (n := 22) dX8_sets_20 rfl rfl ?_
  refine xr_if_ne (tgt := 29) (n := 25) dX8_sets_22 (by decide) rfl (fun h22 => ?_) (fun h22 => ?_)
  · refine xr_aload_n (n := 30) dX8_sets_29 rfl rfl ?_
    refine xr_iload_n (n := 31) dX8_sets_30 rfl rfl ?_
    refine xr_aload_n (n := 32) dX8_sets_31 rfl rfl ?_
    refine xr_iload_n (n := 33) dX8_sets_32 rfl rfl ?_
    refine xr_iconst (v := nI 4) (n := 34) dX8_sets_33 (by decide) rfl ?_
    refine xr_callV (y2 := mX8_of) (As := [_, _]) (n := 37) dX8_sets_34 lm_X8_124 pm_X8_of pi_X8_of (by first | exact mput_0 _ _ _ | exact mput_r (by decide)) rfl rfl rfl (by simp [Value.category]) rfl ⟨Nat.le_refl _, Nat.le_refl _⟩ ?_
    refine s_X8_of (by omega) (by omega) ?_
    dsimp only [xK, xps]
    try simp (disch := omega) only [nI_clamp, pk_mul, nI_add, oi1, up2_a, ur_a, Nat.reduceEqDiff, Nat.reduceMul, Nat.reduceAdd, reduceIte, if_pos, if_neg, g0, g1, g2, g3, g4, g5, g6]
    refine xr_callV (y2 := mX8_term) (As := [_, _]) (n := 40) dX8_sets_37 lm_X8_146 pm_X8_term pi_X8_term (by first | exact mput_0 _ _ _ | exact mput_r (by decide)) rfl rfl rfl (by simp [Value.category]) rfl ⟨Nat.le_refl _, Nat.le_refl _⟩ ?_
    refine s_X8_term (by omega) (by omega) (by omega) ?_
    rw [show (if P s 4 < 10 then μ 9 (6 * sd + P s 4) else nI (P s 4 - 10)) = mterm μ sd (P s 4) from rfl]
    dsimp only [xK, xps]
    refine xr_istore (n := 42) dX8_sets_40 rfl rfl ?_
    simp only [xst, Nat.beq, List.filter, Bool.not_true, Bool.not_false]
    refine xr_iload (n := 44) dX8_sets_42 rfl rfl ?_
    refine xr_if_ne (tgt := 51) (n := 47) dX8_sets_44 (by decide) rfl (fun h44 => ?_) (fun h44 => ?_)
    · refine xr_iload (n := 53) dX8_sets_51 rfl rfl ?_
      refine xr_bipush (v := nI 43) (n := 55) dX8_sets_53 (by decide) rfl ?_
      refine xr_icmp_ne (tgt := 65) (n := 58) dX8_sets_55 (by decide) rfl (fun h55 => ?_) (fun h55 => ?_)
      · refine xr_iload (n := 67) dX8_sets_65 rfl rfl ?_
        refine xr_bipush (v := nI 45) (n := 69) dX8_sets_67 (by decide) rfl ?_
        refine xr_icmp_ne (tgt := 79) (n := 72) dX8_sets_69 (by decide) rfl (fun h69 => ?_) (fun h69 => ?_)
        · refine xr_iload_n (n := 80) dX8_sets_79 rfl rfl ?_
          refine xr_iload (n := 82) dX8_sets_80 rfl rfl ?_
          refine xr_imul (n := 83) dX8_sets_82 rfl ?_
          try simp (disch := omega) only [nI_clamp, pk_mul, nI_add, oi1, up2_a, ur_a, Nat.reduceEqDiff, Nat.reduceMul, Nat.reduceAdd, reduceIte, if_pos, if_neg, g0, g1, g2, g3, g4, g5, g6]
          refine xr_istore (n := 85) dX8_sets_83 rfl rfl ?_
          simp only [xst, Nat.beq, List.filter, Bool.not_true, Bool.not_false]
          refine xr_aload_n (n := 86) dX8_sets_85 rfl rfl ?_
          refine xr_get (n := 89) dX8_sets_86 fl_X8_28 (by first | exact mput_0 _ _ _ | exact mput_r (by decide)) (by rfl) rfl ?_
          refine xr_bipush (v := nI 6) (n := 91) dX8_sets_89 (by decide) rfl ?_
          refine xr_iload_n (n := 92) dX8_sets_91 rfl rfl ?_
          refine xr_imul (n := 93) dX8_sets_92 rfl ?_
          try simp (disch := omega) only [nI_clamp, pk_mul, nI_add, oi1, up2_a, ur_a, Nat.reduceEqDiff, Nat.reduceMul, Nat.reduceAdd, reduceIte, if_pos, if_neg, g0, g1, g2, g3, g4, g5, g6]
          refine xr_aload_n (n := 94) dX8_sets_93 rfl rfl ?_
          refine xr_iload_n (n := 95) dX8_sets_94 rfl rfl ?_
          refine xr_iconst (v := nI 1) (n := 96) dX8_sets_95 (by decide) rfl ?_
          refine xr_callV (y2 := mX8_of) (As := [_, _]) (n := 99) dX8_sets_96 lm_X8_124 pm_X8_of pi_X8_of (by first | exact mput_0 _ _ _ | exact mput_r (by decide)) rfl rfl rfl (by simp [Value.category]) rfl ⟨Nat.le_refl _, Nat.le_refl _⟩ ?_
          refine s_X8_of (by omega) (by omega) ?_
          dsimp only [xK, xps]
          try simp (disch := omega) only [nI_clamp, pk_mul, nI_add, oi1, up2_a, ur_a, Nat.reduceEqDiff, Nat.reduceMul, Nat.reduceAdd, reduceIte, if_pos, if_neg, g0, g1, g2, g3, g4, g5, g6]
          refine xr_iadd (n := 100) dX8_sets_99 rfl ?_
          try simp (disch := omega) only [nI_clamp, pk_mul, nI_add, oi1, up2_a, ur_a, Nat.reduceEqDiff, Nat.reduceMul, Nat.reduceAdd, reduceIte, if_pos, if_neg, g0, g1, g2, g3, g4, g5, g6]
          refine xr_iload (n := 102) dX8_sets_100 rfl rfl ?_
          refine xr_callS (y2 := mX8_held) (As := [_]) (n := 105) dX8_sets_102 lm_X8_149 pm_X8_held kp_static_yX8_held rfl rfl (by simp [Value.category]) rfl ⟨Nat.le_refl _, Nat.le_refl _⟩ ?_
          refine s_X8_held ?_
          dsimp only [xK, xps]
          refine xq_iastore (n := 106) dX8_sets_105 (by first | exact mput_0 _ _ _ | exact mput_r (by decide)) (by first | exact vp_in_nI (by omega) (by omega)) rfl ?_
          simp (disch := omega) only [nI_clamp, List.set, mw_0, mw_1, mw_2, mw_3, mw_4, mw_5, mw_6, mw_7, mw_8, mw_9, mw_10, mw_11, mw_12, mw_13, mw_14, mw_15, mw_16, mw_17, mw_18, mw_19]
          refine xr_return dX8_sets_106 rfl rfl ?_
          refine qm hq ?_
          unfold msets mval
          first | (exfalso; first | exact h44 h22 | exact h22 h44) | (rw [if_pos (by ((try simp (disch := omega) only [i_lt, i_le, i_eq, nt, i_m1, Int32.toInt_zero] at *); omega))]; done) | (rw [if_neg (by ((try simp (disch := omega) only [i_lt, i_le, i_eq, nt, i_m1, Int32.toInt_zero] at *); omega)), if_pos (by ((try simp (disch := omega) only [i_lt, i_le, i_eq, nt, i_m1, Int32.toInt_zero] at *); omega))]; done) | (rw [if_neg (by ((try simp (disch := omega) only [i_lt, i_le, i_eq, nt, i_m1, Int32.toInt_zero] at *); omega)), if_neg (by ((try simp (disch := omega) only [i_lt, i_le, i_eq, nt, i_m1, Int32.toInt_zero] at *); omega)), if_pos (by ((try simp (disch := omega) only [i_lt, i_le, i_eq, nt, i_m1, Int32.toInt_zero] at *); omega))]; done) | (rw [if_neg (by ((try simp (disch := omega) only [i_lt, i_le, i_eq, nt, i_m1, Int32.toInt_zero] at *); omega)), if_neg (by ((try simp (disch := omega) only [i_lt, i_le, i_eq, nt, i_m1, Int32.toInt_zero] at *); omega)), if_neg (by ((try simp (disch := omega) only [i_lt, i_le, i_eq, nt, i_m1, Int32.toInt_zero] at *); omega))]; done)
        · refine xr_iload_n (n := 73) dX8_sets_72 rfl rfl ?_
          refine xr_iload (n := 75) dX8_sets_73 rfl rfl ?_
          refine xr_isub (n := 76) dX8_sets_75 rfl ?_
          try simp (disch := omega) only [nI_clamp, pk_mul, nI_add, oi1, up2_a, ur_a, Nat.reduceEqDiff, Nat.reduceMul, Nat.reduceAdd, reduceIte, if_pos, if_neg, g0, g1, g2, g3, g4, g5, g6]
          refine xr_goto (n := 83) dX8_sets_76 (by decide) ?_
          refine xr_istore (n := 85) dX8_sets_83 rfl rfl ?_
          simp only [xst, Nat.beq, List.filter, Bool.not_true, Bool.not_false]
          refine xr_aload_n (n := 86) dX8_sets_85 rfl rfl ?_
          refine xr_get (n := 89) dX8_sets_86 fl_X8_28 (by first | exact mput_0 _ _ _ | exact mput_r (by decide)) (by rfl) rfl ?_
          refine xr_bipush (v := nI 6) (n := 91) dX8_sets_89 (by decide) rfl ?_
          refine xr_iload_n (n := 92) dX8_sets_91 rfl rfl ?_
          refine xr_imul (n := 93) dX8_sets_92 rfl ?_
          try simp (disch := omega) only [nI_clamp, pk_mul, nI_add, oi1, up2_a, ur_a, Nat.reduceEqDiff, Nat.reduceMul, Nat.reduceAdd, reduceIte, if_pos, if_neg, g0, g1, g2, g3, g4, g5, g6]
          refine xr_aload_n (n := 94) dX8_sets_93 rfl rfl ?_
          refine xr_iload_n (n := 95) dX8_sets_94 rfl rfl ?_
          refine xr_iconst (v := nI 1) (n := 96) dX8_sets_95 (by decide) rfl ?_
          refine xr_callV (y2 := mX8_of) (As := [_, _]) (n := 99) dX8_sets_96 lm_X8_124 pm_X8_of pi_X8_of (by first | exact mput_0 _ _ _ | exact mput_r (by decide)) rfl rfl rfl (by simp [Value.category]) rfl ⟨Nat.le_refl _, Nat.le_refl _⟩ ?_
          refine s_X8_of (by omega) (by omega) ?_
          dsimp only [xK, xps]
          try simp (disch := omega) only [nI_clamp, pk_mul, nI_add, oi1, up2_a, ur_a, Nat.reduceEqDiff, Nat.reduceMul, Nat.reduceAdd, reduceIte, if_pos, if_neg, g0, g1, g2, g3, g4, g5, g6]
          refine xr_iadd (n := 100) dX8_sets_99 rfl ?_
          try simp (disch := omega) only [nI_clamp, pk_mul, nI_add, oi1, up2_a, ur_a, Nat.reduceEqDiff, Nat.reduceMul, Nat.reduceAdd, reduceIte, if_pos, if_neg, g0, g1, g2, g3, g4, g5, g6]
          refine xr_iload (n := 102) dX8_sets_100 rfl rfl ?_
          refine xr_callS (y2 := mX8_held) (As := [_]) (n := 105) dX8_sets_102 lm_X8_149 pm_X8_held kp_static_yX8_held rfl rfl (by simp [Value.category]) rfl ⟨Nat.le_refl _, Nat.le_refl _⟩ ?_
          refine s_X8_held ?_
          dsimp only [xK, xps]
          refine xq_iastore (n := 106) dX8_sets_105 (by first | exact mput_0 _ _ _ | exact mput_r (by decide)) (by first | exact vp_in_nI (by omega) (by omega)) rfl ?_
          simp (disch := omega) only [nI_clamp, List.set, mw_0, mw_1, mw_2, mw_3, mw_4, mw_5, mw_6, mw_7, mw_8, mw_9, mw_10, mw_11, mw_12, mw_13, mw_14, mw_15, mw_16, mw_17, mw_18, mw_19]
          refine xr_return dX8_sets_106 rfl rfl ?_
          refine qm hq ?_
          unfold msets mval
          first | (exfalso; first | exact h44 h22 | exact h22 h44) | (rw [if_pos (by ((try simp (disch := omega) only [i_lt, i_le, i_eq, nt, i_m1, Int32.toInt_zero] at *); omega))]; done) | (rw [if_neg (by ((try simp (disch := omega) only [i_lt, i_le, i_eq, nt, i_m1, Int32.toInt_zero] at *); omega)), if_pos (by ((try simp (disch := omega) only [i_lt, i_le, i_eq, nt, i_m1, Int32.toInt_zero] at *); omega))]; done) | (rw [if_neg (by ((try simp (disch := omega) only [i_lt, i_le, i_eq, nt, i_m1, Int32.toInt_zero] at *); omega)), if_neg (by ((try simp (disch := omega) only [i_lt, i_le, i_eq, nt, i_m1, Int32.toInt_zero] at *); omega)), if_pos (by ((try simp (disch := omega) only [i_lt, i_le, i_eq, nt, i_m1, Int32.toInt_zero] at *); omega))]; done) | (rw [if_neg (by ((try simp (disch := omega) only [i_lt, i_le, i_eq, nt, i_m1, Int32.toInt_zero] at *); omega)), if_neg (by ((try simp (disch := omega) only [i_lt, i_le, i_eq, nt, i_m1, Int32.toInt_zero] at *); omega)), if_neg (by ((try simp (disch := omega) only [i_lt, i_le, i_eq, nt, i_m1, Int32.toInt_zero] at *); omega))]; done)
      · refine xr_iload_n (n := 59) dX8_sets_58 rfl rfl ?_
        refine xr_iload (n := 61) dX8_sets_59 rfl rfl ?_
        refine xr_iadd (n := 62) dX8_sets_61 rfl ?_
        try simp (disch := omega) only [nI_clamp, pk_mul, nI_add, oi1, up2_a, ur_a, Nat.reduceEqDiff, Nat.reduceMul, Nat.reduceAdd, reduceIte, if_pos, if_neg, g0, g1, g2, g3, g4, g5, g6]
        refine xr_goto (n := 83) dX8_sets_62 (by decide) ?_
        refine xr_istore (n := 85) dX8_sets_83 rfl rfl ?_
        simp only [xst, Nat.beq, List.filter, Bool.not_true, Bool.not_false]
        refine xr_aload_n (n := 86) dX8_sets_85 rfl rfl ?_
        refine xr_get (n := 89) dX8_sets_86 fl_X8_28 (by first | exact mput_0 _ _ _ | exact mput_r (by decide)) (by rfl) rfl ?_
        refine xr_bipush (v := nI 6) (n := 91) dX8_sets_89 (by decide) rfl ?_
        refine xr_iload_n (n := 92) dX8_sets_91 rfl rfl ?_
        refine xr_imul (n := 93) dX8_sets_92 rfl ?_
        try simp (disch := omega) only [nI_clamp, pk_mul, nI_add, oi1, up2_a, ur_a, Nat.reduceEqDiff, Nat.reduceMul, Nat.reduceAdd, reduceIte, if_pos, if_neg, g0, g1, g2, g3, g4, g5, g6]
        refine xr_aload_n (n := 94) dX8_sets_93 rfl rfl ?_
        refine xr_iload_n (n := 95) dX8_sets_94 rfl rfl ?_
        refine xr_iconst (v := nI 1) (n := 96) dX8_sets_95 (by decide) rfl ?_
        refine xr_callV (y2 := mX8_of) (As := [_, _]) (n := 99) dX8_sets_96 lm_X8_124 pm_X8_of pi_X8_of (by first | exact mput_0 _ _ _ | exact mput_r (by decide)) rfl rfl rfl (by simp [Value.category]) rfl ⟨Nat.le_refl _, Nat.le_refl _⟩ ?_
        refine s_X8_of (by omega) (by omega) ?_
        dsimp only [xK, xps]
        try simp (disch := omega) only [nI_clamp, pk_mul, nI_add, oi1, up2_a, ur_a, Nat.reduceEqDiff, Nat.reduceMul, Nat.reduceAdd, reduceIte, if_pos, if_neg, g0, g1, g2, g3, g4, g5, g6]
        refine xr_iadd (n := 100) dX8_sets_99 rfl ?_
        try simp (disch := omega) only [nI_clamp, pk_mul, nI_add, oi1, up2_a, ur_a, Nat.reduceEqDiff, Nat.reduceMul, Nat.reduceAdd, reduceIte, if_pos, if_neg, g0, g1, g2, g3, g4, g5, g6]
        refine xr_iload (n := 102) dX8_sets_100 rfl rfl ?_
        refine xr_callS (y2 := mX8_held) (As := [_]) (n := 105) dX8_sets_102 lm_X8_149 pm_X8_held kp_static_yX8_held rfl rfl (by simp [Value.category]) rfl ⟨Nat.le_refl _, Nat.le_refl _⟩ ?_
        refine s_X8_held ?_
        dsimp only [xK, xps]
        refine xq_iastore (n := 106) dX8_sets_105 (by first | exact mput_0 _ _ _ | exact mput_r (by decide)) (by first | exact vp_in_nI (by omega) (by omega)) rfl ?_
        simp (disch := omega) only [nI_clamp, List.set, mw_0, mw_1, mw_2, mw_3, mw_4, mw_5, mw_6, mw_7, mw_8, mw_9, mw_10, mw_11, mw_12, mw_13, mw_14, mw_15, mw_16, mw_17, mw_18, mw_19]
        refine xr_return dX8_sets_106 rfl rfl ?_
        refine qm hq ?_
        unfold msets mval
        first | (exfalso; first | exact h44 h22 | exact h22 h44) | (rw [if_pos (by ((try simp (disch := omega) only [i_lt, i_le, i_eq, nt, i_m1, Int32.toInt_zero] at *); omega))]; done) | (rw [if_neg (by ((try simp (disch := omega) only [i_lt, i_le, i_eq, nt, i_m1, Int32.toInt_zero] at *); omega)), if_pos (by ((try simp (disch := omega) only [i_lt, i_le, i_eq, nt, i_m1, Int32.toInt_zero] at *); omega))]; done) | (rw [if_neg (by ((try simp (disch := omega) only [i_lt, i_le, i_eq, nt, i_m1, Int32.toInt_zero] at *); omega)), if_neg (by ((try simp (disch := omega) only [i_lt, i_le, i_eq, nt, i_m1, Int32.toInt_zero] at *); omega)), if_pos (by ((try simp (disch := omega) only [i_lt, i_le, i_eq, nt, i_m1, Int32.toInt_zero] at *); omega))]; done) | (rw [if_neg (by ((try simp (disch := omega) only [i_lt, i_le, i_eq, nt, i_m1, Int32.toInt_zero] at *); omega)), if_neg (by ((try simp (disch := omega) only [i_lt, i_le, i_eq, nt, i_m1, Int32.toInt_zero] at *); omega)), if_neg (by ((try simp (disch := omega) only [i_lt, i_le, i_eq, nt, i_m1, Int32.toInt_zero] at *); omega))]; done)
    · refine xr_iload_n (n := 48) dX8_sets_47 rfl rfl ?_
      refine xr_goto (n := 83) dX8_sets_48 (by decide) ?_
      refine xr_istore (n := 85) dX8_sets_83 rfl rfl ?_
      simp only [xst, Nat.beq, List.filter, Bool.not_true, Bool.not_false]
      refine xr_aload_n (n := 86) dX8_sets_85 rfl rfl ?_
      refine xr_get (n := 89) dX8_sets_86 fl_X8_28 (by first | exact mput_0 _ _ _ | exact mput_r (by decide)) (by rfl) rfl ?_
      refine xr_bipush (v := nI 6) (n := 91) dX8_sets_89 (by decide) rfl ?_
      refine xr_iload_n (n := 92) dX8_sets_91 rfl rfl ?_
      refine xr_imul (n := 93) dX8_sets_92 rfl ?_
      try simp (disch := omega) only [nI_clamp, pk_mul, nI_add, oi1, up2_a, ur_a, Nat.reduceEqDiff, Nat.reduceMul, Nat.reduceAdd, reduceIte, if_pos, if_neg, g0, g1, g2, g3, g4, g5, g6]
      refine xr_aload_n (n := 94) dX8_sets_93 rfl rfl ?_
      refine xr_iload_n (n := 95) dX8_sets_94 rfl rfl ?_
      refine xr_iconst (v := nI 1) (n := 96) dX8_sets_95 (by decide) rfl ?_
      refine xr_callV (y2 := mX8_of) (As := [_, _]) (n := 99) dX8_sets_96 lm_X8_124 pm_X8_of pi_X8_of (by first | exact mput_0 _ _ _ | exact mput_r (by decide)) rfl rfl rfl (by simp [Value.category]) rfl ⟨Nat.le_refl _, Nat.le_refl _⟩ ?_
      refine s_X8_of (by omega) (by omega) ?_
      dsimp only [xK, xps]
      try simp (disch := omega) only [nI_clamp, pk_mul, nI_add, oi1, up2_a, ur_a, Nat.reduceEqDiff, Nat.reduceMul, Nat.reduceAdd, reduceIte, if_pos, if_neg, g0, g1, g2, g3, g4, g5, g6]
      refine xr_iadd (n := 100) dX8_sets_99 rfl ?_
      try simp (disch := omega) only [nI_clamp, pk_mul, nI_add, oi1, up2_a, ur_a, Nat.reduceEqDiff, Nat.reduceMul, Nat.reduceAdd, reduceIte, if_pos, if_neg, g0, g1, g2, g3, g4, g5, g6]
      refine xr_iload (n := 102) dX8_sets_100 rfl rfl ?_
      refine xr_callS (y2 := mX8_held) (As := [_]) (n := 105) dX8_sets_102 lm_X8_149 pm_X8_held kp_static_yX8_held rfl rfl (by simp [Value.category]) rfl ⟨Nat.le_refl _, Nat.le_refl _⟩ ?_
      refine s_X8_held ?_
      dsimp only [xK, xps]
      refine xq_iastore (n := 106) dX8_sets_105 (by first | exact mput_0 _ _ _ | exact mput_r (by decide)) (by first | exact vp_in_nI (by omega) (by omega)) rfl ?_
      simp (disch := omega) only [nI_clamp, List.set, mw_0, mw_1, mw_2, mw_3, mw_4, mw_5, mw_6, mw_7, mw_8, mw_9, mw_10, mw_11, mw_12, mw_13, mw_14, mw_15, mw_16, mw_17, mw_18, mw_19]
      refine xr_return dX8_sets_106 rfl rfl ?_
      refine qm hq ?_
      unfold msets mval
      first | (exfalso; first | exact h44 h22 | exact h22 h44) | (rw [if_pos (by ((try simp (disch := omega) only [i_lt, i_le, i_eq, nt, i_m1, Int32.toInt_zero] at *); omega))]; done) | (rw [if_neg (by ((try simp (disch := omega) only [i_lt, i_le, i_eq, nt, i_m1, Int32.toInt_zero] at *); omega)), if_pos (by ((try simp (disch := omega) only [i_lt, i_le, i_eq, nt, i_m1, Int32.toInt_zero] at *); omega))]; done) | (rw [if_neg (by ((try simp (disch := omega) only [i_lt, i_le, i_eq, nt, i_m1, Int32.toInt_zero] at *); omega)), if_neg (by ((try simp (disch := omega) only [i_lt, i_le, i_eq, nt, i_m1, Int32.toInt_zero] at *); omega)), if_pos (by ((try simp (disch := omega) only [i_lt, i_le, i_eq, nt, i_m1, Int32.toInt_zero] at *); omega))]; done) | (rw [if_neg (by ((try simp (disch := omega) only [i_lt, i_le, i_eq, nt, i_m1, Int32.toInt_zero] at *); omega)), if_neg (by ((try simp (disch := omega) only [i_lt, i_le, i_eq, nt, i_m1, Int32.toInt_zero] at *); omega)), if_neg (by ((try simp (disch := omega) only [i_lt, i_le, i_eq, nt, i_m1, Int32.toInt_zero] at *); omega))]; done)
  · refine xr_iconst (v := nI 0) (n := 26) dX8_sets_25 (by decide) rfl ?_
    refine xr_goto (n := 40) dX8_sets_26 (by decide) ?_
    refine xr_istore (n := 42) dX8_sets_40 rfl rfl ?_
    simp only [xst, Nat.beq, List.filter, Bool.not_true, Bool.not_false]
    refine xr_iload (n := 44) dX8_sets_42 rfl rfl ?_
    refine xr_if_ne (tgt := 51) (n := 47) dX8_sets_44 (by decide) rfl (fun h44 => ?_) (fun h44 => ?_)
    · refine xr_iload (n := 53) dX8_sets_51 rfl rfl ?_
      refine xr_bipush (v := nI 43) (n := 55) dX8_sets_53 (by decide) rfl ?_
      refine xr_icmp_ne (tgt := 65) (n := 58) dX8_sets_55 (by decide) rfl (fun h55 => ?_) (fun h55 => ?_)
      · refine xr_iload (n := 67) dX8_sets_65 rfl rfl ?_
        refine xr_bipush (v := nI 45) (n := 69) dX8_sets_67 (by decide) rfl ?_
        refine xr_icmp_ne (tgt := 79) (n := 72) dX8_sets_69 (by decide) rfl (fun h69 => ?_) (fun h69 => ?_)
        · refine xr_iload_n (n := 80) dX8_sets_79 rfl rfl ?_
          refine xr_iload (n := 82) dX8_sets_80 rfl rfl ?_
          refine xr_imul (n := 83) dX8_sets_82 rfl ?_
          try simp (disch := omega) only [nI_clamp, pk_mul, nI_add, oi1, up2_a, ur_a, Nat.reduceEqDiff, Nat.reduceMul, Nat.reduceAdd, reduceIte, if_pos, if_neg, g0, g1, g2, g3, g4, g5, g6]
          refine xr_istore (n := 85) dX8_sets_83 rfl rfl ?_
          simp only [xst, Nat.beq, List.filter, Bool.not_true, Bool.not_false]
          refine xr_aload_n (n := 86) dX8_sets_85 rfl rfl ?_
          refine xr_get (n := 89) dX8_sets_86 fl_X8_28 (by first | exact mput_0 _ _ _ | exact mput_r (by decide)) (by rfl) rfl ?_
          refine xr_bipush (v := nI 6) (n := 91) dX8_sets_89 (by decide) rfl ?_
          refine xr_iload_n (n := 92) dX8_sets_91 rfl rfl ?_
          refine xr_imul (n := 93) dX8_sets_92 rfl ?_
          try simp (disch := omega) only [nI_clamp, pk_mul, nI_add, oi1, up2_a, ur_a, Nat.reduceEqDiff, Nat.reduceMul, Nat.reduceAdd, reduceIte, if_pos, if_neg, g0, g1, g2, g3, g4, g5, g6]
          refine xr_aload_n (n := 94) dX8_sets_93 rfl rfl ?_
          refine xr_iload_n (n := 95) dX8_sets_94 rfl rfl ?_
          refine xr_iconst (v := nI 1) (n := 96) dX8_sets_95 (by decide) rfl ?_
          refine xr_callV (y2 := mX8_of) (As := [_, _]) (n := 99) dX8_sets_96 lm_X8_124 pm_X8_of pi_X8_of (by first | exact mput_0 _ _ _ | exact mput_r (by decide)) rfl rfl rfl (by simp [Value.category]) rfl ⟨Nat.le_refl _, Nat.le_refl _⟩ ?_
          refine s_X8_of (by omega) (by omega) ?_
          dsimp only [xK, xps]
          try simp (disch := omega) only [nI_clamp, pk_mul, nI_add, oi1, up2_a, ur_a, Nat.reduceEqDiff, Nat.reduceMul, Nat.reduceAdd, reduceIte, if_pos, if_neg, g0, g1, g2, g3, g4, g5, g6]
          refine xr_iadd (n := 100) dX8_sets_99 rfl ?_
          try simp (disch := omega) only [nI_clamp, pk_mul, nI_add, oi1, up2_a, ur_a, Nat.reduceEqDiff, Nat.reduceMul, Nat.reduceAdd, reduceIte, if_pos, if_neg, g0, g1, g2, g3, g4, g5, g6]
          refine xr_iload (n := 102) dX8_sets_100 rfl rfl ?_
          refine xr_callS (y2 := mX8_held) (As := [_]) (n := 105) dX8_sets_102 lm_X8_149 pm_X8_held kp_static_yX8_held rfl rfl (by simp [Value.category]) rfl ⟨Nat.le_refl _, Nat.le_refl _⟩ ?_
          refine s_X8_held ?_
          dsimp only [xK, xps]
          refine xq_iastore (n := 106) dX8_sets_105 (by first | exact mput_0 _ _ _ | exact mput_r (by decide)) (by first | exact vp_in_nI (by omega) (by omega)) rfl ?_
          simp (disch := omega) only [nI_clamp, List.set, mw_0, mw_1, mw_2, mw_3, mw_4, mw_5, mw_6, mw_7, mw_8, mw_9, mw_10, mw_11, mw_12, mw_13, mw_14, mw_15, mw_16, mw_17, mw_18, mw_19]
          refine xr_return dX8_sets_106 rfl rfl ?_
          refine qm hq ?_
          unfold msets mval
          first | (exfalso; first | exact h44 h22 | exact h22 h44) | (rw [if_pos (by ((try simp (disch := omega) only [i_lt, i_le, i_eq, nt, i_m1, Int32.toInt_zero] at *); omega))]; done) | (rw [if_neg (by ((try simp (disch := omega) only [i_lt, i_le, i_eq, nt, i_m1, Int32.toInt_zero] at *); omega)), if_pos (by ((try simp (disch := omega) only [i_lt, i_le, i_eq, nt, i_m1, Int32.toInt_zero] at *); omega))]; done) | (rw [if_neg (by ((try simp (disch := omega) only [i_lt, i_le, i_eq, nt, i_m1, Int32.toInt_zero] at *); omega)), if_neg (by ((try simp (disch := omega) only [i_lt, i_le, i_eq, nt, i_m1, Int32.toInt_zero] at *); omega)), if_pos (by ((try simp (disch := omega) only [i_lt, i_le, i_eq, nt, i_m1, Int32.toInt_zero] at *); omega))]; done) | (rw [if_neg (by ((try simp (disch := omega) only [i_lt, i_le, i_eq, nt, i_m1, Int32.toInt_zero] at *); omega)), if_neg (by ((try simp (disch := omega) only [i_lt, i_le, i_eq, nt, i_m1, Int32.toInt_zero] at *); omega)), if_neg (by ((try simp (disch := omega) only [i_lt, i_le, i_eq, nt, i_m1, Int32.toInt_zero] at *); omega))]; done)
        · refine xr_iload_n (n := 73) dX8_sets_72 rfl rfl ?_
          refine xr_iload (n := 75) dX8_sets_73 rfl rfl ?_
          refine xr_isub (n := 76) dX8_sets_75 rfl ?_
          try simp (disch := omega) only [nI_clamp, pk_mul, nI_add, oi1, up2_a, ur_a, Nat.reduceEqDiff, Nat.reduceMul, Nat.reduceAdd, reduceIte, if_pos, if_neg, g0, g1, g2, g3, g4, g5, g6]
          refine xr_goto (n := 83) dX8_sets_76 (by decide) ?_
          refine xr_istore (n := 85) dX8_sets_83 rfl rfl ?_
          simp only [xst, Nat.beq, List.filter, Bool.not_true, Bool.not_false]
          refine xr_aload_n (n := 86) dX8_sets_85 rfl rfl ?_
          refine xr_get (n := 89) dX8_sets_86 fl_X8_28 (by first | exact mput_0 _ _ _ | exact mput_r (by decide)) (by rfl) rfl ?_
          refine xr_bipush (v := nI 6) (n := 91) dX8_sets_89 (by decide) rfl ?_
          refine xr_iload_n (n := 92) dX8_sets_91 rfl rfl ?_
          refine xr_imul (n := 93) dX8_sets_92 rfl ?_
          try simp (disch := omega) only [nI_clamp, pk_mul, nI_add, oi1, up2_a, ur_a, Nat.reduceEqDiff, Nat.reduceMul, Nat.reduceAdd, reduceIte, if_pos, if_neg, g0, g1, g2, g3, g4, g5, g6]
          refine xr_aload_n (n := 94) dX8_sets_93 rfl rfl ?_
          refine xr_iload_n (n := 95) dX8_sets_94 rfl rfl ?_
          refine xr_iconst (v := nI 1) (n := 96) dX8_sets_95 (by decide) rfl ?_
          refine xr_callV (y2 := mX8_of) (As := [_, _]) (n := 99) dX8_sets_96 lm_X8_124 pm_X8_of pi_X8_of (by first | exact mput_0 _ _ _ | exact mput_r (by decide)) rfl rfl rfl (by simp [Value.category]) rfl ⟨Nat.le_refl _, Nat.le_refl _⟩ ?_
          refine s_X8_of (by omega) (by omega) ?_
          dsimp only [xK, xps]
          try simp (disch := omega) only [nI_clamp, pk_mul, nI_add, oi1, up2_a, ur_a, Nat.reduceEqDiff, Nat.reduceMul, Nat.reduceAdd, reduceIte, if_pos, if_neg, g0, g1, g2, g3, g4, g5, g6]
          refine xr_iadd (n := 100) dX8_sets_99 rfl ?_
          try simp (disch := omega) only [nI_clamp, pk_mul, nI_add, oi1, up2_a, ur_a, Nat.reduceEqDiff, Nat.reduceMul, Nat.reduceAdd, reduceIte, if_pos, if_neg, g0, g1, g2, g3, g4, g5, g6]
          refine xr_iload (n := 102) dX8_sets_100 rfl rfl ?_
          refine xr_callS (y2 := mX8_held) (As := [_]) (n := 105) dX8_sets_102 lm_X8_149 pm_X8_held kp_static_yX8_held rfl rfl (by simp [Value.category]) rfl ⟨Nat.le_refl _, Nat.le_refl _⟩ ?_
          refine s_X8_held ?_
          dsimp only [xK, xps]
          refine xq_iastore (n := 106) dX8_sets_105 (by first | exact mput_0 _ _ _ | exact mput_r (by decide)) (by first | exact vp_in_nI (by omega) (by omega)) rfl ?_
          simp (disch := omega) only [nI_clamp, List.set, mw_0, mw_1, mw_2, mw_3, mw_4, mw_5, mw_6, mw_7, mw_8, mw_9, mw_10, mw_11, mw_12, mw_13, mw_14, mw_15, mw_16, mw_17, mw_18, mw_19]
          refine xr_return dX8_sets_106 rfl rfl ?_
          refine qm hq ?_
          unfold msets mval
          first | (exfalso; first | exact h44 h22 | exact h22 h44) | (rw [if_pos (by ((try simp (disch := omega) only [i_lt, i_le, i_eq, nt, i_m1, Int32.toInt_zero] at *); omega))]; done) | (rw [if_neg (by ((try simp (disch := omega) only [i_lt, i_le, i_eq, nt, i_m1, Int32.toInt_zero] at *); omega)), if_pos (by ((try simp (disch := omega) only [i_lt, i_le, i_eq, nt, i_m1, Int32.toInt_zero] at *); omega))]; done) | (rw [if_neg (by ((try simp (disch := omega) only [i_lt, i_le, i_eq, nt, i_m1, Int32.toInt_zero] at *); omega)), if_neg (by ((try simp (disch := omega) only [i_lt, i_le, i_eq, nt, i_m1, Int32.toInt_zero] at *); omega)), if_pos (by ((try simp (disch := omega) only [i_lt, i_le, i_eq, nt, i_m1, Int32.toInt_zero] at *); omega))]; done) | (rw [if_neg (by ((try simp (disch := omega) only [i_lt, i_le, i_eq, nt, i_m1, Int32.toInt_zero] at *); omega)), if_neg (by ((try simp (disch := omega) only [i_lt, i_le, i_eq, nt, i_m1, Int32.toInt_zero] at *); omega)), if_neg (by ((try simp (disch := omega) only [i_lt, i_le, i_eq, nt, i_m1, Int32.toInt_zero] at *); omega))]; done)
      · refine xr_iload_n (n := 59) dX8_sets_58 rfl rfl ?_
        refine xr_iload (n := 61) dX8_sets_59 rfl rfl ?_
        refine xr_iadd (n := 62) dX8_sets_61 rfl ?_
        try simp (disch := omega) only [nI_clamp, pk_mul, nI_add, oi1, up2_a, ur_a, Nat.reduceEqDiff, Nat.reduceMul, Nat.reduceAdd, reduceIte, if_pos, if_neg, g0, g1, g2, g3, g4, g5, g6]
        refine xr_goto (n := 83) dX8_sets_62 (by decide) ?_
        refine xr_istore (n := 85) dX8_sets_83 rfl rfl ?_
        simp only [xst, Nat.beq, List.filter, Bool.not_true, Bool.not_false]
        refine xr_aload_n (n := 86) dX8_sets_85 rfl rfl ?_
        refine xr_get (n := 89) dX8_sets_86 fl_X8_28 (by first | exact mput_0 _ _ _ | exact mput_r (by decide)) (by rfl) rfl ?_
        refine xr_bipush (v := nI 6) (n := 91) dX8_sets_89 (by decide) rfl ?_
        refine xr_iload_n (n := 92) dX8_sets_91 rfl rfl ?_
        refine xr_imul (n := 93) dX8_sets_92 rfl ?_
        try simp (disch := omega) only [nI_clamp, pk_mul, nI_add, oi1, up2_a, ur_a, Nat.reduceEqDiff, Nat.reduceMul, Nat.reduceAdd, reduceIte, if_pos, if_neg, g0, g1, g2, g3, g4, g5, g6]
        refine xr_aload_n (n := 94) dX8_sets_93 rfl rfl ?_
        refine xr_iload_n (n := 95) dX8_sets_94 rfl rfl ?_
        refine xr_iconst (v := nI 1) (n := 96) dX8_sets_95 (by decide) rfl ?_
        refine xr_callV (y2 := mX8_of) (As := [_, _]) (n := 99) dX8_sets_96 lm_X8_124 pm_X8_of pi_X8_of (by first | exact mput_0 _ _ _ | exact mput_r (by decide)) rfl rfl rfl (by simp [Value.category]) rfl ⟨Nat.le_refl _, Nat.le_refl _⟩ ?_
        refine s_X8_of (by omega) (by omega) ?_
        dsimp only [xK, xps]
        try simp (disch := omega) only [nI_clamp, pk_mul, nI_add, oi1, up2_a, ur_a, Nat.reduceEqDiff, Nat.reduceMul, Nat.reduceAdd, reduceIte, if_pos, if_neg, g0, g1, g2, g3, g4, g5, g6]
        refine xr_iadd (n := 100) dX8_sets_99 rfl ?_
        try simp (disch := omega) only [nI_clamp, pk_mul, nI_add, oi1, up2_a, ur_a, Nat.reduceEqDiff, Nat.reduceMul, Nat.reduceAdd, reduceIte, if_pos, if_neg, g0, g1, g2, g3, g4, g5, g6]
        refine xr_iload (n := 102) dX8_sets_100 rfl rfl ?_
        refine xr_callS (y2 := mX8_held) (As := [_]) (n := 105) dX8_sets_102 lm_X8_149 pm_X8_held kp_static_yX8_held rfl rfl (by simp [Value.category]) rfl ⟨Nat.le_refl _, Nat.le_refl _⟩ ?_
        refine s_X8_held ?_
        dsimp only [xK, xps]
        refine xq_iastore (n := 106) dX8_sets_105 (by first | exact mput_0 _ _ _ | exact mput_r (by decide)) (by first | exact vp_in_nI (by omega) (by omega)) rfl ?_
        simp (disch := omega) only [nI_clamp, List.set, mw_0, mw_1, mw_2, mw_3, mw_4, mw_5, mw_6, mw_7, mw_8, mw_9, mw_10, mw_11, mw_12, mw_13, mw_14, mw_15, mw_16, mw_17, mw_18, mw_19]
        refine xr_return dX8_sets_106 rfl rfl ?_
        refine qm hq ?_
        unfold msets mval
        first | (exfalso; first | exact h44 h22 | exact h22 h44) | (rw [if_pos (by ((try simp (disch := omega) only [i_lt, i_le, i_eq, nt, i_m1, Int32.toInt_zero] at *); omega))]; done) | (rw [if_neg (by ((try simp (disch := omega) only [i_lt, i_le, i_eq, nt, i_m1, Int32.toInt_zero] at *); omega)), if_pos (by ((try simp (disch := omega) only [i_lt, i_le, i_eq, nt, i_m1, Int32.toInt_zero] at *); omega))]; done) | (rw [if_neg (by ((try simp (disch := omega) only [i_lt, i_le, i_eq, nt, i_m1, Int32.toInt_zero] at *); omega)), if_neg (by ((try simp (disch := omega) only [i_lt, i_le, i_eq, nt, i_m1, Int32.toInt_zero] at *); omega)), if_pos (by ((try simp (disch := omega) only [i_lt, i_le, i_eq, nt, i_m1, Int32.toInt_zero] at *); omega))]; done) | (rw [if_neg (by ((try simp (disch := omega) only [i_lt, i_le, i_eq, nt, i_m1, Int32.toInt_zero] at *); omega)), if_neg (by ((try simp (disch := omega) only [i_lt, i_le, i_eq, nt, i_m1, Int32.toInt_zero] at *); omega)), if_neg (by ((try simp (disch := omega) only [i_lt, i_le, i_eq, nt, i_m1, Int32.toInt_zero] at *); omega))]; done)
    · refine xr_iload_n (n := 48) dX8_sets_47 rfl rfl ?_
      refine xr_goto (n := 83) dX8_sets_48 (by decide) ?_
      refine xr_istore (n := 85) dX8_sets_83 rfl rfl ?_
      simp only [xst, Nat.beq, List.filter, Bool.not_true, Bool.not_false]
      refine xr_aload_n (n := 86) dX8_sets_85 rfl rfl ?_
      refine xr_get (n := 89) dX8_sets_86 fl_X8_28 (by first | exact mput_0 _ _ _ | exact mput_r (by decide)) (by rfl) rfl ?_
      refine xr_bipush (v := nI 6) (n := 91) dX8_sets_89 (by decide) rfl ?_
      refine xr_iload_n (n := 92) dX8_sets_91 rfl rfl ?_
      refine xr_imul (n := 93) dX8_sets_92 rfl ?_
      try simp (disch := omega) only [nI_clamp, pk_mul, nI_add, oi1, up2_a, ur_a, Nat.reduceEqDiff, Nat.reduceMul, Nat.reduceAdd, reduceIte, if_pos, if_neg, g0, g1, g2, g3, g4, g5, g6]
      refine xr_aload_n (n := 94) dX8_sets_93 rfl rfl ?_
      refine xr_iload_n (n := 95) dX8_sets_94 rfl rfl ?_
      refine xr_iconst (v := nI 1) (n := 96) dX8_sets_95 (by decide) rfl ?_
      refine xr_callV (y2 := mX8_of) (As := [_, _]) (n := 99) dX8_sets_96 lm_X8_124 pm_X8_of pi_X8_of (by first | exact mput_0 _ _ _ | exact mput_r (by decide)) rfl rfl rfl (by simp [Value.category]) rfl ⟨Nat.le_refl _, Nat.le_refl _⟩ ?_
      refine s_X8_of (by omega) (by omega) ?_
      dsimp only [xK, xps]
      try simp (disch := omega) only [nI_clamp, pk_mul, nI_add, oi1, up2_a, ur_a, Nat.reduceEqDiff, Nat.reduceMul, Nat.reduceAdd, reduceIte, if_pos, if_neg, g0, g1, g2, g3, g4, g5, g6]
      refine xr_iadd (n := 100) dX8_sets_99 rfl ?_
      try simp (disch := omega) only [nI_clamp, pk_mul, nI_add, oi1, up2_a, ur_a, Nat.reduceEqDiff, Nat.reduceMul, Nat.reduceAdd, reduceIte, if_pos, if_neg, g0, g1, g2, g3, g4, g5, g6]
      refine xr_iload (n := 102) dX8_sets_100 rfl rfl ?_
      refine xr_callS (y2 := mX8_held) (As := [_]) (n := 105) dX8_sets_102 lm_X8_149 pm_X8_held kp_static_yX8_held rfl rfl (by simp [Value.category]) rfl ⟨Nat.le_refl _, Nat.le_refl _⟩ ?_
      refine s_X8_held ?_
      dsimp only [xK, xps]
      refine xq_iastore (n := 106) dX8_sets_105 (by first | exact mput_0 _ _ _ | exact mput_r (by decide)) (by first | exact vp_in_nI (by omega) (by omega)) rfl ?_
      simp (disch := omega) only [nI_clamp, List.set, mw_0, mw_1, mw_2, mw_3, mw_4, mw_5, mw_6, mw_7, mw_8, mw_9, mw_10, mw_11, mw_12, mw_13, mw_14, mw_15, mw_16, mw_17, mw_18, mw_19]
      refine xr_return dX8_sets_106 rfl rfl ?_
      refine qm hq ?_
      unfold msets mval
      first | (exfalso; first | exact h44 h22 | exact h22 h44) | (rw [if_pos (by ((try simp (disch := omega) only [i_lt, i_le, i_eq, nt, i_m1, Int32.toInt_zero] at *); omega))]; done) | (rw [if_neg (by ((try simp (disch := omega) only [i_lt, i_le, i_eq, nt, i_m1, Int32.toInt_zero] at *); omega)), if_pos (by ((try simp (disch := omega) only [i_lt, i_le, i_eq, nt, i_m1, Int32.toInt_zero] at *); omega))]; done) | (rw [if_neg (by ((try simp (disch := omega) only [i_lt, i_le, i_eq, nt, i_m1, Int32.toInt_zero] at *); omega)), if_neg (by ((try simp (disch := omega) only [i_lt, i_le, i_eq, nt, i_m1, Int32.toInt_zero] at *); omega)), if_pos (by ((try simp (disch := omega) only [i_lt, i_le, i_eq, nt, i_m1, Int32.toInt_zero] at *); omega))]; done) | (rw [if_neg (by ((try simp (disch := omega) only [i_lt, i_le, i_eq, nt, i_m1, Int32.toInt_zero] at *); omega)), if_neg (by ((try simp (disch := omega) only [i_lt, i_le, i_eq, nt, i_m1, Int32.toInt_zero] at *); omega)), if_neg (by ((try simp (disch := omega) only [i_lt, i_le, i_eq, nt, i_m1, Int32.toInt_zero] at *); omega))]; done)

theorem s_X8_marks {G : xG} {d : Nat} {f : Nat → xC} {r : Nat × Nat} {Q : Option Value → xM → Prop} {m : Nat} {μ : xS} {sd n st : Nat} (hsd : sd ≤ 1) (hn : μ 13 (6 * sd + 3) = nI n) (hn2 : n ≤ 400) (hst : μ 13 (6 * sd) = nI (st + 1)) (hst2 : st ≤ 400) (hq : Q none (mput f m (mmarks μ sd n st), r)) : xMet G d mX8_marks [.ref m, .int (nI sd)] (mput f m μ, r) r Q := by
  refine xMet_0 (by decide +kernel) rfl (Nat.le_of_ble_eq_true rfl) ?_
  show xX G d mX8_marks r r (xΦ G r r Q) 0 [(0, .ref m), (1, .int (nI sd))] [] (mput f m μ, r)
  refine xr_aload_n (n := 1) dX8_marks_0 rfl rfl ?_
  refine xr_get (n := 4) dX8_marks_1 fl_X8_40 (by first | exact mput_0 _ _ _ | exact mput_r (by decide)) (by rfl) rfl ?_
  refine xr_bipush (v := nI 6) (n := 6) dX8_marks_4 (by decide) rfl ?_
  refine xr_iload_n (n := 7) dX8_marks_6 rfl rfl ?_
  refine xr_imul (n := 8) dX8_marks_7 rfl ?_
  try simp (disch := omega) only [nI_clamp, pk_mul, nI_add, oi1, up2_a, ur_a, Nat.reduceEqDiff, Nat.reduceMul, Nat.reduceAdd, reduceIte, if_pos, if_neg, hn, hst, mmark1, pk_sub, Nat.add_sub_cancel]
  refine xr_iconst (v := nI 3) (n := 9) dX8_marks_8 (by decide) rfl ?_
  refine xr_iadd (n := 10) dX8_marks_9 rfl ?_
  try simp (disch := omega) only [nI_clamp, pk_mul, nI_add, oi1, up2_a, ur_a, Nat.reduceEqDiff, Nat.reduceMul, Nat.reduceAdd, reduceIte, if_pos, if_neg, hn, hst, mmark1, pk_sub, Nat.add_sub_cancel]
  refine xr_iaload (n := 11) dX8_marks_10 (by first | exact mput_0 _ _ _ | exact mput_r (by decide)) (by first | exact vp_in_nI (by omega) (by omega)) rfl ?_
  try simp (disch := omega) only [nI_clamp, pk_mul, nI_add, oi1, up2_a, ur_a, Nat.reduceEqDiff, Nat.reduceMul, Nat.reduceAdd, reduceIte, if_pos, if_neg, hn, hst, mmark1, pk_sub, Nat.add_sub_cancel]
  refine xq_istore_n 2 (n := 12) dX8_marks_11 rfl rfl rfl ?_
  simp only [xst, Nat.beq, List.filter, Bool.not_true, Bool.not_false]
  refine xr_iload_n (n := 13) dX8_marks_12 rfl rfl ?_
  refine xr_bipush (v := nI 40) (n := 15) dX8_marks_13 (by decide) rfl ?_
  refine xr_icmp_ge (tgt := 82) (n := 18) dX8_marks_15 (by decide) rfl (fun h15 => ?_) (fun h15 => ?_)
  · have hlt : ¬ n < 40 := by ((try simp (disch := omega) only [i_lt, i_le, i_eq, nt, i_m1, Int32.toInt_zero] at *); omega)
    refine xr_aload_n (n := 83) dX8_marks_82 rfl rfl ?_
    refine xr_get (n := 86) dX8_marks_83 fl_X8_40 (by first | exact mput_0 _ _ _ | exact mput_r (by decide)) (by rfl) rfl ?_
    refine xr_bipush (v := nI 6) (n := 88) dX8_marks_86 (by decide) rfl ?_
    refine xr_iload_n (n := 89) dX8_marks_88 rfl rfl ?_
    refine xr_imul (n := 90) dX8_marks_89 rfl ?_
    try simp (disch := omega) only [nI_clamp, pk_mul, nI_add, oi1, up2_a, ur_a, Nat.reduceEqDiff, Nat.reduceMul, Nat.reduceAdd, reduceIte, if_pos, if_neg, hn, hst, mmark1, pk_sub, Nat.add_sub_cancel]
    refine xr_iconst (v := nI 3) (n := 91) dX8_marks_90 (by decide) rfl ?_
    refine xr_iadd (n := 92) dX8_marks_91 rfl ?_
    try simp (disch := omega) only [nI_clamp, pk_mul, nI_add, oi1, up2_a, ur_a, Nat.reduceEqDiff, Nat.reduceMul, Nat.reduceAdd, reduceIte, if_pos, if_neg, hn, hst, mmark1, pk_sub, Nat.add_sub_cancel]
    refine xr_dup2 (n := 93) dX8_marks_92 rfl rfl rfl ?_
    refine xr_iaload (n := 94) dX8_marks_93 (by first | exact mput_0 _ _ _ | exact mput_r (by decide)) (by first | exact vp_in_nI (by omega) (by omega)) rfl ?_
    try simp (disch := omega) only [nI_clamp, pk_mul, nI_add, oi1, up2_a, ur_a, Nat.reduceEqDiff, Nat.reduceMul, Nat.reduceAdd, reduceIte, if_pos, if_neg, hn, hst, mmark1, pk_sub, Nat.add_sub_cancel]
    refine xr_iconst (v := nI 1) (n := 95) dX8_marks_94 (by decide) rfl ?_
    refine xr_iadd (n := 96) dX8_marks_95 rfl ?_
    try simp (disch := omega) only [nI_clamp, pk_mul, nI_add, oi1, up2_a, ur_a, Nat.reduceEqDiff, Nat.reduceMul, Nat.reduceAdd, reduceIte, if_pos, if_neg, hn, hst, mmark1, pk_sub, Nat.add_sub_cancel]
    refine xq_iastore (n := 97) dX8_marks_96 (by first | exact mput_0 _ _ _ | exact mput_r (by decide)) (by first | exact vp_in_nI (by omega) (by omega)) rfl ?_
    simp (disch := omega) only [nI_clamp, List.set, mw_0, mw_1, mw_2, mw_3, mw_4, mw_5, mw_6, mw_7, mw_8, mw_9, mw_10, mw_11, mw_12, mw_13, mw_14, mw_15, mw_16, mw_17, mw_18, mw_19]
    refine xr_return dX8_marks_97 rfl rfl ?_
    unfold mmarks at hq
    rw [if_neg hlt] at hq
    exact hq
  · have hlt : n < 40 := by ((try simp (disch := omega) only [i_lt, i_le, i_eq, nt, i_m1, Int32.toInt_zero] at *); omega)
    refine xr_aload_n (n := 19) dX8_marks_18 rfl rfl ?_
    refine xr_get (n := 22) dX8_marks_19 fl_X8_34 (by first | exact mput_0 _ _ _ | exact mput_r (by decide)) (by rfl) rfl ?_
    refine xr_bipush (v := nI 40) (n := 24) dX8_marks_22 (by decide) rfl ?_
    refine xr_iload_n (n := 25) dX8_marks_24 rfl rfl ?_
    refine xr_imul (n := 26) dX8_marks_25 rfl ?_
    try simp (disch := omega) only [nI_clamp, pk_mul, nI_add, oi1, up2_a, ur_a, Nat.reduceEqDiff, Nat.reduceMul, Nat.reduceAdd, reduceIte, if_pos, if_neg, hn, hst, mmark1, pk_sub, Nat.add_sub_cancel]
    refine xr_iload_n (n := 27) dX8_marks_26 rfl rfl ?_
    refine xr_iadd (n := 28) dX8_marks_27 rfl ?_
    try simp (disch := omega) only [nI_clamp, pk_mul, nI_add, oi1, up2_a, ur_a, Nat.reduceEqDiff, Nat.reduceMul, Nat.reduceAdd, reduceIte, if_pos, if_neg, hn, hst, mmark1, pk_sub, Nat.add_sub_cancel]
    refine xr_aload_n (n := 29) dX8_marks_28 rfl rfl ?_
    refine xr_get (n := 32) dX8_marks_29 fl_X8_40 (by first | exact mput_0 _ _ _ | exact mput_r (by decide)) (by rfl) rfl ?_
    refine xr_bipush (v := nI 6) (n := 34) dX8_marks_32 (by decide) rfl ?_
    refine xr_iload_n (n := 35) dX8_marks_34 rfl rfl ?_
    refine xr_imul (n := 36) dX8_marks_35 rfl ?_
    try simp (disch := omega) only [nI_clamp, pk_mul, nI_add, oi1, up2_a, ur_a, Nat.reduceEqDiff, Nat.reduceMul, Nat.reduceAdd, reduceIte, if_pos, if_neg, hn, hst, mmark1, pk_sub, Nat.add_sub_cancel]
    refine xr_iaload (n := 37) dX8_marks_36 (by first | exact mput_0 _ _ _ | exact mput_r (by decide)) (by first | exact vp_in_nI (by omega) (by omega)) rfl ?_
    try simp (disch := omega) only [nI_clamp, pk_mul, nI_add, oi1, up2_a, ur_a, Nat.reduceEqDiff, Nat.reduceMul, Nat.reduceAdd, reduceIte, if_pos, if_neg, hn, hst, mmark1, pk_sub, Nat.add_sub_cancel]
    refine xr_iconst (v := nI 1) (n := 38) dX8_marks_37 (by decide) rfl ?_
    refine xr_isub (n := 39) dX8_marks_38 rfl ?_
    try simp (disch := omega) only [nI_clamp, pk_mul, nI_add, oi1, up2_a, ur_a, Nat.reduceEqDiff, Nat.reduceMul, Nat.reduceAdd, reduceIte, if_pos, if_neg, hn, hst, mmark1, pk_sub, Nat.add_sub_cancel]
    refine xq_iastore (n := 40) dX8_marks_39 (by first | exact mput_0 _ _ _ | exact mput_r (by decide)) (by first | exact vp_in_nI (by omega) (by omega)) rfl ?_
    simp (disch := omega) only [nI_clamp, List.set, mw_0, mw_1, mw_2, mw_3, mw_4, mw_5, mw_6, mw_7, mw_8, mw_9, mw_10, mw_11, mw_12, mw_13, mw_14, mw_15, mw_16, mw_17, mw_18, mw_19]
    refine xr_iconst (v := nI 0) (n := 41) dX8_marks_40 (by decide) rfl ?_
    refine xq_istore_n 3 (n := 42) dX8_marks_41 rfl rfl rfl ?_
    simp only [xst, Nat.beq, List.filter, Bool.not_true, Bool.not_false]
    have e1 : up2 μ 11 (40 * sd + n) (nI st) = mmark1 μ sd n st 0 := by
      unfold mmark1
      exact (ur_fo0 (s := up2 μ 11 (40 * sd + n) (nI st)) (i := 12)).symm
    rw [e1]
    refine nat_down (P := fun k => xX G d mX8_marks r r (xΦ G r r Q) 42 [(0, .ref m), (1, .int (nI sd)), (2, .int (nI n)), (3, .int (nI k))] [] (mput f m (mmark1 μ sd n st k), r)) (N := 6) ?_ ?_ 0 (by omega)
    · refine xr_iload_n (n := 43) dX8_marks_42 rfl rfl ?_
      refine xr_bipush (v := nI 6) (n := 45) dX8_marks_43 (by decide) rfl ?_
      refine xr_icmp_ge (tgt := 82) (n := 48) dX8_marks_45 (by decide) rfl (fun h45 => ?_) (fun h45 => by (exfalso; ((try simp (disch := omega) only [i_lt, i_le, i_eq, nt, i_m1, Int32.toInt_zero] at *); omega)))
      refine xr_aload_n (n := 83) dX8_marks_82 rfl rfl ?_
      refine xr_get (n := 86) dX8_marks_83 fl_X8_40 (by first | exact mput_0 _ _ _ | exact mput_r (by decide)) (by rfl) rfl ?_
      refine xr_bipush (v := nI 6) (n := 88) dX8_marks_86 (by decide) rfl ?_
      refine xr_iload_n (n := 89) dX8_marks_88 rfl rfl ?_
      refine xr_imul (n := 90) dX8_marks_89 rfl ?_
      try simp (disch := omega) only [nI_clamp, pk_mul, nI_add, oi1, up2_a, ur_a, Nat.reduceEqDiff, Nat.reduceMul, Nat.reduceAdd, reduceIte, if_pos, if_neg, hn, hst, mmark1, pk_sub, Nat.add_sub_cancel]
      refine xr_iconst (v := nI 3) (n := 91) dX8_marks_90 (by decide) rfl ?_
      refine xr_iadd (n := 92) dX8_marks_91 rfl ?_
      try simp (disch := omega) only [nI_clamp, pk_mul, nI_add, oi1, up2_a, ur_a, Nat.reduceEqDiff, Nat.reduceMul, Nat.reduceAdd, reduceIte, if_pos, if_neg, hn, hst, mmark1, pk_sub, Nat.add_sub_cancel]
      refine xr_dup2 (n := 93) dX8_marks_92 rfl rfl rfl ?_
      refine xr_iaload (n := 94) dX8_marks_93 (by first | exact mput_0 _ _ _ | exact mput_r (by decide)) (by first | exact vp_in_nI (by omega) (by omega)) rfl ?_
      try simp (disch := omega) only [nI_clamp, pk_mul, nI_add, oi1, up2_a, ur_a, Nat.reduceEqDiff, Nat.reduceMul, Nat.reduceAdd, reduceIte, if_pos, if_neg, hn, hst, mmark1, pk_sub, Nat.add_sub_cancel]
      refine xr_iconst (v := nI 1) (n := 95) dX8_marks_94 (by decide) rfl ?_
      refine xr_iadd (n := 96) dX8_marks_95 rfl ?_
      try simp (disch := omega) only [nI_clamp, pk_mul, nI_add, oi1, up2_a, ur_a, Nat.reduceEqDiff, Nat.reduceMul, Nat.reduceAdd, reduceIte, if_pos, if_neg, hn, hst, mmark1, pk_sub, Nat.add_sub_cancel]
      refine xq_iastore (n := 97) dX8_marks_96 (by first | exact mput_0 _ _ _ | exact mput_r (by decide)) (by first | exact vp_in_nI (by omega) (by omega)) rfl ?_
      simp (disch := omega) only [nI_clamp, List.set, mw_0, mw_1, mw_2, mw_3, mw_4, mw_5, mw_6, mw_7, mw_8, mw_9, mw_10, mw_11, mw_12, mw_13, mw_14, mw_15, mw_16, mw_17, mw_18, mw_19]
      refine xr_return dX8_marks_97 rfl rfl ?_
      unfold mmarks at hq
      rw [if_pos hlt] at hq
      exact hq
    · intro k hk ih
      refine xr_iload_n (n := 43) dX8_marks_42 rfl rfl ?_
      refine xr_bipush (v := nI 6) (n := 45) dX8_marks_43 (by decide) rfl ?_
      refine xr_icmp_ge (tgt := 82) (n := 48) dX8_marks_45 (by decide) rfl (fun h45 => by (exfalso; ((try simp (disch := omega) only [i_lt, i_le, i_eq, nt, i_m1, Int32.toInt_zero] at *); omega))) (fun h45 => ?_)
      refine xr_aload_n (n := 49) dX8_marks_48 rfl rfl ?_
      refine xr_get (n := 52) dX8_marks_49 fl_X8_37 (by first | exact mput_0 _ _ _ | exact mput_r (by decide)) (by rfl) rfl ?_
      refine xr_sipush (v := nI 240) (n := 55) dX8_marks_52 (by decide) rfl ?_
      refine xr_iload_n (n := 56) dX8_marks_55 rfl rfl ?_
      refine xr_imul (n := 57) dX8_marks_56 rfl ?_
      try simp (disch := omega) only [nI_clamp, pk_mul, nI_add, oi1, up2_a, ur_a, Nat.reduceEqDiff, Nat.reduceMul, Nat.reduceAdd, reduceIte, if_pos, if_neg, hn, hst, mmark1, pk_sub, Nat.add_sub_cancel]
      refine xr_bipush (v := nI 6) (n := 59) dX8_marks_57 (by decide) rfl ?_
      refine xr_iload_n (n := 60) dX8_marks_59 rfl rfl ?_
      refine xr_imul (n := 61) dX8_marks_60 rfl ?_
      try simp (disch := omega) only [nI_clamp, pk_mul, nI_add, oi1, up2_a, ur_a, Nat.reduceEqDiff, Nat.reduceMul, Nat.reduceAdd, reduceIte, if_pos, if_neg, hn, hst, mmark1, pk_sub, Nat.add_sub_cancel]
      refine xr_iadd (n := 62) dX8_marks_61 rfl ?_
      try simp (disch := omega) only [nI_clamp, pk_mul, nI_add, oi1, up2_a, ur_a, Nat.reduceEqDiff, Nat.reduceMul, Nat.reduceAdd, reduceIte, if_pos, if_neg, hn, hst, mmark1, pk_sub, Nat.add_sub_cancel]
      refine xr_iload_n (n := 63) dX8_marks_62 rfl rfl ?_
      refine xr_iadd (n := 64) dX8_marks_63 rfl ?_
      try simp (disch := omega) only [nI_clamp, pk_mul, nI_add, oi1, up2_a, ur_a, Nat.reduceEqDiff, Nat.reduceMul, Nat.reduceAdd, reduceIte, if_pos, if_neg, hn, hst, mmark1, pk_sub, Nat.add_sub_cancel]
      refine xr_aload_n (n := 65) dX8_marks_64 rfl rfl ?_
      refine xr_get (n := 68) dX8_marks_65 fl_X8_28 (by first | exact mput_0 _ _ _ | exact mput_r (by decide)) (by rfl) rfl ?_
      refine xr_bipush (v := nI 6) (n := 70) dX8_marks_68 (by decide) rfl ?_
      refine xr_iload_n (n := 71) dX8_marks_70 rfl rfl ?_
      refine xr_imul (n := 72) dX8_marks_71 rfl ?_
      try simp (disch := omega) only [nI_clamp, pk_mul, nI_add, oi1, up2_a, ur_a, Nat.reduceEqDiff, Nat.reduceMul, Nat.reduceAdd, reduceIte, if_pos, if_neg, hn, hst, mmark1, pk_sub, Nat.add_sub_cancel]
      refine xr_iload_n (n := 73) dX8_marks_72 rfl rfl ?_
      refine xr_iadd (n := 74) dX8_marks_73 rfl ?_
      try simp (disch := omega) only [nI_clamp, pk_mul, nI_add, oi1, up2_a, ur_a, Nat.reduceEqDiff, Nat.reduceMul, Nat.reduceAdd, reduceIte, if_pos, if_neg, hn, hst, mmark1, pk_sub, Nat.add_sub_cancel]
      refine xr_iaload (n := 75) dX8_marks_74 (by first | exact mput_0 _ _ _ | exact mput_r (by decide)) (by first | exact vp_in_nI (by omega) (by omega)) rfl ?_
      try simp (disch := omega) only [nI_clamp, pk_mul, nI_add, oi1, up2_a, ur_a, Nat.reduceEqDiff, Nat.reduceMul, Nat.reduceAdd, reduceIte, if_pos, if_neg, hn, hst, mmark1, pk_sub, Nat.add_sub_cancel]
      refine xq_iastore (n := 76) dX8_marks_75 (by first | exact mput_0 _ _ _ | exact mput_r (by decide)) (by first | exact vp_in_nI (by omega) (by omega)) rfl ?_
      simp (disch := omega) only [nI_clamp, List.set, mw_0, mw_1, mw_2, mw_3, mw_4, mw_5, mw_6, mw_7, mw_8, mw_9, mw_10, mw_11, mw_12, mw_13, mw_14, mw_15, mw_16, mw_17, mw_18, mw_19]
      refine xr_iinc (n := 79) dX8_marks_76 rfl rfl (rfl) rfl ?_
      simp only [xst, Nat.beq, List.filter, Bool.not_true, Bool.not_false]
      try simp (disch := omega) only [nI_clamp, pk_mul, nI_add, oi1, up2_a, ur_a, Nat.reduceEqDiff, Nat.reduceMul, Nat.reduceAdd, reduceIte, if_pos, if_neg, hn, hst, mmark1, pk_sub, Nat.add_sub_cancel]
      refine xr_goto (n := 42) dX8_marks_79 (by decide) ?_
      refine xX.eq rfl rfl rfl ?_ ih
      unfold mmark1
      rw [← ur_fo (g := fun c => μ 9 (6 * sd + c)) (v := μ 9 (6 * sd + k)) rfl]

theorem s_X8_does {G : xG} {d : Nat} {f : Nat → xC} {r : Nat × Nat} {Q : Option Value → xM → Prop} {m : Nat} {μ : xS} {sd n2 n3 st : Nat} {n s : Nat} {P : Nat → Nat → Nat} (hsd : sd ≤ 1) (hP : isPg (μ 5) n P) (hO : okP n P) (hs : s < n) (hk : P s 0 ≤ 2) (h2 : μ 13 (6 * sd + 2) = nI n2) (hn2 : n2 ≤ 400) (h3 : μ 13 (6 * sd + 3) = nI n3) (hn3 : n3 ≤ 400) (hst : μ 13 (6 * sd) = nI (st + 1)) (hst2 : st ≤ 400) (hq : Q none (mput f m (if P s 0 = 0 then msets μ sd (P s 1) (P s 2) (P s 3) (P s 4) else if P s 0 = 1 then mtells μ sd n2 (P s 1) else mmarks μ sd n3 st), r)) : xMet G (d + 2) mX8_does [.ref m, .int (nI sd), .int (nI s), .int (nI (P s 0))] (mput f m μ, r) r Q := by
  refine xMet_0 (by decide +kernel) rfl (Nat.le_of_ble_eq_true rfl) ?_
  show xX G (d + 2) mX8_does r r (xΦ G r r Q) 0 [(0, .ref m), (1, .int (nI sd)), (2, .int (nI s)), (3, .int (nI (P s 0)))] [] (mput f m μ, r)
  have hn6 := hO.1
  obtain ⟨k0, k1, k2, k3, k4, k6, k5⟩ := hO.2 s hs
  unfold okT at k3 k4
  have g0 := hP.g (w := 0) hs (by omega)
  have g1 := hP.g (w := 1) hs (by omega)
  have g2 := hP.g (w := 2) hs (by omega)
  have g3 := hP.g (w := 3) hs (by omega)
  have g4 := hP.g (w := 4) hs (by omega)
  have g5 := hP.g (w := 5) hs (by omega)
  have g6 := hP.g (w := 6) hs (by omega)
  refine xr_iload_n (n := 1) dX8_does_0 rfl rfl ?_
  refine xr_if_ne (tgt := 13) (n := 4) dX8_does_1 (by decide) rfl (fun h1 => ?_) (fun h1 => ?_)
  · refine xr_iload_n (n := 14) dX8_does_13 rfl rfl ?_
    refine xr_iconst (v := nI 1) (n := 15) dX8_does_14 (by decide) rfl ?_
    refine xr_icmp_ne (tgt := 27) (n := 18) dX8_does_15 (by decide) rfl (fun h15 => ?_) (fun h15 => ?_)
    · refine xr_aload_n (n := 28) dX8_does_27 rfl rfl ?_
      refine xr_iload_n (n := 29) dX8_does_28 rfl rfl ?_
      refine xr_callV (y2 := mX8_marks) (As := [_]) (n := 32) dX8_does_29 lm_X8_165 pm_X8_marks pi_X8_marks (by first | exact mput_0 _ _ _ | exact mput_r (by decide)) rfl rfl rfl (by simp [Value.category]) rfl ⟨Nat.le_refl _, Nat.le_refl _⟩ ?_
      refine s_X8_marks hsd h3 hn3 hst hst2 ?_
      dsimp only [xK, xps]
      refine xr_return dX8_does_32 rfl rfl ?_
      refine qm hq ?_
      first | (rw [if_pos (by ((try simp (disch := omega) only [i_lt, i_le, i_eq, nt, i_m1, Int32.toInt_zero] at *); omega))]; done) | (rw [if_neg (by ((try simp (disch := omega) only [i_lt, i_le, i_eq, nt, i_m1, Int32.toInt_zero] at *); omega)), if_pos (by ((try simp (disch := omega) only [i_lt, i_le, i_eq, nt, i_m1, Int32.toInt_zero] at *); omega))]; rfl) | (rw [if_neg (by ((try simp (disch := omega) only [i_lt, i_le, i_eq, nt, i_m1, Int32.toInt_zero] at *); omega)), if_neg (by ((try simp (disch := omega) only [i_lt, i_le, i_eq, nt, i_m1, Int32.toInt_zero] at *); omega))]; done)
    · refine xr_aload_n (n := 19) dX8_does_18 rfl rfl ?_
      refine xr_iload_n (n := 20) dX8_does_19 rfl rfl ?_
      refine xr_iload_n (n := 21) dX8_does_20 rfl rfl ?_
      refine xr_callV (y2 := mX8_tellsCell) (As := [_, _]) (n := 24) dX8_does_21 lm_X8_162 pm_X8_tellsCell pi_X8_tellsCell (by first | exact mput_0 _ _ _ | exact mput_r (by decide)) rfl rfl rfl (by simp [Value.category]) rfl ⟨Nat.le_refl _, Nat.le_refl _⟩ ?_
      refine s_X8_tellsCell hsd (by omega) h2 hn2 g1 k1 ?_
      dsimp only [xK, xps]
      refine xr_goto (n := 32) dX8_does_24 (by decide) ?_
      refine xr_return dX8_does_32 rfl rfl ?_
      refine qm hq ?_
      first | (rw [if_pos (by ((try simp (disch := omega) only [i_lt, i_le, i_eq, nt, i_m1, Int32.toInt_zero] at *); omega))]; done) | (rw [if_neg (by ((try simp (disch := omega) only [i_lt, i_le, i_eq, nt, i_m1, Int32.toInt_zero] at *); omega)), if_pos (by ((try simp (disch := omega) only [i_lt, i_le, i_eq, nt, i_m1, Int32.toInt_zero] at *); omega))]; rfl) | (rw [if_neg (by ((try simp (disch := omega) only [i_lt, i_le, i_eq, nt, i_m1, Int32.toInt_zero] at *); omega)), if_neg (by ((try simp (disch := omega) only [i_lt, i_le, i_eq, nt, i_m1, Int32.toInt_zero] at *); omega))]; done)
  · refine xr_aload_n (n := 5) dX8_does_4 rfl rfl ?_
    refine xr_iload_n (n := 6) dX8_does_5 rfl rfl ?_
    refine xr_iload_n (n := 7) dX8_does_6 rfl rfl ?_
    refine xr_callV (y2 := mX8_sets) (As := [_, _]) (n := 10) dX8_does_7 lm_X8_159 pm_X8_sets pi_X8_sets (by first | exact mput_0 _ _ _ | exact mput_r (by decide)) rfl rfl rfl (by simp [Value.category]) rfl ⟨Nat.le_refl _, Nat.le_refl _⟩ ?_
    refine s_X8_sets hsd hP hO hs ?_
    dsimp only [xK, xps]
    refine xr_goto (n := 32) dX8_does_10 (by decide) ?_
    refine xr_return dX8_does_32 rfl rfl ?_
    refine qm hq ?_
    first | (rw [if_pos (by ((try simp (disch := omega) only [i_lt, i_le, i_eq, nt, i_m1, Int32.toInt_zero] at *); omega))]; done) | (rw [if_neg (by ((try simp (disch := omega) only [i_lt, i_le, i_eq, nt, i_m1, Int32.toInt_zero] at *); omega)), if_pos (by ((try simp (disch := omega) only [i_lt, i_le, i_eq, nt, i_m1, Int32.toInt_zero] at *); omega))]; rfl) | (rw [if_neg (by ((try simp (disch := omega) only [i_lt, i_le, i_eq, nt, i_m1, Int32.toInt_zero] at *); omega)), if_neg (by ((try simp (disch := omega) only [i_lt, i_le, i_eq, nt, i_m1, Int32.toInt_zero] at *); omega))]; done)
