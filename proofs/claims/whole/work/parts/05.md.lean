theorem p_of {p : Int32} (h : 0 ≤ p.toInt ∧ p.toInt ≤ 1) : ∃ pn : Nat, pn ≤ 1 ∧ p = nI pn := ⟨p.toInt.toNat, by omega, i_of (by omega)⟩
def mcopy (μ : xS) (sv : Nat) : xS := mlay (mtake (msave μ sv) 0) 1
def mexch (μ : xS) (sv : Nat) : xS := mlay (mswap (mtake (msave μ sv) 0)) 1
def cntk (P : Nat → Nat → Nat) (k : Nat) : Nat → Nat
  | 0 => 0
  | s + 1 => cntk P k s + (if P s 0 = k then 1 else 0)
theorem cntk_t {P : Nat → Nat → Nat} {k s : Nat} (h : P s 0 = k) : cntk P k (s + 1) = cntk P k s + 1 := by
  show cntk P k s + _ = _
  rw [if_pos h]
theorem cntk_f {P : Nat → Nat → Nat} {k s : Nat} (h : ¬ P s 0 = k) : cntk P k (s + 1) = cntk P k s + 0 := by
  show cntk P k s + _ = _
  rw [if_neg h]
theorem cntk_le (P : Nat → Nat → Nat) (k : Nat) : ∀ s, cntk P k s ≤ s
  | 0 => Nat.le_refl _
  | s + 1 => by
    have := cntk_le P k s
    unfold cntk
    split <;> omega
def setb (P : Nat → Nat → Nat) : Nat → Int32
  | 0 => nI 0
  | s + 1 => setb P s ||| (if P s 0 = 0 then nI 1 <<< (nI (P s 1) &&& 31) else nI 0)
theorem setb_s (P : Nat → Nat → Nat) (s : Nat) : setb P (s + 1) = setb P s ||| (if P s 0 = 0 then nI 1 <<< (nI (P s 1) &&& 31) else nI 0) := rfl
def dpi (P : Nat → Nat → Nat) (s : Nat) : Nat → Nat
  | 0 => if 3 ≤ P s 0 then 1 else 0
  | k + 1 => dpi P s k + (if 3 ≤ P s 0 ∧ 3 ≤ P k 0 ∧ s < P k 6 then 1 else 0)
theorem dpi_t {P : Nat → Nat → Nat} {s k : Nat} (h : 3 ≤ P s 0 ∧ 3 ≤ P k 0 ∧ s < P k 6) : dpi P s (k + 1) = dpi P s k + 1 := by
  show dpi P s k + _ = _
  rw [if_pos h]
theorem dpi_f {P : Nat → Nat → Nat} {s k : Nat} (h : ¬ (3 ≤ P s 0 ∧ 3 ≤ P k 0 ∧ s < P k 6)) : dpi P s (k + 1) = dpi P s k + 0 := by
  show dpi P s k + _ = _
  rw [if_neg h]
theorem dpi_le (P : Nat → Nat → Nat) (s : Nat) : ∀ k, dpi P s k ≤ k + 1
  | 0 => by unfold dpi; split <;> omega
  | k + 1 => by
    have := dpi_le P s k
    unfold dpi
    split <;> omega
def dpm (P : Nat → Nat → Nat) : Nat → Nat
  | 0 => 0
  | s + 1 => if dpm P s < dpi P s s then dpi P s s else dpm P s
theorem dpm_le (P : Nat → Nat → Nat) : ∀ s, dpm P s ≤ s + 1
  | 0 => by unfold dpm; omega
  | s + 1 => by
    have := dpm_le P s
    have := dpi_le P s s
    unfold dpm
    split <;> omega
theorem s_X8_copy {G : xG} {d : Nat} {f : Nat → xC} {r : Nat × Nat} {Q : Option Value → xM → Prop} {m : Nat} {μ : xS} {sv : Nat} (hs : μ 2 0 = nI sv) (hs2 : sv ≤ 5) (hq : Q (some (.int (mcopy μ sv 5 0))) (mput f m (mcopy μ sv), r)) : xMet G (d + 1) mX8_copy [.ref m] (mput f m μ, r) r Q := by
  refine xMet_0 (by decide +kernel) rfl (Nat.le_of_ble_eq_true rfl) ?_
  show xX G (d + 1) mX8_copy r r (xΦ G r r Q) 0 [(0, .ref m)] [] (mput f m μ, r)
  refine xr_aload_n (n := 1) dX8_copy_0 rfl rfl ?_
  refine xr_callV (y2 := mX8_saves) (As := []) (n := 4) dX8_copy_1 lm_X8_114 pm_X8_saves pi_X8_saves (by first | exact mput_0 _ _ _ | exact mput_r (by decide)) rfl rfl rfl (by simp [Value.category]) rfl ⟨Nat.le_refl _, Nat.le_refl _⟩ ?_
  refine s_X8_saves hs hs2 ?_
  dsimp only [xK, xps]
  refine xr_aload_n (n := 5) dX8_copy_4 rfl rfl ?_
  refine xr_iconst (v := nI 0) (n := 6) dX8_copy_5 (by decide) rfl ?_
  refine xr_callV (y2 := mX8_takes) (As := [_]) (n := 9) dX8_copy_6 lm_X8_121 pm_X8_takes pi_X8_takes (by first | exact mput_0 _ _ _ | exact mput_r (by decide)) rfl rfl rfl (by simp [Value.category]) rfl ⟨Nat.le_refl _, Nat.le_refl _⟩ ?_
  refine s_X8_takes (by omega) ?_
  dsimp only [xK, xps]
  refine xr_aload_n (n := 10) dX8_copy_9 rfl rfl ?_
  refine xr_iconst (v := nI 1) (n := 11) dX8_copy_10 (by decide) rfl ?_
  refine xr_callV (y2 := mX8_lays) (As := [_]) (n := 14) dX8_copy_11 lm_X8_117 pm_X8_lays pi_X8_lays (by first | exact mput_0 _ _ _ | exact mput_r (by decide)) rfl rfl rfl (by simp [Value.category]) rfl ⟨Nat.le_refl _, Nat.le_refl _⟩ ?_
  refine s_X8_lays (by omega) ?_
  dsimp only [xK, xps]
  refine xr_aload_n (n := 15) dX8_copy_14 rfl rfl ?_
  refine xr_get (n := 18) dX8_copy_15 fl_X8_19 (by first | exact mput_0 _ _ _ | exact mput_r (by decide)) (by rfl) rfl ?_
  refine xr_iconst (v := nI 0) (n := 19) dX8_copy_18 (by decide) rfl ?_
  refine xr_iaload (n := 20) dX8_copy_19 (by first | exact mput_0 _ _ _ | exact mput_r (by decide)) (by first | exact vp_in_nI (by omega) (by omega)) rfl ?_
  try simp (disch := omega) only [nI_clamp, pk_mul, nI_add, oi1, up2_a, ur_a, Nat.reduceEqDiff, Nat.reduceMul, Nat.reduceAdd, reduceIte, if_pos, if_neg]
  refine xr_ireturn dX8_copy_20 rfl rfl rfl ?_
  exact hq

theorem s_X8_exchange {G : xG} {d : Nat} {f : Nat → xC} {r : Nat × Nat} {Q : Option Value → xM → Prop} {m : Nat} {μ : xS} {sv : Nat} (hs : μ 2 0 = nI sv) (hs2 : sv ≤ 5) (hq : Q (some (.int (mexch μ sv 0 0))) (mput f m (mexch μ sv), r)) : xMet G (d + 1) mX8_exchange [.ref m] (mput f m μ, r) r Q := by
  refine xMet_0 (by decide +kernel) rfl (Nat.le_of_ble_eq_true rfl) ?_
  show xX G (d + 1) mX8_exchange r r (xΦ G r r Q) 0 [(0, .ref m)] [] (mput f m μ, r)
  refine xr_aload_n (n := 1) dX8_exchange_0 rfl rfl ?_
  refine xr_callV (y2 := mX8_saves) (As := []) (n := 4) dX8_exchange_1 lm_X8_114 pm_X8_saves pi_X8_saves (by first | exact mput_0 _ _ _ | exact mput_r (by decide)) rfl rfl rfl (by simp [Value.category]) rfl ⟨Nat.le_refl _, Nat.le_refl _⟩ ?_
  refine s_X8_saves hs hs2 ?_
  dsimp only [xK, xps]
  refine xr_aload_n (n := 5) dX8_exchange_4 rfl rfl ?_
  refine xr_iconst (v := nI 0) (n := 6) dX8_exchange_5 (by decide) rfl ?_
  refine xr_callV (y2 := mX8_takes) (As := [_]) (n := 9) dX8_exchange_6 lm_X8_121 pm_X8_takes pi_X8_takes (by first | exact mput_0 _ _ _ | exact mput_r (by decide)) rfl rfl rfl (by simp [Value.category]) rfl ⟨Nat.le_refl _, Nat.le_refl _⟩ ?_
  refine s_X8_takes (by omega) ?_
  dsimp only [xK, xps]
  refine xr_iconst (v := nI 0) (n := 10) dX8_exchange_9 (by decide) rfl ?_
  refine xq_istore_n 1 (n := 11) dX8_exchange_10 rfl rfl rfl ?_
  simp only [xst, Nat.beq, List.filter, Bool.not_true, Bool.not_false]
  generalize hν : mtake (msave μ sv) 0 = ν
  rw [show mput f m ν = mput f m (ur ν 0 (fo (fun j => ν 0 (421 + j)) (ν 0) 0 0)) from by rw [ur_fo0]]
  refine nat_down (P := fun k => xX G (d + 1) mX8_exchange r r (xΦ G r r Q) 11 [(0, .ref m), (1, .int (nI k))] [] (mput f m (ur ν 0 (fo (fun j => ν 0 (421 + j)) (ν 0) 0 k)), r)) (N := 421) ?_ ?_ 0 (by omega)
  · refine xr_iload_n (n := 12) dX8_exchange_11 rfl rfl ?_
    refine xr_sipush (v := nI 421) (n := 15) dX8_exchange_12 (by decide) rfl ?_
    refine xr_icmp_ge (tgt := 40) (n := 18) dX8_exchange_15 (by decide) rfl (fun h15 => ?_) (fun h15 => by (exfalso; ((try simp (disch := omega) only [i_lt, i_le, i_eq, nt, i_m1, Int32.toInt_zero] at *); omega)))
    refine xr_aload_n (n := 41) dX8_exchange_40 rfl rfl ?_
    refine xr_iconst (v := nI 1) (n := 42) dX8_exchange_41 (by decide) rfl ?_
    refine xr_callV (y2 := mX8_lays) (As := [_]) (n := 45) dX8_exchange_42 lm_X8_117 pm_X8_lays pi_X8_lays (by first | exact mput_0 _ _ _ | exact mput_r (by decide)) rfl rfl rfl (by simp [Value.category]) rfl ⟨Nat.le_refl _, Nat.le_refl _⟩ ?_
    refine s_X8_lays (by omega) ?_
    dsimp only [xK, xps]
    refine xr_aload_n (n := 46) dX8_exchange_45 rfl rfl ?_
    refine xr_get (n := 49) dX8_exchange_46 fl_X8_7 (by first | exact mput_0 _ _ _ | exact mput_r (by decide)) (by rfl) rfl ?_
    refine xr_iconst (v := nI 0) (n := 50) dX8_exchange_49 (by decide) rfl ?_
    refine xr_iaload (n := 51) dX8_exchange_50 (by first | exact mput_0 _ _ _ | exact mput_r (by decide)) (by first | exact vp_in_nI (by omega) (by omega)) rfl ?_
    try simp (disch := omega) only [nI_clamp, pk_mul, nI_add, oi1, up2_a, ur_a, Nat.reduceEqDiff, Nat.reduceMul, Nat.reduceAdd, reduceIte, if_pos, if_neg, fo_a]
    refine xr_ireturn dX8_exchange_51 rfl rfl rfl ?_
    subst hν
    exact hq
  · intro k hk ih
    refine xr_iload_n (n := 12) dX8_exchange_11 rfl rfl ?_
    refine xr_sipush (v := nI 421) (n := 15) dX8_exchange_12 (by decide) rfl ?_
    refine xr_icmp_ge (tgt := 40) (n := 18) dX8_exchange_15 (by decide) rfl (fun h15 => by (exfalso; ((try simp (disch := omega) only [i_lt, i_le, i_eq, nt, i_m1, Int32.toInt_zero] at *); omega))) (fun h15 => ?_)
    refine xr_aload_n (n := 19) dX8_exchange_18 rfl rfl ?_
    refine xr_get (n := 22) dX8_exchange_19 fl_X8_7 (by first | exact mput_0 _ _ _ | exact mput_r (by decide)) (by rfl) rfl ?_
    refine xr_iload_n (n := 23) dX8_exchange_22 rfl rfl ?_
    refine xr_aload_n (n := 24) dX8_exchange_23 rfl rfl ?_
    refine xr_get (n := 27) dX8_exchange_24 fl_X8_7 (by first | exact mput_0 _ _ _ | exact mput_r (by decide)) (by rfl) rfl ?_
    refine xr_sipush (v := nI 421) (n := 30) dX8_exchange_27 (by decide) rfl ?_
    refine xr_iload_n (n := 31) dX8_exchange_30 rfl rfl ?_
    refine xr_iadd (n := 32) dX8_exchange_31 rfl ?_
    try simp (disch := omega) only [nI_clamp, pk_mul, nI_add, oi1, up2_a, ur_a, Nat.reduceEqDiff, Nat.reduceMul, Nat.reduceAdd, reduceIte, if_pos, if_neg, fo_a]
    refine xr_iaload (n := 33) dX8_exchange_32 (by first | exact mput_0 _ _ _ | exact mput_r (by decide)) (by first | exact vp_in_nI (by omega) (by omega)) rfl ?_
    try simp (disch := omega) only [nI_clamp, pk_mul, nI_add, oi1, up2_a, ur_a, Nat.reduceEqDiff, Nat.reduceMul, Nat.reduceAdd, reduceIte, if_pos, if_neg, fo_a]
    refine xq_iastore (n := 34) dX8_exchange_33 (by first | exact mput_0 _ _ _ | exact mput_r (by decide)) (by first | exact vp_in_nI (by omega) (by omega)) rfl ?_
    simp (disch := omega) only [nI_clamp, List.set, mw_0, mw_1, mw_2, mw_3, mw_4, mw_5, mw_6, mw_7, mw_8, mw_9, mw_10, mw_11, mw_12, mw_13, mw_14, mw_15, mw_16, mw_17, mw_18, mw_19]
    refine xr_iinc (n := 37) dX8_exchange_34 rfl rfl (rfl) rfl ?_
    simp only [xst, Nat.beq, List.filter, Bool.not_true, Bool.not_false]
    try simp (disch := omega) only [nI_clamp, pk_mul, nI_add, oi1, up2_a, ur_a, Nat.reduceEqDiff, Nat.reduceMul, Nat.reduceAdd, reduceIte, if_pos, if_neg, fo_a]
    refine xr_goto (n := 11) dX8_exchange_37 (by decide) ?_
    refine xX.eq rfl rfl rfl ?_ ih
    rw [← ur_fo (g := fun j => ν 0 (421 + j)) (v := ν 0 (421 + k)) rfl, Nat.zero_add]

theorem s_X8_count {G : xG} {d : Nat} {f : Nat → xC} {r : Nat × Nat} {Q : Option Value → xM → Prop} {m : Nat} {μ : xS} {w : Int32} (hq0 : w.toInt = 0 → Q (some (.int (μ 0 0))) (mput f m μ, r)) (hq1 : w.toInt = 1 → Q (some (.int (μ 0 421))) (mput f m μ, r)) (hq2 : w.toInt = 2 → Q (some (.int (μ 2 0))) (mput f m μ, r)) (hq3 : w.toInt = 3 → Q (some (.int (μ 4 0))) (mput f m μ, r)) (hq4 : ¬ (0 ≤ w.toInt ∧ w.toInt ≤ 3) → Q (some (.int (-10001))) (mput f m μ, r)) : xMet G d mX8_count [.ref m, .int w] (mput f m μ, r) r Q := by
  refine xMet_0 (by decide +kernel) rfl (Nat.le_of_ble_eq_true rfl) ?_
  show xX G d mX8_count r r (xΦ G r r Q) 0 [(0, .ref m), (1, .int w)] [] (mput f m μ, r)
  refine xr_iload_n (n := 1) dX8_count_0 rfl rfl ?_
  rcases (show w.toInt < 0 ∨ 3 < w.toInt ∨ w.toInt = 0 ∨ w.toInt = 1 ∨ w.toInt = 2 ∨ w.toInt = 3 by omega) with hx | hx | hx | hx | hx | hx
  · refine xr_tableOut (n := 58) dX8_count_1 (Or.inl hx) (by decide) ?_
    refine xr_sipush (v := (-10001)) (n := 61) dX8_count_58 (by decide) rfl ?_
    refine xr_ireturn dX8_count_61 rfl rfl rfl ?_
    exact hq4 (by omega)
  · refine xr_tableOut (n := 58) dX8_count_1 (Or.inr hx) (by decide) ?_
    refine xr_sipush (v := (-10001)) (n := 61) dX8_count_58 (by decide) rfl ?_
    refine xr_ireturn dX8_count_61 rfl rfl rfl ?_
    exact hq4 (by omega)
  · refine xr_tableIn (n := 32) (off := 31) dX8_count_1 (by omega) (by omega) (by rw [hx]; rfl) (by decide) ?_
    refine xr_aload_n (n := 33) dX8_count_32 rfl rfl ?_
    refine xr_get (n := 36) dX8_count_33 fl_X8_7 (by first | exact mput_0 _ _ _ | exact mput_r (by decide)) (by rfl) rfl ?_
    refine xr_iconst (v := nI 0) (n := 37) dX8_count_36 (by decide) rfl ?_
    refine xr_iaload (n := 38) dX8_count_37 (by first | exact mput_0 _ _ _ | exact mput_r (by decide)) (by first | exact vp_in_nI (by omega) (by omega)) rfl ?_
    try simp (disch := omega) only [nI_clamp, pk_mul, nI_add, oi1, up2_a, ur_a, Nat.reduceEqDiff, Nat.reduceMul, Nat.reduceAdd, reduceIte, if_pos, if_neg]
    refine xr_ireturn dX8_count_38 rfl rfl rfl ?_
    exact hq0 hx
  · refine xr_tableIn (n := 39) (off := 38) dX8_count_1 (by omega) (by omega) (by rw [hx]; rfl) (by decide) ?_
    refine xr_aload_n (n := 40) dX8_count_39 rfl rfl ?_
    refine xr_get (n := 43) dX8_count_40 fl_X8_7 (by first | exact mput_0 _ _ _ | exact mput_r (by decide)) (by rfl) rfl ?_
    refine xr_sipush (v := nI 421) (n := 46) dX8_count_43 (by decide) rfl ?_
    refine xr_iaload (n := 47) dX8_count_46 (by first | exact mput_0 _ _ _ | exact mput_r (by decide)) (by first | exact vp_in_nI (by omega) (by omega)) rfl ?_
    try simp (disch := omega) only [nI_clamp, pk_mul, nI_add, oi1, up2_a, ur_a, Nat.reduceEqDiff, Nat.reduceMul, Nat.reduceAdd, reduceIte, if_pos, if_neg]
    refine xr_ireturn dX8_count_47 rfl rfl rfl ?_
    exact hq1 hx
  · refine xr_tableIn (n := 48) (off := 47) dX8_count_1 (by omega) (by omega) (by rw [hx]; rfl) (by decide) ?_
    refine xr_aload_n (n := 49) dX8_count_48 rfl rfl ?_
    refine xr_get (n := 52) dX8_count_49 fl_X8_65 (by first | exact mput_0 _ _ _ | exact mput_r (by decide)) (by rfl) rfl ?_
    try simp (disch := omega) only [nI_clamp, pk_mul, nI_add, oi1, up2_a, ur_a, Nat.reduceEqDiff, Nat.reduceMul, Nat.reduceAdd, reduceIte, if_pos, if_neg]
    refine xr_ireturn dX8_count_52 rfl rfl rfl ?_
    exact hq2 hx
  · refine xr_tableIn (n := 53) (off := 52) dX8_count_1 (by omega) (by omega) (by rw [hx]; rfl) (by decide) ?_
    refine xr_aload_n (n := 54) dX8_count_53 rfl rfl ?_
    refine xr_get (n := 57) dX8_count_54 fl_X8_69 (by first | exact mput_0 _ _ _ | exact mput_r (by decide)) (by rfl) rfl ?_
    try simp (disch := omega) only [nI_clamp, pk_mul, nI_add, oi1, up2_a, ur_a, Nat.reduceEqDiff, Nat.reduceMul, Nat.reduceAdd, reduceIte, if_pos, if_neg]
    refine xr_ireturn dX8_count_57 rfl rfl rfl ?_
    exact hq3 hx

theorem s_X8_isStatement {G : xG} {d : Nat} {f : Nat → xC} {r : Nat × Nat} {Q : Option Value → xM → Prop} {m : Nat} {μ : xS} {p s : Int32} {N : Nat → Nat} (hN : ∀ q, q ≤ 1 → μ 0 (421 * q) = nI (N q) ∧ N q ≤ 60) (hq1 : ¬ (0 ≤ p.toInt ∧ p.toInt ≤ 1) → Q (some (.int (nI 0))) (mput f m μ, r)) (hq2 : ∀ pn, pn ≤ 1 → p = nI pn → Q (some (.int (b2i (0 ≤ s.toInt ∧ s.toInt < N pn)))) (mput f m μ, r)) : xMet G (d + 2) mX8_isStatement [.ref m, .int p, .int s] (mput f m μ, r) r Q := by
  refine xMet_0 (by decide +kernel) rfl (Nat.le_of_ble_eq_true rfl) ?_
  show xX G (d + 2) mX8_isStatement r r (xΦ G r r Q) 0 [(0, .ref m), (1, .int p), (2, .int s)] [] (mput f m μ, r)
  refine xr_iload_n (n := 1) dX8_isStatement_0 rfl rfl ?_
  refine xr_callS (y2 := mX8_isProgram) (As := [_]) (n := 4) dX8_isStatement_1 lm_X8_107 pm_X8_isProgram kp_static_yX8_isProgram rfl rfl (by simp [Value.category]) rfl ⟨Nat.le_refl _, Nat.le_refl _⟩ ?_
  refine s_X8_isProgram ?_
  dsimp only [xK, xps]
  refine xr_beq (tgt := 31) (n := 7) dX8_isStatement_4 (by decide) rfl (fun h4 => ?_) (fun h4 => ?_)
  · have hq3 := hq1 h4
    refine xr_iconst (v := nI 0) (n := 32) dX8_isStatement_31 (by decide) rfl ?_
    refine xr_ireturn dX8_isStatement_32 rfl (by first | exact b2i_nar | exact nar_1 | exact nar_0) rfl ?_
    first | exact hq3 | (rw [b2i_t (by assumption)] at hq3; exact hq3) | (rw [b2i_f (by assumption)] at hq3; exact hq3)
  · obtain ⟨pn, hpn, rfl⟩ := p_of h4
    have hq3 := hq2 pn hpn rfl
    obtain ⟨hNp, hN6⟩ := hN pn hpn
    refine xr_iload_n (n := 8) dX8_isStatement_7 rfl rfl ?_
    refine xr_iconst (v := nI 0) (n := 9) dX8_isStatement_8 (by decide) rfl ?_
    refine xr_aload_n (n := 10) dX8_isStatement_9 rfl rfl ?_
    refine xr_get (n := 13) dX8_isStatement_10 fl_X8_7 (by first | exact mput_0 _ _ _ | exact mput_r (by decide)) (by rfl) rfl ?_
    refine xr_sipush (v := nI 421) (n := 16) dX8_isStatement_13 (by decide) rfl ?_
    refine xr_iload_n (n := 17) dX8_isStatement_16 rfl rfl ?_
    refine xr_imul (n := 18) dX8_isStatement_17 rfl ?_
    try simp (disch := omega) only [nI_clamp, pk_mul, nI_add, oi1, up2_a, ur_a, Nat.reduceEqDiff, Nat.reduceMul, Nat.reduceAdd, reduceIte, if_pos, if_neg]
    refine xr_iaload (n := 19) dX8_isStatement_18 (by first | exact mput_0 _ _ _ | exact mput_r (by decide)) (by first | exact vp_in_nI (by omega) (by omega)) rfl ?_
    try simp (disch := omega) only [nI_clamp, pk_mul, nI_add, oi1, up2_a, ur_a, Nat.reduceEqDiff, Nat.reduceMul, Nat.reduceAdd, reduceIte, if_pos, if_neg]
    rw [hNp]
    refine xr_iconst (v := nI 1) (n := 20) dX8_isStatement_19 (by decide) rfl ?_
    refine xr_isub (n := 21) dX8_isStatement_20 rfl ?_
    try simp (disch := omega) only [nI_clamp, pk_mul, nI_add, oi1, up2_a, ur_a, Nat.reduceEqDiff, Nat.reduceMul, Nat.reduceAdd, reduceIte, if_pos, if_neg]
    skip
    refine xr_callS (y2 := mX8_within) (As := [_, _, _]) (n := 24) dX8_isStatement_21 lm_X8_61 pm_X8_within kp_static_yX8_within rfl rfl (by simp [Value.category]) rfl ⟨Nat.le_refl _, Nat.le_refl _⟩ ?_
    refine s_X8_within ?_
    dsimp only [xK, xps]
    rw [b2i_iff (q := 0 ≤ s.toInt ∧ s.toInt < N pn) (by (rw [i_sub (by (simp (disch := omega) only [nt]); omega) (by (simp (disch := omega) only [nt]); omega)]; simp (disch := omega) only [nt]; omega))]
    refine xr_beq (tgt := 31) (n := 27) dX8_isStatement_24 (by decide) rfl (fun h24 => ?_) (fun h24 => ?_)
    · refine xr_iconst (v := nI 0) (n := 32) dX8_isStatement_31 (by decide) rfl ?_
      refine xr_ireturn dX8_isStatement_32 rfl (by first | exact b2i_nar | exact nar_1 | exact nar_0) rfl ?_
      first | exact hq3 | (rw [b2i_t (by assumption)] at hq3; exact hq3) | (rw [b2i_f (by assumption)] at hq3; exact hq3)
    · refine xr_iconst (v := nI 1) (n := 28) dX8_isStatement_27 (by decide) rfl ?_
      refine xr_goto (n := 32) dX8_isStatement_28 (by decide) ?_
      refine xr_ireturn dX8_isStatement_32 rfl (by first | exact b2i_nar | exact nar_1 | exact nar_0) rfl ?_
      first | exact hq3 | (rw [b2i_t (by assumption)] at hq3; exact hq3) | (rw [b2i_f (by assumption)] at hq3; exact hq3)

theorem s_X8_ofKind {G : xG} {d : Nat} {f : Nat → xC} {r : Nat × Nat} {Q : Option Value → xM → Prop} {m : Nat} {μ : xS} {n kd : Nat} {P : Nat → Nat → Nat} (hP : isPg (μ 5) n P) (hO : okP n P) (hkd : kd ≤ 4) (hq : Q (some (.int (nI (cntk P kd n)))) (mput f m μ, r)) : xMet G (d + 1) mX8_ofKind [.ref m, .int (nI kd)] (mput f m μ, r) r Q := by
  refine xMet_0 (by decide +kernel) rfl (Nat.le_of_ble_eq_true rfl) ?_
  show xX G (d + 1) mX8_ofKind r r (xΦ G r r Q) 0 [(0, .ref m), (1, .int (nI kd))] [] (mput f m μ, r)
  refine xr_iconst (v := nI 0) (n := 1) dX8_ofKind_0 (by decide) rfl ?_
  refine xq_istore_n 2 (n := 2) dX8_ofKind_1 rfl rfl rfl ?_
  simp only [xst, Nat.beq, List.filter, Bool.not_true, Bool.not_false]
  refine xr_iconst (v := nI 0) (n := 3) dX8_ofKind_2 (by decide) rfl ?_
  refine xq_istore_n 3 (n := 4) dX8_ofKind_3 rfl rfl rfl ?_
  simp only [xst, Nat.beq, List.filter, Bool.not_true, Bool.not_false]
  have hn0 := hP.1
  have hn6 := hO.1
  refine nat_down (P := fun k => xX G (d + 1) mX8_ofKind r r (xΦ G r r Q) 4 [(0, .ref m), (1, .int (nI kd)), (2, .int (nI (cntk P kd k))), (3, .int (nI k))] [] (mput f m (μ), r)) (N := n) ?_ ?_ 0 (by omega)
  · refine xr_iload_n (n := 5) dX8_ofKind_4 rfl rfl ?_
    refine xr_aload_n (n := 6) dX8_ofKind_5 rfl rfl ?_
    refine xr_get (n := 9) dX8_ofKind_6 fl_X8_19 (by first | exact mput_0 _ _ _ | exact mput_r (by decide)) (by rfl) rfl ?_
    refine xr_iconst (v := nI 0) (n := 10) dX8_ofKind_9 (by decide) rfl ?_
    refine xr_iaload (n := 11) dX8_ofKind_10 (by first | exact mput_0 _ _ _ | exact mput_r (by decide)) (by first | exact vp_in_nI (by omega) (by omega)) rfl ?_
    try simp (disch := omega) only [nI_clamp, pk_mul, nI_add, oi1, up2_a, ur_a, Nat.reduceEqDiff, Nat.reduceMul, Nat.reduceAdd, reduceIte, if_pos, if_neg, hn0]
    refine xr_icmp_ge (tgt := 38) (n := 14) dX8_ofKind_11 (by decide) rfl (fun h11 => ?_) (fun h11 => by (exfalso; ((try simp (disch := omega) only [i_lt, i_le, i_eq, nt, i_m1, Int32.toInt_zero] at *); omega)))
    refine xr_iload_n (n := 39) dX8_ofKind_38 rfl rfl ?_
    refine xr_ireturn dX8_ofKind_39 rfl rfl rfl ?_
    exact hq
  · intro k hk ih
    obtain ⟨k0, k1, k2, k3, k4, k6, k5⟩ := hO.2 k hk
    have g0 := hP.g (w := 0) hk (by omega)
    have g1 := hP.g (w := 1) hk (by omega)
    have g6 := hP.g (w := 6) hk (by omega)
    have hc := cntk_le P kd k
    refine xr_iload_n (n := 5) dX8_ofKind_4 rfl rfl ?_
    refine xr_aload_n (n := 6) dX8_ofKind_5 rfl rfl ?_
    refine xr_get (n := 9) dX8_ofKind_6 fl_X8_19 (by first | exact mput_0 _ _ _ | exact mput_r (by decide)) (by rfl) rfl ?_
    refine xr_iconst (v := nI 0) (n := 10) dX8_ofKind_9 (by decide) rfl ?_
    refine xr_iaload (n := 11) dX8_ofKind_10 (by first | exact mput_0 _ _ _ | exact mput_r (by decide)) (by first | exact vp_in_nI (by omega) (by omega)) rfl ?_
    try simp (disch := omega) only [nI_clamp, pk_mul, nI_add, oi1, up2_a, ur_a, Nat.reduceEqDiff, Nat.reduceMul, Nat.reduceAdd, reduceIte, if_pos, if_neg, hn0, g0, g1, g6]
    refine xr_icmp_ge (tgt := 38) (n := 14) dX8_ofKind_11 (by decide) rfl (fun h11 => by (exfalso; ((try simp (disch := omega) only [i_lt, i_le, i_eq, nt, i_m1, Int32.toInt_zero] at *); omega))) (fun h11 => ?_)
    refine xr_iload_n (n := 15) dX8_ofKind_14 rfl rfl ?_
    refine xr_aload_n (n := 16) dX8_ofKind_15 rfl rfl ?_
    refine xr_iload_n (n := 17) dX8_ofKind_16 rfl rfl ?_
    refine xr_iconst (v := nI 0) (n := 18) dX8_ofKind_17 (by decide) rfl ?_
    refine xr_callV (y2 := mX8_of) (As := [_, _]) (n := 21) dX8_ofKind_18 lm_X8_124 pm_X8_of pi_X8_of (by first | exact mput_0 _ _ _ | exact mput_r (by decide)) rfl rfl rfl (by simp [Value.category]) rfl ⟨Nat.le_refl _, Nat.le_refl _⟩ ?_
    refine s_X8_of (by omega) (by omega) ?_
    dsimp only [xK, xps]
    try simp (disch := omega) only [nI_clamp, pk_mul, nI_add, oi1, up2_a, ur_a, Nat.reduceEqDiff, Nat.reduceMul, Nat.reduceAdd, reduceIte, if_pos, if_neg, hn0, g0, g1, g6]
    refine xr_iload_n (n := 22) dX8_ofKind_21 rfl rfl ?_
    refine xr_icmp_ne (tgt := 29) (n := 25) dX8_ofKind_22 (by decide) rfl (fun h22 => ?_) (fun h22 => ?_)
    · refine xr_iconst (v := nI 0) (n := 30) dX8_ofKind_29 (by decide) rfl ?_
      refine xr_iadd (n := 31) dX8_ofKind_30 rfl ?_
      try simp (disch := omega) only [nI_clamp, pk_mul, nI_add, oi1, up2_a, ur_a, Nat.reduceEqDiff, Nat.reduceMul, Nat.reduceAdd, reduceIte, if_pos, if_neg, hn0, g0, g1, g6]
      refine xq_istore_n 2 (n := 32) dX8_ofKind_31 rfl rfl rfl ?_
      simp only [xst, Nat.beq, List.filter, Bool.not_true, Bool.not_false]
      refine xr_iinc (n := 35) dX8_ofKind_32 rfl rfl (rfl) rfl ?_
      simp only [xst, Nat.beq, List.filter, Bool.not_true, Bool.not_false]
      try simp (disch := omega) only [nI_clamp, pk_mul, nI_add, oi1, up2_a, ur_a, Nat.reduceEqDiff, Nat.reduceMul, Nat.reduceAdd, reduceIte, if_pos, if_neg, hn0, g0, g1, g6]
      refine xr_goto (n := 4) dX8_ofKind_35 (by decide) ?_
      first | (rw [cntk_t (by ((try simp (disch := omega) only [i_lt, i_le, i_eq, nt, i_m1, Int32.toInt_zero] at *); omega))] at ih; exact ih) | (rw [cntk_f (by ((try simp (disch := omega) only [i_lt, i_le, i_eq, nt, i_m1, Int32.toInt_zero] at *); omega))] at ih; exact ih)
    · refine xr_iconst (v := nI 1) (n := 26) dX8_ofKind_25 (by decide) rfl ?_
      refine xr_goto (n := 30) dX8_ofKind_26 (by decide) ?_
      refine xr_iadd (n := 31) dX8_ofKind_30 rfl ?_
      try simp (disch := omega) only [nI_clamp, pk_mul, nI_add, oi1, up2_a, ur_a, Nat.reduceEqDiff, Nat.reduceMul, Nat.reduceAdd, reduceIte, if_pos, if_neg, hn0, g0, g1, g6]
      refine xq_istore_n 2 (n := 32) dX8_ofKind_31 rfl rfl rfl ?_
      simp only [xst, Nat.beq, List.filter, Bool.not_true, Bool.not_false]
      refine xr_iinc (n := 35) dX8_ofKind_32 rfl rfl (rfl) rfl ?_
      simp only [xst, Nat.beq, List.filter, Bool.not_true, Bool.not_false]
      try simp (disch := omega) only [nI_clamp, pk_mul, nI_add, oi1, up2_a, ur_a, Nat.reduceEqDiff, Nat.reduceMul, Nat.reduceAdd, reduceIte, if_pos, if_neg, hn0, g0, g1, g6]
      refine xr_goto (n := 4) dX8_ofKind_35 (by decide) ?_
      first | (rw [cntk_t (by ((try simp (disch := omega) only [i_lt, i_le, i_eq, nt, i_m1, Int32.toInt_zero] at *); omega))] at ih; exact ih) | (rw [cntk_f (by ((try simp (disch := omega) only [i_lt, i_le, i_eq, nt, i_m1, Int32.toInt_zero] at *); omega))] at ih; exact ih)

theorem s_X8_canSet {G : xG} {d : Nat} {f : Nat → xC} {r : Nat × Nat} {Q : Option Value → xM → Prop} {m : Nat} {μ : xS} {n : Nat} {P : Nat → Nat → Nat} (hP : isPg (μ 5) n P) (hO : okP n P) (hq : Q (some (.int (setb P n))) (mput f m μ, r)) : xMet G (d + 1) mX8_canSet [.ref m] (mput f m μ, r) r Q := by
  refine xMet_0 (by decide +kernel) rfl (Nat.le_of_ble_eq_true rfl) ?_
  show xX G (d + 1) mX8_canSet r r (xΦ G r r Q) 0 [(0, .ref m)] [] (mput f m μ, r)
  refine xr_iconst (v := nI 0) (n := 1) dX8_canSet_0 (by decide) rfl ?_
  refine xq_istore_n 1 (n := 2) dX8_canSet_1 rfl rfl rfl ?_
  simp only [xst, Nat.beq, List.filter, Bool.not_true, Bool.not_false]
  refine xr_iconst (v := nI 0) (n := 3) dX8_canSet_2 (by decide) rfl ?_
  refine xq_istore_n 2 (n := 4) dX8_canSet_3 rfl rfl rfl ?_
  simp only [xst, Nat.beq, List.filter, Bool.not_true, Bool.not_false]
  have hn0 := hP.1
  have hn6 := hO.1
  refine nat_down (P := fun k => xX G (d + 1) mX8_canSet r r (xΦ G r r Q) 4 [(0, .ref m), (1, .int (setb P k)), (2, .int (nI k))] [] (mput f m (μ), r)) (N := n) ?_ ?_ 0 (by omega)
  · refine xr_iload_n (n := 5) dX8_canSet_4 rfl rfl ?_
    refine xr_aload_n (n := 6) dX8_canSet_5 rfl rfl ?_
    refine xr_get (n := 9) dX8_canSet_6 fl_X8_19 (by first | exact mput_0 _ _ _ | exact mput_r (by decide)) (by rfl) rfl ?_
    refine xr_iconst (v := nI 0) (n := 10) dX8_canSet_9 (by decide) rfl ?_
    refine xr_iaload (n := 11) dX8_canSet_10 (by first | exact mput_0 _ _ _ | exact mput_r (by decide)) (by first | exact vp_in_nI (by omega) (by omega)) rfl ?_
    try simp (disch := omega) only [nI_clamp, pk_mul, nI_add, oi1, up2_a, ur_a, Nat.reduceEqDiff, Nat.reduceMul, Nat.reduceAdd, reduceIte, if_pos, if_neg, hn0]
    refine xr_icmp_ge (tgt := 44) (n := 14) dX8_canSet_11 (by decide) rfl (fun h11 => ?_) (fun h11 => by (exfalso; ((try simp (disch := omega) only [i_lt, i_le, i_eq, nt, i_m1, Int32.toInt_zero] at *); omega)))
    refine xr_iload_n (n := 45) dX8_canSet_44 rfl rfl ?_
    refine xr_ireturn dX8_canSet_45 rfl rfl rfl ?_
    exact hq
  · intro k hk ih
    obtain ⟨k0, k1, k2, k3, k4, k6, k5⟩ := hO.2 k hk
    have g0 := hP.g (w := 0) hk (by omega)
    have g1 := hP.g (w := 1) hk (by omega)
    have g6 := hP.g (w := 6) hk (by omega)
    refine xr_iload_n (n := 5) dX8_canSet_4 rfl rfl ?_
    refine xr_aload_n (n := 6) dX8_canSet_5 rfl rfl ?_
    refine xr_get (n := 9) dX8_canSet_6 fl_X8_19 (by first | exact mput_0 _ _ _ | exact mput_r (by decide)) (by rfl) rfl ?_
    refine xr_iconst (v := nI 0) (n := 10) dX8_canSet_9 (by decide) rfl ?_
    refine xr_iaload (n := 11) dX8_canSet_10 (by first | exact mput_0 _ _ _ | exact mput_r (by decide)) (by first | exact vp_in_nI (by omega) (by omega)) rfl ?_
    try simp (disch := omega) only [nI_clamp, pk_mul, nI_add, oi1, up2_a, ur_a, Nat.reduceEqDiff, Nat.reduceMul, Nat.reduceAdd, reduceIte, if_pos, if_neg, hn0, g0, g1, g6]
    refine xr_icmp_ge (tgt := 44) (n := 14) dX8_canSet_11 (by decide) rfl (fun h11 => by (exfalso; ((try simp (disch := omega) only [i_lt, i_le, i_eq, nt, i_m1, Int32.toInt_zero] at *); omega))) (fun h11 => ?_)
    refine xr_iload_n (n := 15) dX8_canSet_14 rfl rfl ?_
    refine xr_aload_n (n := 16) dX8_canSet_15 rfl rfl ?_
    refine xr_iload_n (n := 17) dX8_canSet_16 rfl rfl ?_
    refine xr_iconst (v := nI 0) (n := 18) dX8_canSet_17 (by decide) rfl ?_
    refine xr_callV (y2 := mX8_of) (As := [_, _]) (n := 21) dX8_canSet_18 lm_X8_124 pm_X8_of pi_X8_of (by first | exact mput_0 _ _ _ | exact mput_r (by decide)) rfl rfl rfl (by simp [Value.category]) rfl ⟨Nat.le_refl _, Nat.le_refl _⟩ ?_
    refine s_X8_of (by omega) (by omega) ?_
    dsimp only [xK, xps]
    try simp (disch := omega) only [nI_clamp, pk_mul, nI_add, oi1, up2_a, ur_a, Nat.reduceEqDiff, Nat.reduceMul, Nat.reduceAdd, reduceIte, if_pos, if_neg, hn0, g0, g1, g6]
    refine xr_if_ne (tgt := 35) (n := 24) dX8_canSet_21 (by decide) rfl (fun h21 => ?_) (fun h21 => ?_)
    · refine xr_iconst (v := nI 0) (n := 36) dX8_canSet_35 (by decide) rfl ?_
      refine xr_ior (n := 37) dX8_canSet_36 rfl ?_
      refine xq_istore_n 1 (n := 38) dX8_canSet_37 rfl rfl rfl ?_
      simp only [xst, Nat.beq, List.filter, Bool.not_true, Bool.not_false]
      refine xr_iinc (n := 41) dX8_canSet_38 rfl rfl (rfl) rfl ?_
      simp only [xst, Nat.beq, List.filter, Bool.not_true, Bool.not_false]
      try simp (disch := omega) only [nI_clamp, pk_mul, nI_add, oi1, up2_a, ur_a, Nat.reduceEqDiff, Nat.reduceMul, Nat.reduceAdd, reduceIte, if_pos, if_neg, hn0, g0, g1, g6]
      refine xr_goto (n := 4) dX8_canSet_41 (by decide) ?_
      rw [setb_s] at ih
      first | (rw [if_pos (by ((try simp (disch := omega) only [i_lt, i_le, i_eq, nt, i_m1, Int32.toInt_zero] at *); omega))] at ih; exact ih) | (rw [if_neg (by ((try simp (disch := omega) only [i_lt, i_le, i_eq, nt, i_m1, Int32.toInt_zero] at *); omega))] at ih; exact ih)
    · refine xr_iconst (v := nI 1) (n := 25) dX8_canSet_24 (by decide) rfl ?_
      refine xr_aload_n (n := 26) dX8_canSet_25 rfl rfl ?_
      refine xr_iload_n (n := 27) dX8_canSet_26 rfl rfl ?_
      refine xr_iconst (v := nI 1) (n := 28) dX8_canSet_27 (by decide) rfl ?_
      refine xr_callV (y2 := mX8_of) (As := [_, _]) (n := 31) dX8_canSet_28 lm_X8_124 pm_X8_of pi_X8_of (by first | exact mput_0 _ _ _ | exact mput_r (by decide)) rfl rfl rfl (by simp [Value.category]) rfl ⟨Nat.le_refl _, Nat.le_refl _⟩ ?_
      refine s_X8_of (by omega) (by omega) ?_
      dsimp only [xK, xps]
      try simp (disch := omega) only [nI_clamp, pk_mul, nI_add, oi1, up2_a, ur_a, Nat.reduceEqDiff, Nat.reduceMul, Nat.reduceAdd, reduceIte, if_pos, if_neg, hn0, g0, g1, g6]
      refine xr_ishl (n := 32) dX8_canSet_31 rfl ?_
      refine xr_goto (n := 36) dX8_canSet_32 (by decide) ?_
      refine xr_ior (n := 37) dX8_canSet_36 rfl ?_
      refine xq_istore_n 1 (n := 38) dX8_canSet_37 rfl rfl rfl ?_
      simp only [xst, Nat.beq, List.filter, Bool.not_true, Bool.not_false]
      refine xr_iinc (n := 41) dX8_canSet_38 rfl rfl (rfl) rfl ?_
      simp only [xst, Nat.beq, List.filter, Bool.not_true, Bool.not_false]
      try simp (disch := omega) only [nI_clamp, pk_mul, nI_add, oi1, up2_a, ur_a, Nat.reduceEqDiff, Nat.reduceMul, Nat.reduceAdd, reduceIte, if_pos, if_neg, hn0, g0, g1, g6]
      refine xr_goto (n := 4) dX8_canSet_41 (by decide) ?_
      rw [setb_s] at ih
      first | (rw [if_pos (by ((try simp (disch := omega) only [i_lt, i_le, i_eq, nt, i_m1, Int32.toInt_zero] at *); omega))] at ih; exact ih) | (rw [if_neg (by ((try simp (disch := omega) only [i_lt, i_le, i_eq, nt, i_m1, Int32.toInt_zero] at *); omega))] at ih; exact ih)

theorem s_X8_depthAll {G : xG} {d : Nat} {f : Nat → xC} {r : Nat × Nat} {Q : Option Value → xM → Prop} {m : Nat} {μ : xS} {n : Nat} {P : Nat → Nat → Nat} (hP : isPg (μ 5) n P) (hO : okP n P) (hq : Q (some (.int (nI (dpm P n)))) (mput f m μ, r)) : xMet G (d + 1) mX8_depthAll [.ref m] (mput f m μ, r) r Q := by
  refine xMet_0 (by decide +kernel) rfl (Nat.le_of_ble_eq_true rfl) ?_
  show xX G (d + 1) mX8_depthAll r r (xΦ G r r Q) 0 [(0, .ref m)] [] (mput f m μ, r)
  refine xr_iconst (v := nI 0) (n := 1) dX8_depthAll_0 (by decide) rfl ?_
  refine xq_istore_n 1 (n := 2) dX8_depthAll_1 rfl rfl rfl ?_
  simp only [xst, Nat.beq, List.filter, Bool.not_true, Bool.not_false]
  refine xr_iconst (v := nI 0) (n := 3) dX8_depthAll_2 (by decide) rfl ?_
  refine xq_istore_n 2 (n := 4) dX8_depthAll_3 rfl rfl rfl ?_
  simp only [xst, Nat.beq, List.filter, Bool.not_true, Bool.not_false]
  have hn0 := hP.1
  have hn6 := hO.1
  have key : ∀ s, s ≤ n → ∀ (l : List (Nat × Value)), (l = [(0, .ref m), (1, .int (nI (dpm P s))), (2, .int (nI s))] ∨ ∃ a b : Int32, l = [(0, .ref m), (1, .int (nI (dpm P s))), (2, .int (nI s)), (3, .int a), (4, .int b)]) → xX G (d + 1) mX8_depthAll r r (xΦ G r r Q) 4 l [] (mput f m μ, r) := by
    refine nat_down (P := fun s => ∀ (l : List (Nat × Value)), (l = [(0, .ref m), (1, .int (nI (dpm P s))), (2, .int (nI s))] ∨ ∃ a b : Int32, l = [(0, .ref m), (1, .int (nI (dpm P s))), (2, .int (nI s)), (3, .int a), (4, .int b)]) → xX G (d + 1) mX8_depthAll r r (xΦ G r r Q) 4 l [] (mput f m μ, r)) (N := n) ?_ ?_
    · intro l hl
      rcases hl with rfl | ⟨va, vb, rfl⟩
      · refine xr_iload_n (n := 5) dX8_depthAll_4 rfl rfl ?_
        refine xr_aload_n (n := 6) dX8_depthAll_5 rfl rfl ?_
        refine xr_get (n := 9) dX8_depthAll_6 fl_X8_19 (by first | exact mput_0 _ _ _ | exact mput_r (by decide)) (by rfl) rfl ?_
        refine xr_iconst (v := nI 0) (n := 10) dX8_depthAll_9 (by decide) rfl ?_
        refine xr_iaload (n := 11) dX8_depthAll_10 (by first | exact mput_0 _ _ _ | exact mput_r (by decide)) (by first | exact vp_in_nI (by omega) (by omega)) rfl ?_
        try simp (disch := omega) only [nI_clamp, pk_mul, nI_add, oi1, up2_a, ur_a, Nat.reduceEqDiff, Nat.reduceMul, Nat.reduceAdd, reduceIte, if_pos, if_neg, hn0]
        refine xr_icmp_ge (tgt := 103) (n := 14) dX8_depthAll_11 (by decide) rfl (fun h11 => ?_) (fun h11 => by (exfalso; ((try simp (disch := omega) only [i_lt, i_le, i_eq, nt, i_m1, Int32.toInt_zero] at *); omega)))
        refine xr_iload_n (n := 104) dX8_depthAll_103 rfl rfl ?_
        refine xr_ireturn dX8_depthAll_104 rfl rfl rfl ?_
        exact hq
      · refine xr_iload_n (n := 5) dX8_depthAll_4 rfl rfl ?_
        refine xr_aload_n (n := 6) dX8_depthAll_5 rfl rfl ?_
        refine xr_get (n := 9) dX8_depthAll_6 fl_X8_19 (by first | exact mput_0 _ _ _ | exact mput_r (by decide)) (by rfl) rfl ?_
        refine xr_iconst (v := nI 0) (n := 10) dX8_depthAll_9 (by decide) rfl ?_
        refine xr_iaload (n := 11) dX8_depthAll_10 (by first | exact mput_0 _ _ _ | exact mput_r (by decide)) (by first | exact vp_in_nI (by omega) (by omega)) rfl ?_
        try simp (disch := omega) only [nI_clamp, pk_mul, nI_add, oi1, up2_a, ur_a, Nat.reduceEqDiff, Nat.reduceMul, Nat.reduceAdd, reduceIte, if_pos, if_neg, hn0]
        refine xr_icmp_ge (tgt := 103) (n := 14) dX8_depthAll_11 (by decide) rfl (fun h11 => ?_) (fun h11 => by (exfalso; ((try simp (disch := omega) only [i_lt, i_le, i_eq, nt, i_m1, Int32.toInt_zero] at *); omega)))
        refine xr_iload_n (n := 104) dX8_depthAll_103 rfl rfl ?_
        refine xr_ireturn dX8_depthAll_104 rfl rfl rfl ?_
        exact hq
    · intro s hs ih l hl
      obtain ⟨k0, k1, k2, k3, k4, k6, k5⟩ := hO.2 s hs
      have g0 := hP.g (w := 0) hs (by omega)
      have g1 := hP.g (w := 1) hs (by omega)
      have g6 := hP.g (w := 6) hs (by omega)
      have inner : ∀ k, k ≤ s → xX G (d + 1) mX8_depthAll r r (xΦ G r r Q) 33 [(0, .ref m), (1, .int (nI (dpm P s))), (2, .int (nI s)), (3, .int (nI (dpi P s k))), (4, .int (nI k))] [] (mput f m μ, r) := by
        have hdl := dpi_le P s s
        have hml := dpm_le P s
        refine nat_down (P := fun k => xX G (d + 1) mX8_depthAll r r (xΦ G r r Q) 33 [(0, .ref m), (1, .int (nI (dpm P s))), (2, .int (nI s)), (3, .int (nI (dpi P s k))), (4, .int (nI k))] [] (mput f m (μ), r)) (N := s) ?_ ?_
        · refine xr_iload (n := 35) dX8_depthAll_33 rfl rfl ?_
          refine xr_iload_n (n := 36) dX8_depthAll_35 rfl rfl ?_
          refine xr_icmp_ge (tgt := 86) (n := 39) dX8_depthAll_36 (by decide) rfl (fun h36 => ?_) (fun h36 => by (exfalso; ((try simp (disch := omega) only [i_lt, i_le, i_eq, nt, i_m1, Int32.toInt_zero] at *); omega)))
          refine xr_iload_n (n := 87) dX8_depthAll_86 rfl rfl ?_
          refine xr_iload_n (n := 88) dX8_depthAll_87 rfl rfl ?_
          refine xr_icmp_le (tgt := 95) (n := 91) dX8_depthAll_88 (by decide) rfl (fun h88 => ?_) (fun h88 => ?_)
          · have eM : dpm P (s + 1) = dpm P s := if_neg (by ((try simp (disch := omega) only [i_lt, i_le, i_eq, nt, i_m1, Int32.toInt_zero] at *); omega))
            refine xr_iload_n (n := 96) dX8_depthAll_95 rfl rfl ?_
            refine xq_istore_n 1 (n := 97) dX8_depthAll_96 rfl rfl rfl ?_
            simp only [xst, Nat.beq, List.filter, Bool.not_true, Bool.not_false]
            refine xr_iinc (n := 100) dX8_depthAll_97 rfl rfl (rfl) rfl ?_
            simp only [xst, Nat.beq, List.filter, Bool.not_true, Bool.not_false]
            try simp (disch := omega) only [nI_clamp, pk_mul, nI_add, oi1, up2_a, ur_a, Nat.reduceEqDiff, Nat.reduceMul, Nat.reduceAdd, reduceIte, if_pos, if_neg, hn0, g0, g1, g6]
            refine xr_goto (n := 4) dX8_depthAll_100 (by decide) ?_
            rw [eM] at ih
            exact ih _ (Or.inr ⟨_, _, rfl⟩)
          · have eM : dpm P (s + 1) = dpi P s s := if_pos (by ((try simp (disch := omega) only [i_lt, i_le, i_eq, nt, i_m1, Int32.toInt_zero] at *); omega))
            refine xr_iload_n (n := 92) dX8_depthAll_91 rfl rfl ?_
            refine xr_goto (n := 96) dX8_depthAll_92 (by decide) ?_
            refine xq_istore_n 1 (n := 97) dX8_depthAll_96 rfl rfl rfl ?_
            simp only [xst, Nat.beq, List.filter, Bool.not_true, Bool.not_false]
            refine xr_iinc (n := 100) dX8_depthAll_97 rfl rfl (rfl) rfl ?_
            simp only [xst, Nat.beq, List.filter, Bool.not_true, Bool.not_false]
            try simp (disch := omega) only [nI_clamp, pk_mul, nI_add, oi1, up2_a, ur_a, Nat.reduceEqDiff, Nat.reduceMul, Nat.reduceAdd, reduceIte, if_pos, if_neg, hn0, g0, g1, g6]
            refine xr_goto (n := 4) dX8_depthAll_100 (by decide) ?_
            rw [eM] at ih
            exact ih _ (Or.inr ⟨_, _, rfl⟩)
        · intro k hk2 ih2
          obtain ⟨j0, j1, j2, j3, j4, j6, j5⟩ := hO.2 k (by omega)
          have e0 := hP.g (s := k) (w := 0) (by omega) (by omega)
          have e6 := hP.g (s := k) (w := 6) (by omega) (by omega)
          have hdl := dpi_le P s k
          refine xr_iload (n := 35) dX8_depthAll_33 rfl rfl ?_
          refine xr_iload_n (n := 36) dX8_depthAll_35 rfl rfl ?_
          refine xr_icmp_ge (tgt := 86) (n := 39) dX8_depthAll_36 (by decide) rfl (fun h36 => by (exfalso; ((try simp (disch := omega) only [i_lt, i_le, i_eq, nt, i_m1, Int32.toInt_zero] at *); omega))) (fun h36 => ?_)
          refine xr_iload_n (n := 40) dX8_depthAll_39 rfl rfl ?_
          refine xr_aload_n (n := 41) dX8_depthAll_40 rfl rfl ?_
          refine xr_iload_n (n := 42) dX8_depthAll_41 rfl rfl ?_
          refine xr_iconst (v := nI 0) (n := 43) dX8_depthAll_42 (by decide) rfl ?_
          refine xr_callV (y2 := mX8_of) (As := [_, _]) (n := 46) dX8_depthAll_43 lm_X8_124 pm_X8_of pi_X8_of (by first | exact mput_0 _ _ _ | exact mput_r (by decide)) rfl rfl rfl (by simp [Value.category]) rfl ⟨Nat.le_refl _, Nat.le_refl _⟩ ?_
          refine s_X8_of (by omega) (by omega) ?_
          dsimp only [xK, xps]
          try simp (disch := omega) only [nI_clamp, pk_mul, nI_add, oi1, up2_a, ur_a, Nat.reduceEqDiff, Nat.reduceMul, Nat.reduceAdd, reduceIte, if_pos, if_neg, hn0, g0, g1, g6, e0, e6]
          refine xr_iconst (v := nI 3) (n := 47) dX8_depthAll_46 (by decide) rfl ?_
          refine xr_icmp_lt (tgt := 77) (n := 50) dX8_depthAll_47 (by decide) rfl (fun h47 => ?_) (fun h47 => ?_)
          · refine xr_iconst (v := nI 0) (n := 78) dX8_depthAll_77 (by decide) rfl ?_
            refine xr_iadd (n := 79) dX8_depthAll_78 rfl ?_
            try simp (disch := omega) only [nI_clamp, pk_mul, nI_add, oi1, up2_a, ur_a, Nat.reduceEqDiff, Nat.reduceMul, Nat.reduceAdd, reduceIte, if_pos, if_neg, hn0, g0, g1, g6, e0, e6]
            refine xq_istore_n 3 (n := 80) dX8_depthAll_79 rfl rfl rfl ?_
            simp only [xst, Nat.beq, List.filter, Bool.not_true, Bool.not_false]
            refine xr_iinc (n := 83) dX8_depthAll_80 rfl rfl (rfl) rfl ?_
            simp only [xst, Nat.beq, List.filter, Bool.not_true, Bool.not_false]
            try simp (disch := omega) only [nI_clamp, pk_mul, nI_add, oi1, up2_a, ur_a, Nat.reduceEqDiff, Nat.reduceMul, Nat.reduceAdd, reduceIte, if_pos, if_neg, hn0, g0, g1, g6, e0, e6]
            refine xr_goto (n := 33) dX8_depthAll_83 (by decide) ?_
            first | (rw [dpi_t ⟨by ((try simp (disch := omega) only [i_lt, i_le, i_eq, nt, i_m1, Int32.toInt_zero] at *); omega), by ((try simp (disch := omega) only [i_lt, i_le, i_eq, nt, i_m1, Int32.toInt_zero] at *); omega), by ((try simp (disch := omega) only [i_lt, i_le, i_eq, nt, i_m1, Int32.toInt_zero] at *); omega)⟩] at ih2; exact ih2) | (rw [dpi_f (fun q => by ((try simp (disch := omega) only [i_lt, i_le, i_eq, nt, i_m1, Int32.toInt_zero] at *); omega))] at ih2; exact ih2)
          · refine xr_aload_n (n := 51) dX8_depthAll_50 rfl rfl ?_
            refine xr_iload (n := 53) dX8_depthAll_51 rfl rfl ?_
            refine xr_iconst (v := nI 0) (n := 54) dX8_depthAll_53 (by decide) rfl ?_
            refine xr_callV (y2 := mX8_of) (As := [_, _]) (n := 57) dX8_depthAll_54 lm_X8_124 pm_X8_of pi_X8_of (by first | exact mput_0 _ _ _ | exact mput_r (by decide)) rfl rfl rfl (by simp [Value.category]) rfl ⟨Nat.le_refl _, Nat.le_refl _⟩ ?_
            refine s_X8_of (by omega) (by omega) ?_
            dsimp only [xK, xps]
            try simp (disch := omega) only [nI_clamp, pk_mul, nI_add, oi1, up2_a, ur_a, Nat.reduceEqDiff, Nat.reduceMul, Nat.reduceAdd, reduceIte, if_pos, if_neg, hn0, g0, g1, g6, e0, e6]
            refine xr_iconst (v := nI 3) (n := 58) dX8_depthAll_57 (by decide) rfl ?_
            refine xr_icmp_lt (tgt := 77) (n := 61) dX8_depthAll_58 (by decide) rfl (fun h58 => ?_) (fun h58 => ?_)
            · refine xr_iconst (v := nI 0) (n := 78) dX8_depthAll_77 (by decide) rfl ?_
              refine xr_iadd (n := 79) dX8_depthAll_78 rfl ?_
              try simp (disch := omega) only [nI_clamp, pk_mul, nI_add, oi1, up2_a, ur_a, Nat.reduceEqDiff, Nat.reduceMul, Nat.reduceAdd, reduceIte, if_pos, if_neg, hn0, g0, g1, g6, e0, e6]
              refine xq_istore_n 3 (n := 80) dX8_depthAll_79 rfl rfl rfl ?_
              simp only [xst, Nat.beq, List.filter, Bool.not_true, Bool.not_false]
              refine xr_iinc (n := 83) dX8_depthAll_80 rfl rfl (rfl) rfl ?_
              simp only [xst, Nat.beq, List.filter, Bool.not_true, Bool.not_false]
              try simp (disch := omega) only [nI_clamp, pk_mul, nI_add, oi1, up2_a, ur_a, Nat.reduceEqDiff, Nat.reduceMul, Nat.reduceAdd, reduceIte, if_pos, if_neg, hn0, g0, g1, g6, e0, e6]
              refine xr_goto (n := 33) dX8_depthAll_83 (by decide) ?_
              first | (rw [dpi_t ⟨by ((try simp (disch := omega) only [i_lt, i_le, i_eq, nt, i_m1, Int32.toInt_zero] at *); omega), by ((try simp (disch := omega) only [i_lt, i_le, i_eq, nt, i_m1, Int32.toInt_zero] at *); omega), by ((try simp (disch := omega) only [i_lt, i_le, i_eq, nt, i_m1, Int32.toInt_zero] at *); omega)⟩] at ih2; exact ih2) | (rw [dpi_f (fun q => by ((try simp (disch := omega) only [i_lt, i_le, i_eq, nt, i_m1, Int32.toInt_zero] at *); omega))] at ih2; exact ih2)
            · have e3k := j6 (by ((try simp (disch := omega) only [i_lt, i_le, i_eq, nt, i_m1, Int32.toInt_zero] at *); omega))
              refine xr_aload_n (n := 62) dX8_depthAll_61 rfl rfl ?_
              refine xr_iload (n := 64) dX8_depthAll_62 rfl rfl ?_
              refine xr_bipush (v := nI 6) (n := 66) dX8_depthAll_64 (by decide) rfl ?_
              refine xr_callV (y2 := mX8_of) (As := [_, _]) (n := 69) dX8_depthAll_66 lm_X8_124 pm_X8_of pi_X8_of (by first | exact mput_0 _ _ _ | exact mput_r (by decide)) rfl rfl rfl (by simp [Value.category]) rfl ⟨Nat.le_refl _, Nat.le_refl _⟩ ?_
              refine s_X8_of (by omega) (by omega) ?_
              dsimp only [xK, xps]
              try simp (disch := omega) only [nI_clamp, pk_mul, nI_add, oi1, up2_a, ur_a, Nat.reduceEqDiff, Nat.reduceMul, Nat.reduceAdd, reduceIte, if_pos, if_neg, hn0, g0, g1, g6, e0, e6]
              refine xr_iload_n (n := 70) dX8_depthAll_69 rfl rfl ?_
              refine xr_icmp_le (tgt := 77) (n := 73) dX8_depthAll_70 (by decide) rfl (fun h70 => ?_) (fun h70 => ?_)
              · refine xr_iconst (v := nI 0) (n := 78) dX8_depthAll_77 (by decide) rfl ?_
                refine xr_iadd (n := 79) dX8_depthAll_78 rfl ?_
                try simp (disch := omega) only [nI_clamp, pk_mul, nI_add, oi1, up2_a, ur_a, Nat.reduceEqDiff, Nat.reduceMul, Nat.reduceAdd, reduceIte, if_pos, if_neg, hn0, g0, g1, g6, e0, e6]
                refine xq_istore_n 3 (n := 80) dX8_depthAll_79 rfl rfl rfl ?_
                simp only [xst, Nat.beq, List.filter, Bool.not_true, Bool.not_false]
                refine xr_iinc (n := 83) dX8_depthAll_80 rfl rfl (rfl) rfl ?_
                simp only [xst, Nat.beq, List.filter, Bool.not_true, Bool.not_false]
                try simp (disch := omega) only [nI_clamp, pk_mul, nI_add, oi1, up2_a, ur_a, Nat.reduceEqDiff, Nat.reduceMul, Nat.reduceAdd, reduceIte, if_pos, if_neg, hn0, g0, g1, g6, e0, e6]
                refine xr_goto (n := 33) dX8_depthAll_83 (by decide) ?_
                first | (rw [dpi_t ⟨by ((try simp (disch := omega) only [i_lt, i_le, i_eq, nt, i_m1, Int32.toInt_zero] at *); omega), by ((try simp (disch := omega) only [i_lt, i_le, i_eq, nt, i_m1, Int32.toInt_zero] at *); omega), by ((try simp (disch := omega) only [i_lt, i_le, i_eq, nt, i_m1, Int32.toInt_zero] at *); omega)⟩] at ih2; exact ih2) | (rw [dpi_f (fun q => by ((try simp (disch := omega) only [i_lt, i_le, i_eq, nt, i_m1, Int32.toInt_zero] at *); omega))] at ih2; exact ih2)
              · refine xr_iconst (v := nI 1) (n := 74) dX8_depthAll_73 (by decide) rfl ?_
                refine xr_goto (n := 78) dX8_depthAll_74 (by decide) ?_
                refine xr_iadd (n := 79) dX8_depthAll_78 rfl ?_
                try simp (disch := omega) only [nI_clamp, pk_mul, nI_add, oi1, up2_a, ur_a, Nat.reduceEqDiff, Nat.reduceMul, Nat.reduceAdd, reduceIte, if_pos, if_neg, hn0, g0, g1, g6, e0, e6]
                refine xq_istore_n 3 (n := 80) dX8_depthAll_79 rfl rfl rfl ?_
                simp only [xst, Nat.beq, List.filter, Bool.not_true, Bool.not_false]
                refine xr_iinc (n := 83) dX8_depthAll_80 rfl rfl (rfl) rfl ?_
                simp only [xst, Nat.beq, List.filter, Bool.not_true, Bool.not_false]
                try simp (disch := omega) only [nI_clamp, pk_mul, nI_add, oi1, up2_a, ur_a, Nat.reduceEqDiff, Nat.reduceMul, Nat.reduceAdd, reduceIte, if_pos, if_neg, hn0, g0, g1, g6, e0, e6]
                refine xr_goto (n := 33) dX8_depthAll_83 (by decide) ?_
                first | (rw [dpi_t ⟨by ((try simp (disch := omega) only [i_lt, i_le, i_eq, nt, i_m1, Int32.toInt_zero] at *); omega), by ((try simp (disch := omega) only [i_lt, i_le, i_eq, nt, i_m1, Int32.toInt_zero] at *); omega), by ((try simp (disch := omega) only [i_lt, i_le, i_eq, nt, i_m1, Int32.toInt_zero] at *); omega)⟩] at ih2; exact ih2) | (rw [dpi_f (fun q => by ((try simp (disch := omega) only [i_lt, i_le, i_eq, nt, i_m1, Int32.toInt_zero] at *); omega))] at ih2; exact ih2)
      rcases hl with rfl | ⟨va, vb, rfl⟩
      · refine xr_iload_n (n := 5) dX8_depthAll_4 rfl rfl ?_
        refine xr_aload_n (n := 6) dX8_depthAll_5 rfl rfl ?_
        refine xr_get (n := 9) dX8_depthAll_6 fl_X8_19 (by first | exact mput_0 _ _ _ | exact mput_r (by decide)) (by rfl) rfl ?_
        refine xr_iconst (v := nI 0) (n := 10) dX8_depthAll_9 (by decide) rfl ?_
        refine xr_iaload (n := 11) dX8_depthAll_10 (by first | exact mput_0 _ _ _ | exact mput_r (by decide)) (by first | exact vp_in_nI (by omega) (by omega)) rfl ?_
        try simp (disch := omega) only [nI_clamp, pk_mul, nI_add, oi1, up2_a, ur_a, Nat.reduceEqDiff, Nat.reduceMul, Nat.reduceAdd, reduceIte, if_pos, if_neg, hn0, g0, g1, g6]
        refine xr_icmp_ge (tgt := 103) (n := 14) dX8_depthAll_11 (by decide) rfl (fun h11 => by (exfalso; ((try simp (disch := omega) only [i_lt, i_le, i_eq, nt, i_m1, Int32.toInt_zero] at *); omega))) (fun h11 => ?_)
        refine xr_aload_n (n := 15) dX8_depthAll_14 rfl rfl ?_
        refine xr_iload_n (n := 16) dX8_depthAll_15 rfl rfl ?_
        refine xr_iconst (v := nI 0) (n := 17) dX8_depthAll_16 (by decide) rfl ?_
        refine xr_callV (y2 := mX8_of) (As := [_, _]) (n := 20) dX8_depthAll_17 lm_X8_124 pm_X8_of pi_X8_of (by first | exact mput_0 _ _ _ | exact mput_r (by decide)) rfl rfl rfl (by simp [Value.category]) rfl ⟨Nat.le_refl _, Nat.le_refl _⟩ ?_
        refine s_X8_of (by omega) (by omega) ?_
        dsimp only [xK, xps]
        try simp (disch := omega) only [nI_clamp, pk_mul, nI_add, oi1, up2_a, ur_a, Nat.reduceEqDiff, Nat.reduceMul, Nat.reduceAdd, reduceIte, if_pos, if_neg, hn0, g0, g1, g6]
        refine xr_iconst (v := nI 3) (n := 21) dX8_depthAll_20 (by decide) rfl ?_
        refine xr_icmp_lt (tgt := 28) (n := 24) dX8_depthAll_21 (by decide) rfl (fun h21 => ?_) (fun h21 => ?_)
        · have e3 : dpi P s 0 = 0 := if_neg (by ((try simp (disch := omega) only [i_lt, i_le, i_eq, nt, i_m1, Int32.toInt_zero] at *); omega))
          refine xr_iconst (v := nI 0) (n := 29) dX8_depthAll_28 (by decide) rfl ?_
          refine xq_istore_n 3 (n := 30) dX8_depthAll_29 rfl rfl rfl ?_
          simp only [xst, Nat.beq, List.filter, Bool.not_true, Bool.not_false]
          refine xr_iconst (v := nI 0) (n := 31) dX8_depthAll_30 (by decide) rfl ?_
          refine xr_istore (n := 33) dX8_depthAll_31 rfl rfl ?_
          simp only [xst, Nat.beq, List.filter, Bool.not_true, Bool.not_false]
          have i0 := inner 0 (Nat.zero_le _)
          rw [e3] at i0
          exact i0
        · have e3 : dpi P s 0 = 1 := if_pos (by ((try simp (disch := omega) only [i_lt, i_le, i_eq, nt, i_m1, Int32.toInt_zero] at *); omega))
          refine xr_iconst (v := nI 1) (n := 25) dX8_depthAll_24 (by decide) rfl ?_
          refine xr_goto (n := 29) dX8_depthAll_25 (by decide) ?_
          refine xq_istore_n 3 (n := 30) dX8_depthAll_29 rfl rfl rfl ?_
          simp only [xst, Nat.beq, List.filter, Bool.not_true, Bool.not_false]
          refine xr_iconst (v := nI 0) (n := 31) dX8_depthAll_30 (by decide) rfl ?_
          refine xr_istore (n := 33) dX8_depthAll_31 rfl rfl ?_
          simp only [xst, Nat.beq, List.filter, Bool.not_true, Bool.not_false]
          have i0 := inner 0 (Nat.zero_le _)
          rw [e3] at i0
          exact i0
      · refine xr_iload_n (n := 5) dX8_depthAll_4 rfl rfl ?_
        refine xr_aload_n (n := 6) dX8_depthAll_5 rfl rfl ?_
        refine xr_get (n := 9) dX8_depthAll_6 fl_X8_19 (by first | exact mput_0 _ _ _ | exact mput_r (by decide)) (by rfl) rfl ?_
        refine xr_iconst (v := nI 0) (n := 10) dX8_depthAll_9 (by decide) rfl ?_
        refine xr_iaload (n := 11) dX8_depthAll_10 (by first | exact mput_0 _ _ _ | exact mput_r (by decide)) (by first | exact vp_in_nI (by omega) (by omega)) rfl ?_
        try simp (disch := omega) only [nI_clamp, pk_mul, nI_add, oi1, up2_a, ur_a, Nat.reduceEqDiff, Nat.reduceMul, Nat.reduceAdd, reduceIte, if_pos, if_neg, hn0, g0, g1, g6]
        refine xr_icmp_ge (tgt := 103) (n := 14) dX8_depthAll_11 (by decide) rfl (fun h11 => by (exfalso; ((try simp (disch := omega) only [i_lt, i_le, i_eq, nt, i_m1, Int32.toInt_zero] at *); omega))) (fun h11 => ?_)
        refine xr_aload_n (n := 15) dX8_depthAll_14 rfl rfl ?_
        refine xr_iload_n (n := 16) dX8_depthAll_15 rfl rfl ?_
        refine xr_iconst (v := nI 0) (n := 17) dX8_depthAll_16 (by decide) rfl ?_
        refine xr_callV (y2 := mX8_of) (As := [_, _]) (n := 20) dX8_depthAll_17 lm_X8_124 pm_X8_of pi_X8_of (by first | exact mput_0 _ _ _ | exact mput_r (by decide)) rfl rfl rfl (by simp [Value.category]) rfl ⟨Nat.le_refl _, Nat.le_refl _⟩ ?_
        refine s_X8_of (by omega) (by omega) ?_
        dsimp only [xK, xps]
        try simp (disch := omega) only [nI_clamp, pk_mul, nI_add, oi1, up2_a, ur_a, Nat.reduceEqDiff, Nat.reduceMul, Nat.reduceAdd, reduceIte, if_pos, if_neg, hn0, g0, g1, g6]
        refine xr_iconst (v := nI 3) (n := 21) dX8_depthAll_20 (by decide) rfl ?_
        refine xr_icmp_lt (tgt := 28) (n := 24) dX8_depthAll_21 (by decide) rfl (fun h21 => ?_) (fun h21 => ?_)
        · have e3 : dpi P s 0 = 0 := if_neg (by ((try simp (disch := omega) only [i_lt, i_le, i_eq, nt, i_m1, Int32.toInt_zero] at *); omega))
          refine xr_iconst (v := nI 0) (n := 29) dX8_depthAll_28 (by decide) rfl ?_
          refine xq_istore_n 3 (n := 30) dX8_depthAll_29 rfl rfl rfl ?_
          simp only [xst, Nat.beq, List.filter, Bool.not_true, Bool.not_false]
          refine xr_iconst (v := nI 0) (n := 31) dX8_depthAll_30 (by decide) rfl ?_
          refine xr_istore (n := 33) dX8_depthAll_31 rfl rfl ?_
          simp only [xst, Nat.beq, List.filter, Bool.not_true, Bool.not_false]
          have i0 := inner 0 (Nat.zero_le _)
          rw [e3] at i0
          exact i0
        · have e3 : dpi P s 0 = 1 := if_pos (by ((try simp (disch := omega) only [i_lt, i_le, i_eq, nt, i_m1, Int32.toInt_zero] at *); omega))
          refine xr_iconst (v := nI 1) (n := 25) dX8_depthAll_24 (by decide) rfl ?_
          refine xr_goto (n := 29) dX8_depthAll_25 (by decide) ?_
          refine xq_istore_n 3 (n := 30) dX8_depthAll_29 rfl rfl rfl ?_
          simp only [xst, Nat.beq, List.filter, Bool.not_true, Bool.not_false]
          refine xr_iconst (v := nI 0) (n := 31) dX8_depthAll_30 (by decide) rfl ?_
          refine xr_istore (n := 33) dX8_depthAll_31 rfl rfl ?_
          simp only [xst, Nat.beq, List.filter, Bool.not_true, Bool.not_false]
          have i0 := inner 0 (Nat.zero_le _)
          rw [e3] at i0
          exact i0
  exact key 0 (Nat.zero_le _) _ (Or.inl rfl)

theorem s_X8_program {G : xG} {d : Nat} {f : Nat → xC} {r : Nat × Nat} {Q : Option Value → xM → Prop} {m : Nat} {μ : xS} {p w : Int32} {N : Nat → Nat} {P : Nat → Nat → Nat → Nat} (hN : ∀ q, q ≤ 1 → isPg (mtake μ q 5) (N q) (P q) ∧ okP (N q) (P q)) (hq0 : ¬ ((0 ≤ p.toInt ∧ p.toInt ≤ 1) ∧ (0 ≤ w.toInt ∧ w.toInt ≤ 7)) → Q (some (.int (-10001))) (mput f m μ, r)) (hq : ∀ pn wn : Nat, pn ≤ 1 → wn ≤ 7 → p = nI pn → w = nI wn → Q (some (.int (if wn = 0 then nI (N pn) else if wn = 6 then nI (dpm (P pn) (N pn)) else if wn = 7 then setb (P pn) (N pn) else nI (cntk (P pn) (wn - 1) (N pn))))) (mput f m (mtake μ pn), r)) : xMet G (d + 2) mX8_program [.ref m, .int p, .int w] (mput f m μ, r) r Q := by
  refine xMet_0 (by decide +kernel) rfl (Nat.le_of_ble_eq_true rfl) ?_
  show xX G (d + 2) mX8_program r r (xΦ G r r Q) 0 [(0, .ref m), (1, .int p), (2, .int w)] [] (mput f m μ, r)
  refine xr_iload_n (n := 1) dX8_program_0 rfl rfl ?_
  refine xr_callS (y2 := mX8_isProgram) (As := [_]) (n := 4) dX8_program_1 lm_X8_107 pm_X8_isProgram kp_static_yX8_isProgram rfl rfl (by simp [Value.category]) rfl ⟨Nat.le_refl _, Nat.le_refl _⟩ ?_
  refine s_X8_isProgram ?_
  dsimp only [xK, xps]
  refine xr_beq (tgt := 17) (n := 7) dX8_program_4 (by decide) rfl (fun h4 => ?_) (fun h4 => ?_)
  · refine xr_sipush (v := (-10001)) (n := 20) dX8_program_17 (by decide) rfl ?_
    refine xr_ireturn dX8_program_20 rfl rfl rfl ?_
    exact hq0 (by ((try simp (disch := omega) only [i_lt, i_le, i_eq, nt, i_m1, Int32.toInt_zero] at *); omega))
  · refine xr_iload_n (n := 8) dX8_program_7 rfl rfl ?_
    refine xr_iconst (v := nI 0) (n := 9) dX8_program_8 (by decide) rfl ?_
    refine xr_bipush (v := nI 7) (n := 11) dX8_program_9 (by decide) rfl ?_
    refine xr_callS (y2 := mX8_within) (As := [_, _, _]) (n := 14) dX8_program_11 lm_X8_61 pm_X8_within kp_static_yX8_within rfl rfl (by simp [Value.category]) rfl ⟨Nat.le_refl _, Nat.le_refl _⟩ ?_
    refine s_X8_within ?_
    dsimp only [xK, xps]
    rw [b2i_iff (q := 0 ≤ w.toInt ∧ w.toInt ≤ 7) (by (simp (disch := omega) only [nt]); omega)]
    refine xr_bne (tgt := 21) (n := 17) dX8_program_14 (by decide) rfl (fun h14 => ?_) (fun h14 => ?_)
    · obtain ⟨pn, hpn, rfl⟩ := p_of h4
      obtain ⟨wn, hwn, rfl⟩ : ∃ wn : Nat, wn ≤ 7 ∧ w = nI wn := ⟨w.toInt.toNat, by omega, i_of (by omega)⟩
      obtain ⟨hP, hO⟩ := hN pn hpn
      have hq2 := hq pn wn hpn hwn rfl rfl
      have hn0 := hP.1
      refine xr_aload_n (n := 22) dX8_program_21 rfl rfl ?_
      refine xr_iload_n (n := 23) dX8_program_22 rfl rfl ?_
      refine xr_callV (y2 := mX8_takes) (As := [_]) (n := 26) dX8_program_23 lm_X8_121 pm_X8_takes pi_X8_takes (by first | exact mput_0 _ _ _ | exact mput_r (by decide)) rfl rfl rfl (by simp [Value.category]) rfl ⟨Nat.le_refl _, Nat.le_refl _⟩ ?_
      refine s_X8_takes (by omega) ?_
      dsimp only [xK, xps]
      skip
      refine xr_iload_n (n := 27) dX8_program_26 rfl rfl ?_
      refine xr_if_ne (tgt := 39) (n := 30) dX8_program_27 (by decide) rfl (fun h27 => ?_) (fun h27 => ?_)
      · refine xr_iload_n (n := 40) dX8_program_39 rfl rfl ?_
        refine xr_bipush (v := nI 6) (n := 42) dX8_program_40 (by decide) rfl ?_
        refine xr_icmp_ne (tgt := 52) (n := 45) dX8_program_42 (by decide) rfl (fun h42 => ?_) (fun h42 => ?_)
        · refine xr_iload_n (n := 53) dX8_program_52 rfl rfl ?_
          refine xr_bipush (v := nI 7) (n := 55) dX8_program_53 (by decide) rfl ?_
          refine xr_icmp_ne (tgt := 65) (n := 58) dX8_program_55 (by decide) rfl (fun h55 => ?_) (fun h55 => ?_)
          · refine xr_aload_n (n := 66) dX8_program_65 rfl rfl ?_
            refine xr_iload_n (n := 67) dX8_program_66 rfl rfl ?_
            refine xr_iconst (v := nI 1) (n := 68) dX8_program_67 (by decide) rfl ?_
            refine xr_isub (n := 69) dX8_program_68 rfl ?_
            try simp (disch := omega) only [nI_clamp, pk_mul, nI_add, oi1, up2_a, ur_a, Nat.reduceEqDiff, Nat.reduceMul, Nat.reduceAdd, reduceIte, if_pos, if_neg]
            rw [pk_sub (by ((try simp (disch := omega) only [i_lt, i_le, i_eq, nt, i_m1, Int32.toInt_zero] at *); omega))]
            refine xr_callV (y2 := mX8_ofKind) (As := [_]) (n := 72) dX8_program_69 lm_X8_143 pm_X8_ofKind pi_X8_ofKind (by first | exact mput_0 _ _ _ | exact mput_r (by decide)) rfl rfl rfl (by simp [Value.category]) rfl ⟨Nat.le_refl _, Nat.le_refl _⟩ ?_
            refine s_X8_ofKind hP hO (by ((try simp (disch := omega) only [i_lt, i_le, i_eq, nt, i_m1, Int32.toInt_zero] at *); omega)) ?_
            dsimp only [xK, xps]
            refine xr_ireturn dX8_program_72 rfl rfl rfl ?_
            refine qi hq2 ?_
            first | (rw [if_pos (by ((try simp (disch := omega) only [i_lt, i_le, i_eq, nt, i_m1, Int32.toInt_zero] at *); omega))]; done) | (rw [if_neg (by ((try simp (disch := omega) only [i_lt, i_le, i_eq, nt, i_m1, Int32.toInt_zero] at *); omega)), if_pos (by ((try simp (disch := omega) only [i_lt, i_le, i_eq, nt, i_m1, Int32.toInt_zero] at *); omega))]; done) | (rw [if_neg (by ((try simp (disch := omega) only [i_lt, i_le, i_eq, nt, i_m1, Int32.toInt_zero] at *); omega)), if_neg (by ((try simp (disch := omega) only [i_lt, i_le, i_eq, nt, i_m1, Int32.toInt_zero] at *); omega)), if_pos (by ((try simp (disch := omega) only [i_lt, i_le, i_eq, nt, i_m1, Int32.toInt_zero] at *); omega))]; done) | (rw [if_neg (by ((try simp (disch := omega) only [i_lt, i_le, i_eq, nt, i_m1, Int32.toInt_zero] at *); omega)), if_neg (by ((try simp (disch := omega) only [i_lt, i_le, i_eq, nt, i_m1, Int32.toInt_zero] at *); omega)), if_neg (by ((try simp (disch := omega) only [i_lt, i_le, i_eq, nt, i_m1, Int32.toInt_zero] at *); omega))]; done)
          · refine xr_aload_n (n := 59) dX8_program_58 rfl rfl ?_
            refine xr_callV (y2 := mX8_canSet) (As := []) (n := 62) dX8_program_59 lm_X8_140 pm_X8_canSet pi_X8_canSet (by first | exact mput_0 _ _ _ | exact mput_r (by decide)) rfl rfl rfl (by simp [Value.category]) rfl ⟨Nat.le_refl _, Nat.le_refl _⟩ ?_
            refine s_X8_canSet hP hO ?_
            dsimp only [xK, xps]
            refine xr_goto (n := 72) dX8_program_62 (by decide) ?_
            refine xr_ireturn dX8_program_72 rfl rfl rfl ?_
            refine qi hq2 ?_
            first | (rw [if_pos (by ((try simp (disch := omega) only [i_lt, i_le, i_eq, nt, i_m1, Int32.toInt_zero] at *); omega))]; done) | (rw [if_neg (by ((try simp (disch := omega) only [i_lt, i_le, i_eq, nt, i_m1, Int32.toInt_zero] at *); omega)), if_pos (by ((try simp (disch := omega) only [i_lt, i_le, i_eq, nt, i_m1, Int32.toInt_zero] at *); omega))]; done) | (rw [if_neg (by ((try simp (disch := omega) only [i_lt, i_le, i_eq, nt, i_m1, Int32.toInt_zero] at *); omega)), if_neg (by ((try simp (disch := omega) only [i_lt, i_le, i_eq, nt, i_m1, Int32.toInt_zero] at *); omega)), if_pos (by ((try simp (disch := omega) only [i_lt, i_le, i_eq, nt, i_m1, Int32.toInt_zero] at *); omega))]; done) | (rw [if_neg (by ((try simp (disch := omega) only [i_lt, i_le, i_eq, nt, i_m1, Int32.toInt_zero] at *); omega)), if_neg (by ((try simp (disch := omega) only [i_lt, i_le, i_eq, nt, i_m1, Int32.toInt_zero] at *); omega)), if_neg (by ((try simp (disch := omega) only [i_lt, i_le, i_eq, nt, i_m1, Int32.toInt_zero] at *); omega))]; done)
        · refine xr_aload_n (n := 46) dX8_program_45 rfl rfl ?_
          refine xr_callV (y2 := mX8_depthAll) (As := []) (n := 49) dX8_program_46 lm_X8_137 pm_X8_depthAll pi_X8_depthAll (by first | exact mput_0 _ _ _ | exact mput_r (by decide)) rfl rfl rfl (by simp [Value.category]) rfl ⟨Nat.le_refl _, Nat.le_refl _⟩ ?_
          refine s_X8_depthAll hP hO ?_
          dsimp only [xK, xps]
          refine xr_goto (n := 72) dX8_program_49 (by decide) ?_
          refine xr_ireturn dX8_program_72 rfl rfl rfl ?_
          refine qi hq2 ?_
          first | (rw [if_pos (by ((try simp (disch := omega) only [i_lt, i_le, i_eq, nt, i_m1, Int32.toInt_zero] at *); omega))]; done) | (rw [if_neg (by ((try simp (disch := omega) only [i_lt, i_le, i_eq, nt, i_m1, Int32.toInt_zero] at *); omega)), if_pos (by ((try simp (disch := omega) only [i_lt, i_le, i_eq, nt, i_m1, Int32.toInt_zero] at *); omega))]; done) | (rw [if_neg (by ((try simp (disch := omega) only [i_lt, i_le, i_eq, nt, i_m1, Int32.toInt_zero] at *); omega)), if_neg (by ((try simp (disch := omega) only [i_lt, i_le, i_eq, nt, i_m1, Int32.toInt_zero] at *); omega)), if_pos (by ((try simp (disch := omega) only [i_lt, i_le, i_eq, nt, i_m1, Int32.toInt_zero] at *); omega))]; done) | (rw [if_neg (by ((try simp (disch := omega) only [i_lt, i_le, i_eq, nt, i_m1, Int32.toInt_zero] at *); omega)), if_neg (by ((try simp (disch := omega) only [i_lt, i_le, i_eq, nt, i_m1, Int32.toInt_zero] at *); omega)), if_neg (by ((try simp (disch := omega) only [i_lt, i_le, i_eq, nt, i_m1, Int32.toInt_zero] at *); omega))]; done)
      · refine xr_aload_n (n := 31) dX8_program_30 rfl rfl ?_
        refine xr_get (n := 34) dX8_program_31 fl_X8_19 (by first | exact mput_0 _ _ _ | exact mput_r (by decide)) (by rfl) rfl ?_
        refine xr_iconst (v := nI 0) (n := 35) dX8_program_34 (by decide) rfl ?_
        refine xr_iaload (n := 36) dX8_program_35 (by first | exact mput_0 _ _ _ | exact mput_r (by decide)) (by first | exact vp_in_nI (by omega) (by omega)) rfl ?_
        try simp (disch := omega) only [nI_clamp, pk_mul, nI_add, oi1, up2_a, ur_a, Nat.reduceEqDiff, Nat.reduceMul, Nat.reduceAdd, reduceIte, if_pos, if_neg]
        try rw [hn0]
        refine xr_goto (n := 72) dX8_program_36 (by decide) ?_
        refine xr_ireturn dX8_program_72 rfl rfl rfl ?_
        refine qi hq2 ?_
        first | (rw [if_pos (by ((try simp (disch := omega) only [i_lt, i_le, i_eq, nt, i_m1, Int32.toInt_zero] at *); omega))]; done) | (rw [if_neg (by ((try simp (disch := omega) only [i_lt, i_le, i_eq, nt, i_m1, Int32.toInt_zero] at *); omega)), if_pos (by ((try simp (disch := omega) only [i_lt, i_le, i_eq, nt, i_m1, Int32.toInt_zero] at *); omega))]; done) | (rw [if_neg (by ((try simp (disch := omega) only [i_lt, i_le, i_eq, nt, i_m1, Int32.toInt_zero] at *); omega)), if_neg (by ((try simp (disch := omega) only [i_lt, i_le, i_eq, nt, i_m1, Int32.toInt_zero] at *); omega)), if_pos (by ((try simp (disch := omega) only [i_lt, i_le, i_eq, nt, i_m1, Int32.toInt_zero] at *); omega))]; done) | (rw [if_neg (by ((try simp (disch := omega) only [i_lt, i_le, i_eq, nt, i_m1, Int32.toInt_zero] at *); omega)), if_neg (by ((try simp (disch := omega) only [i_lt, i_le, i_eq, nt, i_m1, Int32.toInt_zero] at *); omega)), if_neg (by ((try simp (disch := omega) only [i_lt, i_le, i_eq, nt, i_m1, Int32.toInt_zero] at *); omega))]; done)
    · refine xr_sipush (v := (-10001)) (n := 20) dX8_program_17 (by decide) rfl ?_
      refine xr_ireturn dX8_program_20 rfl rfl rfl ?_
      exact hq0 (by ((try simp (disch := omega) only [i_lt, i_le, i_eq, nt, i_m1, Int32.toInt_zero] at *); omega))
