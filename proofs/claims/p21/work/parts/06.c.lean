/-! the class: outputs and traces -/
theorem i_m40 {n : Nat} (h : n ≤ 400) : (if nI 40 < nI n then nI 40 else nI n) = nI (if 40 < n then 40 else n) := ls40 h
theorem i_m40b {n : Nat} (h : n ≤ 400) : (if nI n < nI 40 then nI n else nI 40) = nI (if 40 < n then 40 else n) := by
  by_cases e : n < 40
  · rw [if_pos (by rw [i_lt, nt _ (by omega), nt _ (by omega)]; omega), if_neg (by omega)]
  · rw [if_neg (by rw [i_lt, nt _ (by omega), nt _ (by omega)]; omega)]
    by_cases e2 : 40 < n
    · rw [if_pos e2]
    · rw [if_neg e2, show n = 40 from by omega]
theorem w_m40 {n k : Nat} (h : n ≤ 400) (hk : k < 2 ^ 31) : ((nI 0).toInt ≤ (nI k).toInt ∧ (nI k).toInt ≤ (nI (if 40 < n then 40 else n) - nI 1).toInt) ↔ (k < 40 ∧ k < n) := by
  have e0 := nt 0 (by omega)
  have e1 := nt k hk
  have e2 := nt (if 40 < n then 40 else n) (by split <;> omega)
  have e3 := nt 1 (by omega)
  rw [i_sub (by rw [e2, e3]; split <;> omega) (by rw [e2, e3]; split <;> omega), e0, e1, e2, e3]
  split <;> omega
theorem w_39 {n : Nat} (h : n ≤ 400) : ((nI 0).toInt ≤ (nI n).toInt ∧ (nI n).toInt ≤ (nI 39).toInt) ↔ n < 40 := by
  rw [nt _ (by omega), nt _ (by omega), nt _ (by omega)]
  omega
theorem cpy_fo {g h : Nat → Int32} {dp n : Nat} : va_cpy g h 0 dp n = fo g h dp n := by
  funext j
  unfold va_cpy fo
  rw [Nat.zero_add]
theorem ow_f (f : Nat → xC) (a : Nat) (σ : xS) (g : Nat → Int32) : xu (oput f a σ) (a + 1) (aI 0 40 g) = oput f a (ur σ 0 g) := by
  refine (bput_xu (i := 1) (by decide)).trans (bput_congr fun i hi => ?_)
  match i, hi with
  | 0, _ => rfl
  | 1, _ => rfl
  | i + 2, h => exact absurd h (by omega)
theorem tw_f (f : Nat → xC) (a : Nat) (σ : xS) (g : Nat → Int32) : xu (tput f a σ) (a + 4) (aI 0 240 g) = tput f a (ur σ 2 g) := by
  refine (bput_xu (i := 4) (by decide)).trans (bput_congr fun i hi => ?_)
  match i, hi with
  | 0, _ => rfl
  | 1, _ => rfl
  | 2, _ => rfl
  | 3, _ => rfl
  | 4, _ => rfl
  | 5, _ => rfl
  | 6, _ => rfl
  | i + 7, h => exact absurd h (by omega)
theorem t_oat {f : Nat → xC} {a : Nat} {σ : xS} (h : tat f a σ) : oat f (a + 1) σ := fun i hi => by
  match i, hi with
  | 0, _ => exact tat_r h (i := 1) (by decide)
  | 1, _ => exact tat_r h (i := 2) (by decide)
  | i + 2, hi => exact absurd hi (by omega)
theorem t_oput {f : Nat → xC} {a : Nat} {σ τ : xS} (h : ∀ w, w ≠ 0 → w ≠ 9 → w ≠ 10 → τ w = σ w) : oput (tput f a σ) (a + 1) τ = tput f a τ := by
  funext q
  by_cases h1 : a ≤ q ∧ q < a + 7
  · obtain ⟨i, rfl⟩ : ∃ i, q = a + i := ⟨q - a, by omega⟩
    have hi : i < 7 := by omega
    rw [show tput f a τ (a + i) = tcell a τ i from bput_in hi]
    match i, hi with
    | 0, _ =>
      rw [show oput (tput f a σ) (a + 1) τ (a + 0) = tput f a σ (a + 0) from bput_out (by omega), show tput f a σ (a + 0) = tcell a σ 0 from bput_in (by decide)]
      unfold tcell
      rw [h 5 (by omega) (by omega) (by omega), h 6 (by omega) (by omega) (by omega), h 7 (by omega) (by omega) (by omega), h 8 (by omega) (by omega) (by omega)]
      rfl
    | 1, _ => exact bput_in (i := 0) (by decide)
    | 2, _ => exact bput_in (i := 1) (by decide)
    | 3, _ =>
      rw [show oput (tput f a σ) (a + 1) τ (a + 3) = tput f a σ (a + 3) from bput_out (by omega), show tput f a σ (a + 3) = tcell a σ 3 from bput_in (by decide)]
      unfold tcell
      rw [h 1 (by omega) (by omega) (by omega)]
      rfl
    | 4, _ =>
      rw [show oput (tput f a σ) (a + 1) τ (a + 4) = tput f a σ (a + 4) from bput_out (by omega), show tput f a σ (a + 4) = tcell a σ 4 from bput_in (by decide)]
      unfold tcell
      rw [h 2 (by omega) (by omega) (by omega)]
      rfl
    | 5, _ =>
      rw [show oput (tput f a σ) (a + 1) τ (a + 5) = tput f a σ (a + 5) from bput_out (by omega), show tput f a σ (a + 5) = tcell a σ 5 from bput_in (by decide)]
      unfold tcell
      rw [h 3 (by omega) (by omega) (by omega)]
      rfl
    | 6, _ =>
      rw [show oput (tput f a σ) (a + 1) τ (a + 6) = tput f a σ (a + 6) from bput_out (by omega), show tput f a σ (a + 6) = tcell a σ 6 from bput_in (by decide)]
      unfold tcell
      rw [h 4 (by omega) (by omega) (by omega)]
      rfl
    | i + 7, hi => exact absurd hi (by omega)
  · rw [show oput (tput f a σ) (a + 1) τ q = tput f a σ q from bput_out (by omega), show tput f a σ q = f q from bput_out (by omega), show tput f a τ q = f q from bput_out (by omega)]
theorem s_X2_begin {G : xG} {d : Nat} {f : Nat → xC} {r : Nat × Nat} {Q : Option Value → xM → Prop} {a : Nat} {σ : xS}  (hq : Q none (oput f a (up2 σ 9 0 (nI 0)), r)) : xMet G d mX2_begin [.ref a] (oput f a σ, r) r Q := by
  refine xMet_0 (by decide +kernel) rfl (Nat.le_of_ble_eq_true rfl) ?_
  show xX G d mX2_begin r r (xΦ G r r Q) 0 [(0, .ref a)] [] (oput f a σ, r)
  refine xr_aload_n (n := 1) dX2_begin_0 rfl rfl ?_
  refine xr_iconst (v := nI 0) (n := 2) dX2_begin_1 (by decide) rfl ?_
  refine xq_put (n := 5) dX2_begin_2 fl_X2_15 rfl (by first | exact oat_0 (oput_at _ _ _) | exact oat_r (oput_at _ _ _) (by decide) | exact oat_0 hO | exact oat_r hO (by decide) | exact oat_0 hO2 | exact oat_r hO2 (by decide)) (by rfl) (by rfl) (by rfl) rfl ?_
  simp (disch := omega) only [nI_clamp, List.set, ow_0, ow_9, ow_10]
  refine xr_return dX2_begin_5 rfl rfl ?_
  first | exact hq | (rw [b2i_t (by ((try simp (disch := omega) only [i_lt, i_le, i_eq, nt, i_m1, Int32.toInt_zero] at *); omega))] at hq; exact hq) | (rw [b2i_f (by ((try simp (disch := omega) only [i_lt, i_le, i_eq, nt, i_m1, Int32.toInt_zero] at *); omega))] at hq; exact hq)

theorem s_X2_add {G : xG} {d : Nat} {f : Nat → xC} {r : Nat × Nat} {Q : Option Value → xM → Prop} {a tl : Nat} {σ : xS} {v : Int32} (h9 : σ 9 0 = nI tl) (hb : tl ≤ 400) (hq : Q none (oput f a (up2 (if tl < 40 then up2 σ 0 tl v else σ) 9 0 (nI (tl + 1))), r)) : xMet G (d + 1) mX2_add [.ref a, .int v] (oput f a σ, r) r Q := by
  refine xMet_0 (by decide +kernel) rfl (Nat.le_of_ble_eq_true rfl) ?_
  show xX G (d + 1) mX2_add r r (xΦ G r r Q) 0 [(0, .ref a), (1, .int v)] [] (oput f a σ, r)
  refine xr_aload_n (n := 1) dX2_add_0 rfl rfl ?_
  refine xr_get (n := 4) dX2_add_1 fl_X2_15 (by first | exact oat_0 (oput_at _ _ _) | exact oat_r (oput_at _ _ _) (by decide) | exact oat_0 hO | exact oat_r hO (by decide) | exact oat_0 hO2 | exact oat_r hO2 (by decide)) (by rfl) rfl ?_
  refine xr_iconst (v := nI 0) (n := 5) dX2_add_4 (by decide) rfl ?_
  refine xr_bipush (v := nI 39) (n := 7) dX2_add_5 (by decide) rfl ?_
  refine xr_callS (y2 := mX7_isWithin) (As := [_, _, _]) (n := 10) dX2_add_7 lm_X2_19 pm_X7_isWithin kp_static_yX7_isWithin rfl rfl (by simp [Value.category]) rfl ⟨Nat.le_refl _, Nat.le_refl _⟩ ?_
  refine s_X7_isWithin ?_
  dsimp only [xK, xps]
  rw [h9, b2i_iff (w_39 hb)]
  refine xr_beq (tgt := 23) (n := 13) dX2_add_10 (by decide) rfl (fun h10 => ?_) (fun h10 => ?_)
  · refine xr_aload_n (n := 24) dX2_add_23 rfl rfl ?_
    refine xr_dup (n := 25) dX2_add_24 rfl rfl ?_
    refine xr_get (n := 28) dX2_add_25 fl_X2_15 (by first | exact oat_0 (oput_at _ _ _) | exact oat_r (oput_at _ _ _) (by decide) | exact oat_0 hO | exact oat_r hO (by decide) | exact oat_0 hO2 | exact oat_r hO2 (by decide)) (by rfl) rfl ?_
    (first | (simp (disch := omega) only [nI_clamp, pk_mul, nI_add, oi1, up2_ss, up2_n, up2_sn, ur_s, ur_n, Nat.reduceMul, Nat.reduceAdd, Nat.add_zero, h9]) | skip)
    refine xr_iconst (v := nI 1) (n := 29) dX2_add_28 (by decide) rfl ?_
    refine xr_iadd (n := 30) dX2_add_29 rfl ?_
    (first | (simp (disch := omega) only [nI_clamp, pk_mul, nI_add, oi1, up2_ss, up2_n, up2_sn, ur_s, ur_n, Nat.reduceMul, Nat.reduceAdd, Nat.add_zero, h9]) | skip)
    refine xq_put (n := 33) dX2_add_30 fl_X2_15 rfl (by first | exact oat_0 (oput_at _ _ _) | exact oat_r (oput_at _ _ _) (by decide) | exact oat_0 hO | exact oat_r hO (by decide) | exact oat_0 hO2 | exact oat_r hO2 (by decide)) (by rfl) (by rfl) (by rfl) rfl ?_
    simp (disch := omega) only [nI_clamp, List.set, ow_0, ow_9, ow_10]
    refine xr_return dX2_add_33 rfl rfl ?_
    refine qm hq ?_
    first | rw [if_pos h10] | rw [if_neg h10]
  · refine xr_aload_n (n := 14) dX2_add_13 rfl rfl ?_
    refine xr_get (n := 17) dX2_add_14 fl_X2_9 (by first | exact oat_0 (oput_at _ _ _) | exact oat_r (oput_at _ _ _) (by decide) | exact oat_0 hO | exact oat_r hO (by decide) | exact oat_0 hO2 | exact oat_r hO2 (by decide)) (by rfl) rfl ?_
    refine xr_aload_n (n := 18) dX2_add_17 rfl rfl ?_
    refine xr_get (n := 21) dX2_add_18 fl_X2_15 (by first | exact oat_0 (oput_at _ _ _) | exact oat_r (oput_at _ _ _) (by decide) | exact oat_0 hO | exact oat_r hO (by decide) | exact oat_0 hO2 | exact oat_r hO2 (by decide)) (by rfl) rfl ?_
    (first | (simp (disch := omega) only [nI_clamp, pk_mul, nI_add, oi1, up2_ss, up2_n, up2_sn, ur_s, ur_n, Nat.reduceMul, Nat.reduceAdd, Nat.add_zero, h9]) | skip)
    refine xr_iload_n (n := 22) dX2_add_21 rfl rfl ?_
    refine xq_iastore (n := 23) dX2_add_22 (by first | exact oat_0 (oput_at _ _ _) | exact oat_r (oput_at _ _ _) (by decide) | exact oat_0 hO | exact oat_r hO (by decide) | exact oat_0 hO2 | exact oat_r hO2 (by decide)) (by first | exact vp_in_nI (by omega) (by omega)) rfl ?_
    simp (disch := omega) only [nI_clamp, List.set, ow_0, ow_9, ow_10]
    refine xr_aload_n (n := 24) dX2_add_23 rfl rfl ?_
    refine xr_dup (n := 25) dX2_add_24 rfl rfl ?_
    refine xr_get (n := 28) dX2_add_25 fl_X2_15 (by first | exact oat_0 (oput_at _ _ _) | exact oat_r (oput_at _ _ _) (by decide) | exact oat_0 hO | exact oat_r hO (by decide) | exact oat_0 hO2 | exact oat_r hO2 (by decide)) (by rfl) rfl ?_
    (first | (simp (disch := omega) only [nI_clamp, pk_mul, nI_add, oi1, up2_ss, up2_n, up2_sn, ur_s, ur_n, Nat.reduceMul, Nat.reduceAdd, Nat.add_zero, h9]) | skip)
    refine xr_iconst (v := nI 1) (n := 29) dX2_add_28 (by decide) rfl ?_
    refine xr_iadd (n := 30) dX2_add_29 rfl ?_
    (first | (simp (disch := omega) only [nI_clamp, pk_mul, nI_add, oi1, up2_ss, up2_n, up2_sn, ur_s, ur_n, Nat.reduceMul, Nat.reduceAdd, Nat.add_zero, h9]) | skip)
    refine xq_put (n := 33) dX2_add_30 fl_X2_15 rfl (by first | exact oat_0 (oput_at _ _ _) | exact oat_r (oput_at _ _ _) (by decide) | exact oat_0 hO | exact oat_r hO (by decide) | exact oat_0 hO2 | exact oat_r hO2 (by decide)) (by rfl) (by rfl) (by rfl) rfl ?_
    simp (disch := omega) only [nI_clamp, List.set, ow_0, ow_9, ow_10]
    refine xr_return dX2_add_33 rfl rfl ?_
    refine qm hq ?_
    first | rw [if_pos h10] | rw [if_neg h10]

theorem valA_v {σ : xS} {tl k : Nat} (h9 : σ 9 0 = nI tl) (hb : tl ≤ 400) : valA (0, σ) k = if k < 40 ∧ k < tl then σ 0 k else (-10009) := by
  unfold valA
  rw [show ((0, σ) : Nat × xS).2 = σ from rfl, h9, ix_n (by omega)]
theorem s_X2_valueAt {G : xG} {d : Nat} {f : Nat → xC} {r : Nat × Nat} {Q : Option Value → xM → Prop} {a tl : Nat} {σ : xS} {k : Nat} (hO : oat f a σ) (h9 : σ 9 0 = nI tl) (hb : tl ≤ 400) (hk : k < 2 ^ 31) (hq : Q (some (.int (valA (0, σ) k))) (f, r)) : xMet G (d + 1) mX2_valueAt [.ref a, .int (nI k)] (f, r) r Q := by
  refine xMet_0 (by decide +kernel) rfl (Nat.le_of_ble_eq_true rfl) ?_
  show xX G (d + 1) mX2_valueAt r r (xΦ G r r Q) 0 [(0, .ref a), (1, .int (nI k))] [] (f, r)
  refine xr_iload_n (n := 1) dX2_valueAt_0 rfl rfl ?_
  refine xr_iconst (v := nI 0) (n := 2) dX2_valueAt_1 (by decide) rfl ?_
  refine xr_aload_n (n := 3) dX2_valueAt_2 rfl rfl ?_
  refine xr_get (n := 6) dX2_valueAt_3 fl_X2_15 (by first | exact oat_0 (oput_at _ _ _) | exact oat_r (oput_at _ _ _) (by decide) | exact oat_0 hO | exact oat_r hO (by decide) | exact oat_0 hO2 | exact oat_r hO2 (by decide)) (by rfl) rfl ?_
  refine xr_bipush (v := nI 40) (n := 8) dX2_valueAt_6 (by decide) rfl ?_
  refine xr_mmin (n := 11) dX2_valueAt_8 km_X2_33 (by simp [Value.category]) rfl ?_
  rw [h9]
  first | rw [i_m40 hb] | rw [i_m40b hb]
  refine xr_iconst (v := nI 1) (n := 12) dX2_valueAt_11 (by decide) rfl ?_
  refine xr_isub (n := 13) dX2_valueAt_12 rfl ?_
  refine xr_callS (y2 := mX7_isWithin) (As := [_, _, _]) (n := 16) dX2_valueAt_13 lm_X2_19 pm_X7_isWithin kp_static_yX7_isWithin rfl rfl (by simp [Value.category]) rfl ⟨Nat.le_refl _, Nat.le_refl _⟩ ?_
  refine s_X7_isWithin ?_
  dsimp only [xK, xps]
  rw [b2i_iff (w_m40 hb hk)]
  refine xr_beq (tgt := 28) (n := 19) dX2_valueAt_16 (by decide) rfl (fun h16 => ?_) (fun h16 => ?_)
  · refine xr_sipush (v := (-10009)) (n := 31) dX2_valueAt_28 (by decide) rfl ?_
    refine xr_ireturn dX2_valueAt_31 rfl rfl rfl ?_
    refine qi hq ?_
    rw [valA_v h9 hb]
    first | rw [if_pos h16] | rw [if_neg h16]
  · refine xr_aload_n (n := 20) dX2_valueAt_19 rfl rfl ?_
    refine xr_get (n := 23) dX2_valueAt_20 fl_X2_9 (by first | exact oat_0 (oput_at _ _ _) | exact oat_r (oput_at _ _ _) (by decide) | exact oat_0 hO | exact oat_r hO (by decide) | exact oat_0 hO2 | exact oat_r hO2 (by decide)) (by rfl) rfl ?_
    refine xr_iload_n (n := 24) dX2_valueAt_23 rfl rfl ?_
    refine xr_iaload (n := 25) dX2_valueAt_24 (by first | exact oat_0 (oput_at _ _ _) | exact oat_r (oput_at _ _ _) (by decide) | exact oat_0 hO | exact oat_r hO (by decide) | exact oat_0 hO2 | exact oat_r hO2 (by decide)) (by first | exact vp_in_nI (by omega) (by omega)) rfl ?_
    (first | (simp (disch := omega) only [nI_clamp, pk_mul, nI_add, oi1, up2_ss, up2_n, up2_sn, ur_s, ur_n, Nat.reduceMul, Nat.reduceAdd, Nat.add_zero]) | skip)
    refine xr_goto (n := 31) dX2_valueAt_25 (by decide) ?_
    refine xr_ireturn dX2_valueAt_31 rfl rfl rfl ?_
    refine qi hq ?_
    rw [valA_v h9 hb]
    first | rw [if_pos h16] | rw [if_neg h16]

theorem s_X2_firstDifference {G : xG} {d : Nat} {f : Nat → xC} {r : Nat × Nat} {Q : Option Value → xM → Prop} {a b tl tl2 : Nat} {σ ς : xS} (hO : oat f a σ) (hO2 : oat f b ς) (h9 : σ 9 0 = nI tl) (hb : tl ≤ 400) (h92 : ς 9 0 = nI tl2) (hb2 : tl2 ≤ 400) (hq : Q (some (.int (fdv (0, σ) (0, ς)))) (f, r)) : xMet G (d + 2) mX2_firstDifference [.ref a, .ref b] (f, r) r Q := by
  refine xMet_0 (by decide +kernel) rfl (Nat.le_of_ble_eq_true rfl) ?_
  show xX G (d + 2) mX2_firstDifference r r (xΦ G r r Q) 0 [(0, .ref a), (1, .ref b)] [] (f, r)
  refine xr_iconst (v := nI 0) (n := 1) dX2_firstDifference_0 (by decide) rfl ?_
  refine xq_istore_n 2 (n := 2) dX2_firstDifference_1 rfl rfl rfl ?_
  simp only [xst, Nat.beq, List.filter, Bool.not_true, Bool.not_false]
  have key : ∀ k, k ≤ 40 → fdv (0, σ) (0, ς) = fdF (0, σ) (0, ς) (40 - k) k → xX G (d + 2) mX2_firstDifference r r (xΦ G r r Q) 2 [(0, .ref a), (1, .ref b), (2, .int (nI k))] [] (f, r) := by
    refine nat_down (P := fun k => fdv (0, σ) (0, ς) = fdF (0, σ) (0, ς) (40 - k) k → xX G (d + 2) mX2_firstDifference r r (xΦ G r r Q) 2 [(0, .ref a), (1, .ref b), (2, .int (nI k))] [] (f, r)) (N := 40) ?_ ?_
    · intro hf
      refine xr_iload_n (n := 3) dX2_firstDifference_2 rfl rfl ?_
      refine xr_bipush (v := nI 40) (n := 5) dX2_firstDifference_3 (by decide) rfl ?_
      refine xr_icmp_ge (tgt := 29) (n := 8) dX2_firstDifference_5 (by decide) rfl (fun h5 => ?_) (fun h5 => by (exfalso; ((try simp (disch := omega) only [i_lt, i_le, i_eq, nt, i_m1, Int32.toInt_zero] at *); omega)))
      refine xr_sipush (v := (-10009)) (n := 32) dX2_firstDifference_29 (by decide) rfl ?_
      refine xr_ireturn dX2_firstDifference_32 rfl rfl rfl ?_
      exact qi hq hf
    · intro k hk ih hf
      refine xr_iload_n (n := 3) dX2_firstDifference_2 rfl rfl ?_
      refine xr_bipush (v := nI 40) (n := 5) dX2_firstDifference_3 (by decide) rfl ?_
      refine xr_icmp_ge (tgt := 29) (n := 8) dX2_firstDifference_5 (by decide) rfl (fun h5 => by (exfalso; ((try simp (disch := omega) only [i_lt, i_le, i_eq, nt, i_m1, Int32.toInt_zero] at *); omega))) (fun h5 => ?_)
      refine xr_aload_n (n := 9) dX2_firstDifference_8 rfl rfl ?_
      refine xr_iload_n (n := 10) dX2_firstDifference_9 rfl rfl ?_
      refine xr_callV (y2 := mX2_valueAt) (As := [_]) (n := 13) dX2_firstDifference_10 lm_X2_39 pm_X2_valueAt pi_X2_valueAt (by first | exact oat_0 (oput_at _ _ _) | exact oat_r (oput_at _ _ _) (by decide) | exact oat_0 hO | exact oat_r hO (by decide) | exact oat_0 hO2 | exact oat_r hO2 (by decide)) rfl rfl rfl (by simp [Value.category]) rfl ⟨Nat.le_refl _, Nat.le_refl _⟩ ?_
      refine s_X2_valueAt hO h9 hb (by omega) ?_
      dsimp only [xK, xps]
      refine xr_aload_n (n := 14) dX2_firstDifference_13 rfl rfl ?_
      refine xr_iload_n (n := 15) dX2_firstDifference_14 rfl rfl ?_
      refine xr_callV (y2 := mX2_valueAt) (As := [_]) (n := 18) dX2_firstDifference_15 lm_X2_39 pm_X2_valueAt pi_X2_valueAt (by first | exact oat_0 (oput_at _ _ _) | exact oat_r (oput_at _ _ _) (by decide) | exact oat_0 hO | exact oat_r hO (by decide) | exact oat_0 hO2 | exact oat_r hO2 (by decide)) rfl rfl rfl (by simp [Value.category]) rfl ⟨Nat.le_refl _, Nat.le_refl _⟩ ?_
      refine s_X2_valueAt hO2 h92 hb2 (by omega) ?_
      dsimp only [xK, xps]
      refine xr_icmp_eq (tgt := 23) (n := 21) dX2_firstDifference_18 (by decide) rfl (fun h18 => ?_) (fun h18 => ?_)
      · refine xr_iinc (n := 26) dX2_firstDifference_23 rfl rfl (rfl) rfl ?_
        simp only [xst, Nat.beq, List.filter, Bool.not_true, Bool.not_false]
        (first | (simp (disch := omega) only [nI_clamp, pk_mul, nI_add, oi1, up2_ss, up2_n, up2_sn, ur_s, ur_n, Nat.reduceMul, Nat.reduceAdd, Nat.add_zero]) | skip)
        refine xr_goto (n := 2) dX2_firstDifference_26 (by decide) ?_
        exact ih (hf.trans (fdF_t hk (by first | exact h18 | exact Decidable.not_not.mp h18)))
      · refine xr_iload_n (n := 22) dX2_firstDifference_21 rfl rfl ?_
        refine xr_ireturn dX2_firstDifference_22 rfl rfl rfl ?_
        exact qi hq (hf.trans (fdF_f hk (by first | exact h18 | exact fun q => h18 q)))
  exact key 0 (Nat.zero_le _) rfl

theorem s_X2_hasValuesOf {G : xG} {d : Nat} {f : Nat → xC} {r : Nat × Nat} {Q : Option Value → xM → Prop} {a b tl tl2 : Nat} {σ ς : xS} (hO : oat f a σ) (hO2 : oat f b ς) (h9 : σ 9 0 = nI tl) (hb : tl ≤ 400) (h92 : ς 9 0 = nI tl2) (hb2 : tl2 ≤ 400) (hq : Q (some (.int (b2i (σ 9 0 = ς 9 0 ∧ fdv (0, σ) (0, ς) = (-10009))))) (f, r)) : xMet G (d + 3) mX2_hasValuesOf [.ref a, .ref b] (f, r) r Q := by
  refine xMet_0 (by decide +kernel) rfl (Nat.le_of_ble_eq_true rfl) ?_
  show xX G (d + 3) mX2_hasValuesOf r r (xΦ G r r Q) 0 [(0, .ref a), (1, .ref b)] [] (f, r)
  refine xr_aload_n (n := 1) dX2_hasValuesOf_0 rfl rfl ?_
  refine xr_get (n := 4) dX2_hasValuesOf_1 fl_X2_15 (by first | exact oat_0 (oput_at _ _ _) | exact oat_r (oput_at _ _ _) (by decide) | exact oat_0 hO | exact oat_r hO (by decide) | exact oat_0 hO2 | exact oat_r hO2 (by decide)) (by rfl) rfl ?_
  (first | (simp (disch := omega) only [nI_clamp, pk_mul, nI_add, oi1, up2_ss, up2_n, up2_sn, ur_s, ur_n, Nat.reduceMul, Nat.reduceAdd, Nat.add_zero]) | skip)
  refine xr_aload_n (n := 5) dX2_hasValuesOf_4 rfl rfl ?_
  refine xr_get (n := 8) dX2_hasValuesOf_5 fl_X2_15 (by first | exact oat_0 (oput_at _ _ _) | exact oat_r (oput_at _ _ _) (by decide) | exact oat_0 hO | exact oat_r hO (by decide) | exact oat_0 hO2 | exact oat_r hO2 (by decide)) (by rfl) rfl ?_
  (first | (simp (disch := omega) only [nI_clamp, pk_mul, nI_add, oi1, up2_ss, up2_n, up2_sn, ur_s, ur_n, Nat.reduceMul, Nat.reduceAdd, Nat.add_zero]) | skip)
  refine xr_icmp_ne (tgt := 26) (n := 11) dX2_hasValuesOf_8 (by decide) rfl (fun h8 => ?_) (fun h8 => ?_)
  · refine xr_iconst (v := nI 0) (n := 27) dX2_hasValuesOf_26 (by decide) rfl ?_
    refine xr_ireturn dX2_hasValuesOf_27 rfl (by first | exact b2i_nar | exact nar_1 | exact nar_0) rfl ?_
    refine qi hq ?_
    first | exact b2i_t ⟨by first | assumption | exact Decidable.not_not.mp (by assumption), by first | assumption | exact Decidable.not_not.mp (by assumption)⟩ | exact b2i_f (fun q => absurd q.1 (by assumption)) | exact b2i_f (fun q => absurd q.2 (by assumption))
  · refine xr_aload_n (n := 12) dX2_hasValuesOf_11 rfl rfl ?_
    refine xr_aload_n (n := 13) dX2_hasValuesOf_12 rfl rfl ?_
    refine xr_callV (y2 := mX2_firstDifference) (As := [_]) (n := 16) dX2_hasValuesOf_13 lm_X2_43 pm_X2_firstDifference pi_X2_firstDifference (by first | exact oat_0 (oput_at _ _ _) | exact oat_r (oput_at _ _ _) (by decide) | exact oat_0 hO | exact oat_r hO (by decide) | exact oat_0 hO2 | exact oat_r hO2 (by decide)) rfl rfl rfl (by simp [Value.category]) rfl ⟨Nat.le_refl _, Nat.le_refl _⟩ ?_
    refine s_X2_firstDifference hO hO2 h9 hb h92 hb2 ?_
    dsimp only [xK, xps]
    refine xr_sipush (v := (-10009)) (n := 19) dX2_hasValuesOf_16 (by decide) rfl ?_
    refine xr_icmp_ne (tgt := 26) (n := 22) dX2_hasValuesOf_19 (by decide) rfl (fun h19 => ?_) (fun h19 => ?_)
    · refine xr_iconst (v := nI 0) (n := 27) dX2_hasValuesOf_26 (by decide) rfl ?_
      refine xr_ireturn dX2_hasValuesOf_27 rfl (by first | exact b2i_nar | exact nar_1 | exact nar_0) rfl ?_
      refine qi hq ?_
      first | exact b2i_t ⟨by first | assumption | exact Decidable.not_not.mp (by assumption), by first | assumption | exact Decidable.not_not.mp (by assumption)⟩ | exact b2i_f (fun q => absurd q.1 (by assumption)) | exact b2i_f (fun q => absurd q.2 (by assumption))
    · refine xr_iconst (v := nI 1) (n := 23) dX2_hasValuesOf_22 (by decide) rfl ?_
      refine xr_goto (n := 27) dX2_hasValuesOf_23 (by decide) ?_
      refine xr_ireturn dX2_hasValuesOf_27 rfl (by first | exact b2i_nar | exact nar_1 | exact nar_0) rfl ?_
      refine qi hq ?_
      first | exact b2i_t ⟨by first | assumption | exact Decidable.not_not.mp (by assumption), by first | assumption | exact Decidable.not_not.mp (by assumption)⟩ | exact b2i_f (fun q => absurd q.1 (by assumption)) | exact b2i_f (fun q => absurd q.2 (by assumption))
