/-! READING, as a function of the text; and the reference's small readers -/
abbrev isL (c : Int32) : Prop := 97 ≤ c.toInt ∧ c.toInt ≤ 102
abbrev isDg (c : Int32) : Prop := 48 ≤ c.toInt ∧ c.toInt ≤ 57
def hr (t : Nat → Int32) (n a : Nat) : Int32 := ch t n (skp t n a)
def ceF (t : Nat → Int32) (n a : Nat) : Bool × Nat × Nat := if isL (hr t n a) then (true, skp t n a + 1, ix (hr t n a) - 97) else (false, skp t n a, 0)
def nuF (t : Nat → Int32) (n : Nat) : Nat → Nat → Nat → Nat × Nat
  | 0, a, v => (a, v)
  | g + 1, a, v => if a < n ∧ isDg (t a) then nuF t n g (a + 1) (10 * v + (ix (t a) - 48)) else (a, v)
def teF (t : Nat → Int32) (n a : Nat) : Bool × Nat × Nat := if isL (hr t n a) then (true, skp t n a + 1, ix (hr t n a) - 97) else if isDg (hr t n a) then (true, (nuF t n (if hr t n a = nI 48 then 1 else 3) (skp t n a) 0).1, 10 + (nuF t n (if hr t n a = nI 48 then 1 else 3) (skp t n a) 0).2) else (false, skp t n a, 0)
theorem hr_lt {t : Nat → Int32} {n a : Nat} (h : ¬ hr t n a = nI 0) : skp t n a < n := ch_lt h
theorem n0_i {c : Int32} {k : Nat} (h : (k : Int) ≤ c.toInt) (hk : 0 < k) : ¬ c = nI 0 := fun e => by rw [e, nt 0 (by omega)] at h; omega
theorem ix_i {c : Int32} (h : 0 ≤ c.toInt) : c = nI (ix c) ∧ ((ix c : Nat) : Int) = c.toInt := by
  obtain ⟨k, hk, rfl⟩ := k_of h
  rw [ix_n hk]
  exact ⟨rfl, (nt _ hk).symm⟩
theorem ix_sub {c : Int32} {k : Nat} (h : (k : Int) ≤ c.toInt) : c - nI k = nI (ix c - k) := by
  obtain ⟨e1, e2⟩ := ix_i (c := c) (by omega)
  have hb := i_rng c
  have hk : (nI k).toInt = k := nt _ (by omega)
  rw [i_eq, nt _ (by omega), i_sub (by omega) (by omega), hk]
  omega
theorem nuF_le (t : Nat → Int32) (n : Nat) : ∀ g a v, a ≤ n → a ≤ (nuF t n g a v).1 ∧ (nuF t n g a v).1 ≤ n ∧ (nuF t n g a v).2 + 1 ≤ 10 ^ g * (v + 1)
  | 0, a, v, h => ⟨Nat.le_refl _, h, by show v + 1 ≤ 10 ^ 0 * (v + 1); omega⟩
  | g + 1, a, v, h => by
    unfold nuF
    split
    · rename_i hc
      obtain ⟨h1, h2, h3⟩ := nuF_le t n g (a + 1) (10 * v + (ix (t a) - 48)) (by omega)
      have e2 := (ix_i (c := t a) (by omega)).2
      refine ⟨by omega, h2, Nat.le_trans h3 ?_⟩
      rw [Nat.pow_succ, Nat.mul_assoc]
      exact Nat.mul_le_mul_left _ (by omega)
    · refine ⟨Nat.le_refl _, h, ?_⟩
      show v + 1 ≤ _
      have : 1 ≤ 10 ^ (g + 1) := Nat.one_le_pow _ _ (by omega)
      calc v + 1 = 1 * (v + 1) := by omega
        _ ≤ 10 ^ (g + 1) * (v + 1) := Nat.mul_le_mul_right _ this
theorem nuF_gt (t : Nat → Int32) (n : Nat) (g a v : Nat) (h : a < n) (hd : isDg (t a)) : a < (nuF t n (g + 1) a v).1 := by
  unfold nuF
  rw [if_pos ⟨h, hd⟩]
  have := (nuF_le t n g (a + 1) (10 * v + (ix (t a) - 48)) (by omega)).1
  omega
theorem ceF_b {t : Nat → Int32} {n a : Nat} (h : a ≤ n) : (ceF t n a).2.1 ≤ n ∧ a ≤ (ceF t n a).2.1 ∧ (ceF t n a).2.2 < 6 ∧ ((ceF t n a).1 = true → a < (ceF t n a).2.1) := by
  have h1 := (skp_ge t n _ a rfl)
  have h2 := h1.2 h
  unfold ceF
  split
  · rename_i hl
    have h3 := hr_lt (n0_i (k := 97) hl.1 (by omega))
    have h4 := (ix_i (c := hr t n a) (by omega)).2
    refine ⟨?_, ?_, ?_, fun _ => ?_⟩
    · show skp t n a + 1 ≤ n; omega
    · show a ≤ skp t n a + 1; omega
    · show ix (hr t n a) - 97 < 6; omega
    · show a < skp t n a + 1; omega
  · exact ⟨h2, h1.1, by show 0 < 6; omega, fun q => by cases q⟩
theorem teF_b {t : Nat → Int32} {n a : Nat} (h : a ≤ n) : (teF t n a).2.1 ≤ n ∧ a ≤ (teF t n a).2.1 ∧ ((teF t n a).1 = true → okT (teF t n a).2.2) := by
  have h1 := (skp_ge t n _ a rfl)
  have h2 := h1.2 h
  unfold teF
  split
  · rename_i hl
    have h3 := hr_lt (n0_i (k := 97) hl.1 (by omega))
    have h4 := (ix_i (c := hr t n a) (by omega)).2
    refine ⟨?_, ?_, fun _ => Or.inl ?_⟩
    · show skp t n a + 1 ≤ n; omega
    · show a ≤ skp t n a + 1; omega
    · show ix (hr t n a) - 97 < 6; omega
  · split
    · rename_i hl
      obtain ⟨h5, h6, h7⟩ := nuF_le t n (if hr t n a = nI 48 then 1 else 3) (skp t n a) 0 h2
      have h8 : 10 ^ (if hr t n a = nI 48 then 1 else 3) ≤ 1000 := by split <;> decide
      refine ⟨h6, Nat.le_trans h1.1 h5, fun _ => Or.inr ⟨?_, ?_⟩⟩
      · show 10 ≤ 10 + _; omega
      · show 10 + _ ≤ 1009; omega
    · exact ⟨h2, h1.1, fun q => by cases q⟩
def rdP (μ ν : xS) (n : Nat) (F : Bool × Nat × Nat) (j : Nat) : Prop := (∀ w, w ≠ 5 → w ≠ 6 → ν w = μ w) ∧ pst ν n F.2.1 ∧ (F.1 = true → ν 5 = upd (μ 5) j (nI F.2.2)) ∧ (F.1 = false → ν 5 = μ 5)
theorem btr {b : Bool} : b2i (b = true) = b2i (b = true) := rfl
theorem b2b {p : Prop} [Decidable p] {b : Bool} (h : p ↔ b = true) : b2i p = b2i (b = true) := b2i_iff h
theorem s_X8_passes {G : xG} {d : Nat} {f : Nat → xC} {r : Nat × Nat} {Q : Option Value → xM → Prop} {m : Nat} {μ : xS} {n a : Nat} {c : Int32} (hp : pst μ n a) (hc0 : ¬ c = nI 0) (hq : Q (some (.int (b2i (hr (μ 3) n a = c)))) (mput f m (up2 μ 6 0 (nI (pas (μ 3) n a c))), r)) : xMet G (d + 1) mX8_passes [.ref m, .int c] (mput f m μ, r) r Q := by
  refine xMet_0 (by decide +kernel) rfl (Nat.le_of_ble_eq_true rfl) ?_
  show xX G (d + 1) mX8_passes r r (xΦ G r r Q) 0 [(0, .ref m), (1, .int c)] [] (mput f m μ, r)
  refine xr_aload_n (n := 1) dX8_passes_0 rfl rfl ?_
  refine xr_callV (y2 := mX8_here) (As := []) (n := 4) dX8_passes_1 lm_X8_75 pm_X8_here pi_X8_here (by first | exact mput_0 _ _ _ | exact mput_r (by decide)) rfl rfl rfl (by simp [Value.category]) rfl ⟨Nat.le_refl _, Nat.le_refl _⟩ ?_
  refine s_X8_here hp ?_
  dsimp only [xK, xps]
  refine xr_iload_n (n := 5) dX8_passes_4 rfl rfl ?_
  refine xr_icmp_ne (tgt := 12) (n := 8) dX8_passes_5 (by decide) rfl (fun h5 => ?_) (fun h5 => ?_)
  · have hh : ¬ hr (μ 3) n a = c := by first | exact h5 | exact fun q => h5 q
    refine xr_iconst (v := nI 0) (n := 13) dX8_passes_12 (by decide) rfl ?_
    refine xq_istore_n 2 (n := 14) dX8_passes_13 rfl rfl rfl ?_
    simp only [xst, Nat.beq, List.filter, Bool.not_true, Bool.not_false]
    refine xr_aload_n (n := 15) dX8_passes_14 rfl rfl ?_
    refine xr_dup (n := 16) dX8_passes_15 rfl rfl ?_
    refine xr_get (n := 19) dX8_passes_16 fl_X8_72 (by first | exact mput_0 _ _ _ | exact mput_r (by decide)) (by rfl) rfl ?_
    try simp (disch := omega) only [nI_clamp, pk_mul, nI_add, oi1, up2_a, ur_a, Nat.reduceEqDiff, Nat.reduceMul, Nat.reduceAdd, reduceIte, if_pos, if_neg]
    refine xr_iload_n (n := 20) dX8_passes_19 rfl rfl ?_
    refine xr_if_eq (tgt := 27) (n := 23) dX8_passes_20 (by decide) rfl (fun h20 => ?_) (fun h20 => by (exfalso; revert h20; decide))
    refine xr_iconst (v := nI 0) (n := 28) dX8_passes_27 (by decide) rfl ?_
    refine xr_iadd (n := 29) dX8_passes_28 rfl ?_
    try simp (disch := omega) only [nI_clamp, pk_mul, nI_add, oi1, up2_a, ur_a, Nat.reduceEqDiff, Nat.reduceMul, Nat.reduceAdd, reduceIte, if_pos, if_neg]
    refine xq_put (n := 32) dX8_passes_29 fl_X8_72 rfl (by first | exact mput_0 _ _ _ | exact mput_r (by decide)) (by rfl) (by rfl) (by rfl) rfl ?_
    simp (disch := omega) only [nI_clamp, List.set, mw_0, mw_1, mw_2, mw_3, mw_4, mw_5, mw_6, mw_7, mw_8, mw_9, mw_10, mw_11, mw_12, mw_13, mw_14, mw_15, mw_16, mw_17, mw_18, mw_19]
    refine xr_iload_n (n := 33) dX8_passes_32 rfl rfl ?_
    refine xr_ireturn dX8_passes_33 rfl (by first | exact b2i_nar | exact nar_1 | exact nar_0) rfl ?_
    try rw [up2_up2]
    first | (rw [pas_t hh, b2i_t hh] at hq; exact hq) | (rw [pas_f hh, b2i_f hh] at hq; exact hq)
  · have hh : hr (μ 3) n a = c := by first | exact h5 | exact Decidable.not_not.mp h5
    refine xr_iconst (v := nI 1) (n := 9) dX8_passes_8 (by decide) rfl ?_
    refine xr_goto (n := 13) dX8_passes_9 (by decide) ?_
    refine xq_istore_n 2 (n := 14) dX8_passes_13 rfl rfl rfl ?_
    simp only [xst, Nat.beq, List.filter, Bool.not_true, Bool.not_false]
    refine xr_aload_n (n := 15) dX8_passes_14 rfl rfl ?_
    refine xr_dup (n := 16) dX8_passes_15 rfl rfl ?_
    refine xr_get (n := 19) dX8_passes_16 fl_X8_72 (by first | exact mput_0 _ _ _ | exact mput_r (by decide)) (by rfl) rfl ?_
    try simp (disch := omega) only [nI_clamp, pk_mul, nI_add, oi1, up2_a, ur_a, Nat.reduceEqDiff, Nat.reduceMul, Nat.reduceAdd, reduceIte, if_pos, if_neg]
    refine xr_iload_n (n := 20) dX8_passes_19 rfl rfl ?_
    refine xr_if_eq (tgt := 27) (n := 23) dX8_passes_20 (by decide) rfl (fun h20 => by (exfalso; revert h20; decide)) (fun h20 => ?_)
    refine xr_iconst (v := nI 1) (n := 24) dX8_passes_23 (by decide) rfl ?_
    refine xr_goto (n := 28) dX8_passes_24 (by decide) ?_
    refine xr_iadd (n := 29) dX8_passes_28 rfl ?_
    try simp (disch := omega) only [nI_clamp, pk_mul, nI_add, oi1, up2_a, ur_a, Nat.reduceEqDiff, Nat.reduceMul, Nat.reduceAdd, reduceIte, if_pos, if_neg]
    refine xq_put (n := 32) dX8_passes_29 fl_X8_72 rfl (by first | exact mput_0 _ _ _ | exact mput_r (by decide)) (by rfl) (by rfl) (by rfl) rfl ?_
    simp (disch := omega) only [nI_clamp, List.set, mw_0, mw_1, mw_2, mw_3, mw_4, mw_5, mw_6, mw_7, mw_8, mw_9, mw_10, mw_11, mw_12, mw_13, mw_14, mw_15, mw_16, mw_17, mw_18, mw_19]
    refine xr_iload_n (n := 33) dX8_passes_32 rfl rfl ?_
    refine xr_ireturn dX8_passes_33 rfl (by first | exact b2i_nar | exact nar_1 | exact nar_0) rfl ?_
    try rw [up2_up2]
    first | (rw [pas_t hh, b2i_t hh] at hq; exact hq) | (rw [pas_f hh, b2i_f hh] at hq; exact hq)

theorem s_X8_readsCell {G : xG} {d : Nat} {f : Nat → xC} {r : Nat × Nat} {Q : Option Value → xM → Prop} {m : Nat} {μ : xS} {n a s : Nat} (hp : pst μ n a) (hs : s < 60) (hq : ∀ ν, rdP μ ν n (ceF (μ 3) n a) (1 + 7 * s + 1) → Q (some (.int (b2i ((ceF (μ 3) n a).1 = true)))) (mput f m ν, r)) : xMet G (d + 2) mX8_readsCell [.ref m, .int (nI s)] (mput f m μ, r) r Q := by
  refine xMet_0 (by decide +kernel) rfl (Nat.le_of_ble_eq_true rfl) ?_
  show xX G (d + 2) mX8_readsCell r r (xΦ G r r Q) 0 [(0, .ref m), (1, .int (nI s))] [] (mput f m μ, r)
  refine xr_aload_n (n := 1) dX8_readsCell_0 rfl rfl ?_
  refine xr_callV (y2 := mX8_here) (As := []) (n := 4) dX8_readsCell_1 lm_X8_75 pm_X8_here pi_X8_here (by first | exact mput_0 _ _ _ | exact mput_r (by decide)) rfl rfl rfl (by simp [Value.category]) rfl ⟨Nat.le_refl _, Nat.le_refl _⟩ ?_
  refine s_X8_here hp ?_
  dsimp only [xK, xps]
  refine xr_callS (y2 := mX8_isLetter) (As := [_]) (n := 7) dX8_readsCell_4 lm_X8_79 pm_X8_isLetter kp_static_yX8_isLetter rfl rfl (by simp [Value.category]) rfl ⟨Nat.le_refl _, Nat.le_refl _⟩ ?_
  refine s_X8_isLetter ?_
  dsimp only [xK, xps]
  refine xq_istore_n 2 (n := 8) dX8_readsCell_7 rfl rfl rfl ?_
  simp only [xst, Nat.beq, List.filter, Bool.not_true, Bool.not_false]
  refine xr_iload_n (n := 9) dX8_readsCell_8 rfl rfl ?_
  refine xr_beq (tgt := 40) (n := 12) dX8_readsCell_9 (by decide) rfl (fun h9 => ?_) (fun h9 => ?_)
  · have hl : ¬ isL (hr (μ 3) n a) := h9
    refine xr_iload_n (n := 41) dX8_readsCell_40 rfl rfl ?_
    refine xr_ireturn dX8_readsCell_41 rfl (by first | exact b2i_nar | exact nar_1 | exact nar_0) rfl ?_
    refine qi (hq _ ?_) ?_
    · unfold ceF
      first | rw [if_pos hl] | rw [if_neg hl]
      first
        | exact ⟨fun w h5 h6 => by rw [up2_n _ _ _ h6, up2_n _ _ _ h5, up2_n _ _ _ h6], ⟨by rw [up2_n _ _ _ (by omega), up2_n _ _ _ (by omega), up2_n _ _ _ (by omega)]; exact hp.1, up2_ss _ _ _ _, hlt, hp4⟩, fun _ => by rw [up2_n _ _ _ (by omega), up2_s, up2_n _ _ _ (by omega)], fun q => by cases q⟩
        | exact ⟨fun w h5 h6 => by rw [up2_n _ _ _ h6], hp.at (skp_le hp.2.2.1), fun q => (by cases q), fun _ => up2_n _ _ _ (by omega)⟩
    · refine b2i_iff ?_
      unfold ceF
      first | (rw [if_pos hl]; exact ⟨fun _ => hl, fun _ => rfl⟩) | (rw [if_neg hl]; exact ⟨fun q => (by cases q), fun q => absurd q hl⟩)
  · have hl : isL (hr (μ 3) n a) := h9
    have hlt := hr_lt (n0_i (k := 97) hl.1 (by omega))
    have hp4 := hp.2.2.2
    refine xr_aload_n (n := 13) dX8_readsCell_12 rfl rfl ?_
    refine xr_iload_n (n := 14) dX8_readsCell_13 rfl rfl ?_
    refine xr_iconst (v := nI 1) (n := 15) dX8_readsCell_14 (by decide) rfl ?_
    refine xr_aload_n (n := 16) dX8_readsCell_15 rfl rfl ?_
    refine xr_get (n := 19) dX8_readsCell_16 fl_X8_16 (by first | exact mput_0 _ _ _ | exact mput_r (by decide)) (by rfl) rfl ?_
    refine xr_aload_n (n := 20) dX8_readsCell_19 rfl rfl ?_
    refine xr_get (n := 23) dX8_readsCell_20 fl_X8_72 (by first | exact mput_0 _ _ _ | exact mput_r (by decide)) (by rfl) rfl ?_
    try simp (disch := omega) only [nI_clamp, pk_mul, nI_add, oi1, up2_a, ur_a, Nat.reduceEqDiff, Nat.reduceMul, Nat.reduceAdd, reduceIte, if_pos, if_neg]
    refine xr_iaload (n := 24) dX8_readsCell_23 (by first | exact mput_0 _ _ _ | exact mput_r (by decide)) (by first | exact vp_in_nI (by omega) (by omega)) rfl ?_
    try simp (disch := omega) only [nI_clamp, pk_mul, nI_add, oi1, up2_a, ur_a, Nat.reduceEqDiff, Nat.reduceMul, Nat.reduceAdd, reduceIte, if_pos, if_neg]
    refine xr_bipush (v := nI 97) (n := 26) dX8_readsCell_24 (by decide) rfl ?_
    refine xr_isub (n := 27) dX8_readsCell_26 rfl ?_
    rw [show μ 3 (skp (μ 3) n a) = hr (μ 3) n a from (if_pos hlt).symm, ix_sub (k := 97) hl.1]
    refine xr_callV (y2 := mX8_put) (As := [_, _, _]) (n := 30) dX8_readsCell_27 lm_X8_83 pm_X8_put pi_X8_put (by first | exact mput_0 _ _ _ | exact mput_r (by decide)) rfl rfl rfl (by simp [Value.category]) rfl ⟨Nat.le_refl _, Nat.le_refl _⟩ ?_
    refine s_X8_put (by omega) (by omega) ?_
    dsimp only [xK, xps]
    refine xr_aload_n (n := 31) dX8_readsCell_30 rfl rfl ?_
    refine xr_dup (n := 32) dX8_readsCell_31 rfl rfl ?_
    refine xr_get (n := 35) dX8_readsCell_32 fl_X8_72 (by first | exact mput_0 _ _ _ | exact mput_r (by decide)) (by rfl) rfl ?_
    try simp (disch := omega) only [nI_clamp, pk_mul, nI_add, oi1, up2_a, ur_a, Nat.reduceEqDiff, Nat.reduceMul, Nat.reduceAdd, reduceIte, if_pos, if_neg]
    refine xr_iconst (v := nI 1) (n := 36) dX8_readsCell_35 (by decide) rfl ?_
    refine xr_iadd (n := 37) dX8_readsCell_36 rfl ?_
    try simp (disch := omega) only [nI_clamp, pk_mul, nI_add, oi1, up2_a, ur_a, Nat.reduceEqDiff, Nat.reduceMul, Nat.reduceAdd, reduceIte, if_pos, if_neg]
    refine xq_put (n := 40) dX8_readsCell_37 fl_X8_72 rfl (by first | exact mput_0 _ _ _ | exact mput_r (by decide)) (by rfl) (by rfl) (by rfl) rfl ?_
    simp (disch := omega) only [nI_clamp, List.set, mw_0, mw_1, mw_2, mw_3, mw_4, mw_5, mw_6, mw_7, mw_8, mw_9, mw_10, mw_11, mw_12, mw_13, mw_14, mw_15, mw_16, mw_17, mw_18, mw_19]
    refine xr_iload_n (n := 41) dX8_readsCell_40 rfl rfl ?_
    refine xr_ireturn dX8_readsCell_41 rfl (by first | exact b2i_nar | exact nar_1 | exact nar_0) rfl ?_
    refine qi (hq _ ?_) ?_
    · unfold ceF
      first | rw [if_pos hl] | rw [if_neg hl]
      first
        | exact ⟨fun w h5 h6 => by rw [up2_n _ _ _ h6, up2_n _ _ _ h5, up2_n _ _ _ h6], ⟨by rw [up2_n _ _ _ (by omega), up2_n _ _ _ (by omega), up2_n _ _ _ (by omega)]; exact hp.1, up2_ss _ _ _ _, hlt, hp4⟩, fun _ => by rw [up2_n _ _ _ (by omega), up2_s, up2_n _ _ _ (by omega)], fun q => by cases q⟩
        | exact ⟨fun w h5 h6 => by rw [up2_n _ _ _ h6], hp.at (skp_le hp.2.2.1), fun q => (by cases q), fun _ => up2_n _ _ _ (by omega)⟩
    · refine b2i_iff ?_
      unfold ceF
      first | (rw [if_pos hl]; exact ⟨fun _ => hl, fun _ => rfl⟩) | (rw [if_neg hl]; exact ⟨fun q => (by cases q), fun q => absurd q hl⟩)

theorem digit_a {c : Int32} {v : Nat} (h : 0 ≤ c.toInt) : nI v + c = nI (v + ix c) := by
  rw [← nI_add, ← (ix_i h).1]
theorem digit_s {v x : Nat} (h : 48 ≤ x) : nI (v + x) - nI 48 = nI (v + (x - 48)) := by
  rw [show v + x = (v + (x - 48)) + 48 from by omega, ← nI_add, Int32.add_sub_cancel]
theorem s_X8_readsTerm {G : xG} {d : Nat} {f : Nat → xC} {r : Nat × Nat} {Q : Option Value → xM → Prop} {m : Nat} {μ : xS} {n a s w : Nat} (hp : pst μ n a) (hs : s < 60) (hw : w < 7) (hq : ∀ ν, rdP μ ν n (teF (μ 3) n a) (1 + 7 * s + w) → Q (some (.int (b2i ((teF (μ 3) n a).1 = true)))) (mput f m ν, r)) : xMet G (d + 2) mX8_readsTerm [.ref m, .int (nI s), .int (nI w)] (mput f m μ, r) r Q := by
  refine xMet_0 (by decide +kernel) rfl (Nat.le_of_ble_eq_true rfl) ?_
  show xX G (d + 2) mX8_readsTerm r r (xΦ G r r Q) 0 [(0, .ref m), (1, .int (nI s)), (2, .int (nI w))] [] (mput f m μ, r)
  have hp4 := hp.2.2.2
  have hp3 := hp.2.2.1
  have hp1 := hp.1
  refine xr_aload_n (n := 1) dX8_readsTerm_0 rfl rfl ?_
  refine xr_callV (y2 := mX8_here) (As := []) (n := 4) dX8_readsTerm_1 lm_X8_75 pm_X8_here pi_X8_here (by first | exact mput_0 _ _ _ | exact mput_r (by decide)) rfl rfl rfl (by simp [Value.category]) rfl ⟨Nat.le_refl _, Nat.le_refl _⟩ ?_
  refine s_X8_here hp ?_
  dsimp only [xK, xps]
  refine xq_istore_n 3 (n := 5) dX8_readsTerm_4 rfl rfl rfl ?_
  simp only [xst, Nat.beq, List.filter, Bool.not_true, Bool.not_false]
  rw [show ch (μ 3) n (skp (μ 3) n a) = hr (μ 3) n a from rfl]
  refine xr_iload_n (n := 6) dX8_readsTerm_5 rfl rfl ?_
  refine xr_callS (y2 := mX8_isLetter) (As := [_]) (n := 9) dX8_readsTerm_6 lm_X8_79 pm_X8_isLetter kp_static_yX8_isLetter rfl rfl (by simp [Value.category]) rfl ⟨Nat.le_refl _, Nat.le_refl _⟩ ?_
  refine s_X8_isLetter ?_
  dsimp only [xK, xps]
  rw [show ∀ x : Int32, b2i (97 ≤ x.toInt ∧ x.toInt ≤ 102) = b2i (isL x) from fun _ => rfl]
  refine xr_beq (tgt := 34) (n := 12) dX8_readsTerm_9 (by decide) rfl (fun h9 => ?_) (fun h9 => ?_)
  · have hl : ¬ isL (hr (μ 3) n a) := h9
    refine xr_iload_n (n := 35) dX8_readsTerm_34 rfl rfl ?_
    refine xr_bipush (v := nI 48) (n := 37) dX8_readsTerm_35 (by decide) rfl ?_
    refine xr_bipush (v := nI 57) (n := 39) dX8_readsTerm_37 (by decide) rfl ?_
    refine xr_callS (y2 := mX8_within) (As := [_, _, _]) (n := 42) dX8_readsTerm_39 lm_X8_61 pm_X8_within kp_static_yX8_within rfl rfl (by simp [Value.category]) rfl ⟨Nat.le_refl _, Nat.le_refl _⟩ ?_
    refine s_X8_within ?_
    dsimp only [xK, xps]
    rw [b2i_iff (q := isDg (hr (μ 3) n a)) (by simp (disch := omega) only [nt]; exact Iff.rfl)]
    refine xr_bne (tgt := 47) (n := 45) dX8_readsTerm_42 (by decide) rfl (fun h42 => ?_) (fun h42 => ?_)
    · have hd : isDg (hr (μ 3) n a) := h42
      have hlt := hr_lt (n0_i (k := 48) hd.1 (by omega))
      refine xr_iconst (v := nI 0) (n := 48) dX8_readsTerm_47 (by decide) rfl ?_
      refine xr_istore (n := 50) dX8_readsTerm_48 rfl rfl ?_
      simp only [xst, Nat.beq, List.filter, Bool.not_true, Bool.not_false]
      refine xr_iload_n (n := 51) dX8_readsTerm_50 rfl rfl ?_
      refine xr_bipush (v := nI 48) (n := 53) dX8_readsTerm_51 (by decide) rfl ?_
      refine xr_icmp_ne (tgt := 60) (n := 56) dX8_readsTerm_53 (by decide) rfl (fun h53 => ?_) (fun h53 => ?_)
      · have hm : (if hr (μ 3) n a = nI 48 then 1 else 3) = 3 := if_neg (by first | exact h53 | exact fun q => h53 q)
        refine xr_iconst (v := nI 3) (n := 61) dX8_readsTerm_60 (by decide) rfl ?_
        refine xr_istore (n := 63) dX8_readsTerm_61 rfl rfl ?_
        simp only [xst, Nat.beq, List.filter, Bool.not_true, Bool.not_false]
        refine xr_aload_n (n := 64) dX8_readsTerm_63 rfl rfl ?_
        refine xr_get (n := 67) dX8_readsTerm_64 fl_X8_72 (by first | exact mput_0 _ _ _ | exact mput_r (by decide)) (by rfl) rfl ?_
        try simp (disch := omega) only [nI_clamp, pk_mul, nI_add, oi1, up2_a, ur_a, Nat.reduceEqDiff, Nat.reduceMul, Nat.reduceAdd, reduceIte, if_pos, if_neg, hp1]
        refine xr_istore (n := 69) dX8_readsTerm_67 rfl rfl ?_
        simp only [xst, Nat.beq, List.filter, Bool.not_true, Bool.not_false]
        generalize hq0 : skp (μ 3) n a = q0 at *
        have key : ∀ g b v, b ≤ n → q0 ≤ b → b - q0 + g = 3 → v + 1 ≤ 1000 → nuF (μ 3) n 3 q0 0 = nuF (μ 3) n g b v → (g = 3 → v + 1 ≤ 1) → (g = 2 → v + 1 ≤ 10) → (g = 1 → v + 1 ≤ 100) → xX G (d + 2) mX8_readsTerm r r (xΦ G r r Q) 69 [(0, .ref m), (1, .int (nI s)), (2, .int (nI w)), (3, .int (hr (μ 3) n a)), (4, .int (nI v)), (5, .int (nI 3)), (6, .int (nI q0))] [] (mput f m (up2 μ 6 0 (nI b)), r) := by
          intro g
          induction g with
          | zero =>
            intro b v hb hqb hg hv hnu hg3 hg2 hg1
            have hnx : nuF (μ 3) n 0 b v = (b, v) := rfl
            refine xr_aload_n (n := 70) dX8_readsTerm_69 rfl rfl ?_
            refine xr_get (n := 73) dX8_readsTerm_70 fl_X8_72 (by first | exact mput_0 _ _ _ | exact mput_r (by decide)) (by rfl) rfl ?_
            try simp (disch := omega) only [nI_clamp, pk_mul, nI_add, oi1, up2_a, ur_a, Nat.reduceEqDiff, Nat.reduceMul, Nat.reduceAdd, reduceIte, if_pos, if_neg, hp1]
            refine xr_aload_n (n := 74) dX8_readsTerm_73 rfl rfl ?_
            refine xr_get (n := 77) dX8_readsTerm_74 fl_X8_69 (by first | exact mput_0 _ _ _ | exact mput_r (by decide)) (by rfl) rfl ?_
            try simp (disch := omega) only [nI_clamp, pk_mul, nI_add, oi1, up2_a, ur_a, Nat.reduceEqDiff, Nat.reduceMul, Nat.reduceAdd, reduceIte, if_pos, if_neg, hp1]
            refine xr_icmp_ge (tgt := 144) (n := 80) dX8_readsTerm_77 (by decide) rfl (fun h77 => ?_) (fun h77 => ?_)
            · refine xr_aload_n (n := 145) dX8_readsTerm_144 rfl rfl ?_
              refine xr_iload_n (n := 146) dX8_readsTerm_145 rfl rfl ?_
              refine xr_iload_n (n := 147) dX8_readsTerm_146 rfl rfl ?_
              refine xr_bipush (v := nI 10) (n := 149) dX8_readsTerm_147 (by decide) rfl ?_
              refine xr_iload (n := 151) dX8_readsTerm_149 rfl rfl ?_
              refine xr_iadd (n := 152) dX8_readsTerm_151 rfl ?_
              try simp (disch := omega) only [nI_clamp, pk_mul, nI_add, oi1, up2_a, ur_a, Nat.reduceEqDiff, Nat.reduceMul, Nat.reduceAdd, reduceIte, if_pos, if_neg, hp1]
              refine xr_callV (y2 := mX8_put) (As := [_, _, _]) (n := 155) dX8_readsTerm_152 lm_X8_83 pm_X8_put pi_X8_put (by first | exact mput_0 _ _ _ | exact mput_r (by decide)) rfl rfl rfl (by simp [Value.category]) rfl ⟨Nat.le_refl _, Nat.le_refl _⟩ ?_
              refine s_X8_put (by omega) (by omega) ?_
              dsimp only [xK, xps]
              refine xr_iconst (v := nI 1) (n := 156) dX8_readsTerm_155 (by decide) rfl ?_
              refine xr_ireturn dX8_readsTerm_156 rfl (by first | exact b2i_nar | exact nar_1 | exact nar_0) rfl ?_
              refine qi (hq _ ?_) ?_
              · unfold teF
                rw [if_neg hl, if_pos hd, hm, hq0, hnu, hnx]
                refine ⟨fun w h5 h6 => by rw [up2_n _ _ _ h5, up2_n _ _ _ h6], ⟨by rw [up2_n _ _ _ (by omega), up2_n _ _ _ (by omega)]; exact hp.1, by rw [up2_n _ _ _ (by omega), up2_ss], hb, hp4⟩, fun _ => ?_, fun q => by cases q⟩
                rw [up2_s, up2_n _ _ _ (by omega)]
              · unfold teF
                rw [if_neg hl, if_pos hd]
                rfl
            · refine xr_aload_n (n := 81) dX8_readsTerm_80 rfl rfl ?_
              refine xr_get (n := 84) dX8_readsTerm_81 fl_X8_72 (by first | exact mput_0 _ _ _ | exact mput_r (by decide)) (by rfl) rfl ?_
              try simp (disch := omega) only [nI_clamp, pk_mul, nI_add, oi1, up2_a, ur_a, Nat.reduceEqDiff, Nat.reduceMul, Nat.reduceAdd, reduceIte, if_pos, if_neg, hp1]
              refine xr_iload (n := 86) dX8_readsTerm_84 rfl rfl ?_
              refine xr_isub (n := 87) dX8_readsTerm_86 rfl ?_
              rw [pk_sub (by omega)]
              refine xr_iload (n := 89) dX8_readsTerm_87 rfl rfl ?_
              refine xr_icmp_ge (tgt := 144) (n := 92) dX8_readsTerm_89 (by decide) rfl (fun h89 => ?_) (fun h89 => by (exfalso; ((try simp (disch := omega) only [i_lt, i_le, i_eq, nt, i_m1, Int32.toInt_zero] at *); omega)))
              refine xr_aload_n (n := 145) dX8_readsTerm_144 rfl rfl ?_
              refine xr_iload_n (n := 146) dX8_readsTerm_145 rfl rfl ?_
              refine xr_iload_n (n := 147) dX8_readsTerm_146 rfl rfl ?_
              refine xr_bipush (v := nI 10) (n := 149) dX8_readsTerm_147 (by decide) rfl ?_
              refine xr_iload (n := 151) dX8_readsTerm_149 rfl rfl ?_
              refine xr_iadd (n := 152) dX8_readsTerm_151 rfl ?_
              try simp (disch := omega) only [nI_clamp, pk_mul, nI_add, oi1, up2_a, ur_a, Nat.reduceEqDiff, Nat.reduceMul, Nat.reduceAdd, reduceIte, if_pos, if_neg, hp1]
              refine xr_callV (y2 := mX8_put) (As := [_, _, _]) (n := 155) dX8_readsTerm_152 lm_X8_83 pm_X8_put pi_X8_put (by first | exact mput_0 _ _ _ | exact mput_r (by decide)) rfl rfl rfl (by simp [Value.category]) rfl ⟨Nat.le_refl _, Nat.le_refl _⟩ ?_
              refine s_X8_put (by omega) (by omega) ?_
              dsimp only [xK, xps]
              refine xr_iconst (v := nI 1) (n := 156) dX8_readsTerm_155 (by decide) rfl ?_
              refine xr_ireturn dX8_readsTerm_156 rfl (by first | exact b2i_nar | exact nar_1 | exact nar_0) rfl ?_
              refine qi (hq _ ?_) ?_
              · unfold teF
                rw [if_neg hl, if_pos hd, hm, hq0, hnu, hnx]
                refine ⟨fun w h5 h6 => by rw [up2_n _ _ _ h5, up2_n _ _ _ h6], ⟨by rw [up2_n _ _ _ (by omega), up2_n _ _ _ (by omega)]; exact hp.1, by rw [up2_n _ _ _ (by omega), up2_ss], hb, hp4⟩, fun _ => ?_, fun q => by cases q⟩
                rw [up2_s, up2_n _ _ _ (by omega)]
              · unfold teF
                rw [if_neg hl, if_pos hd]
                rfl
          | succ g ih =>
            intro b v hb hqb hg hv hnu hg3 hg2 hg1
            have hnuS : nuF (μ 3) n (g + 1) b v = if b < n ∧ isDg (μ 3 b) then nuF (μ 3) n g (b + 1) (10 * v + (ix (μ 3 b) - 48)) else (b, v) := rfl
            refine xr_aload_n (n := 70) dX8_readsTerm_69 rfl rfl ?_
            refine xr_get (n := 73) dX8_readsTerm_70 fl_X8_72 (by first | exact mput_0 _ _ _ | exact mput_r (by decide)) (by rfl) rfl ?_
            try simp (disch := omega) only [nI_clamp, pk_mul, nI_add, oi1, up2_a, ur_a, Nat.reduceEqDiff, Nat.reduceMul, Nat.reduceAdd, reduceIte, if_pos, if_neg, hp1]
            refine xr_aload_n (n := 74) dX8_readsTerm_73 rfl rfl ?_
            refine xr_get (n := 77) dX8_readsTerm_74 fl_X8_69 (by first | exact mput_0 _ _ _ | exact mput_r (by decide)) (by rfl) rfl ?_
            try simp (disch := omega) only [nI_clamp, pk_mul, nI_add, oi1, up2_a, ur_a, Nat.reduceEqDiff, Nat.reduceMul, Nat.reduceAdd, reduceIte, if_pos, if_neg, hp1]
            refine xr_icmp_ge (tgt := 144) (n := 80) dX8_readsTerm_77 (by decide) rfl (fun h77 => ?_) (fun h77 => ?_)
            · have hnx : nuF (μ 3) n (g + 1) b v = (b, v) := by rw [hnuS, if_neg (fun q => by ((try simp (disch := omega) only [i_lt, i_le, i_eq, nt, i_m1, Int32.toInt_zero] at *); omega))]
              refine xr_aload_n (n := 145) dX8_readsTerm_144 rfl rfl ?_
              refine xr_iload_n (n := 146) dX8_readsTerm_145 rfl rfl ?_
              refine xr_iload_n (n := 147) dX8_readsTerm_146 rfl rfl ?_
              refine xr_bipush (v := nI 10) (n := 149) dX8_readsTerm_147 (by decide) rfl ?_
              refine xr_iload (n := 151) dX8_readsTerm_149 rfl rfl ?_
              refine xr_iadd (n := 152) dX8_readsTerm_151 rfl ?_
              try simp (disch := omega) only [nI_clamp, pk_mul, nI_add, oi1, up2_a, ur_a, Nat.reduceEqDiff, Nat.reduceMul, Nat.reduceAdd, reduceIte, if_pos, if_neg, hp1]
              refine xr_callV (y2 := mX8_put) (As := [_, _, _]) (n := 155) dX8_readsTerm_152 lm_X8_83 pm_X8_put pi_X8_put (by first | exact mput_0 _ _ _ | exact mput_r (by decide)) rfl rfl rfl (by simp [Value.category]) rfl ⟨Nat.le_refl _, Nat.le_refl _⟩ ?_
              refine s_X8_put (by omega) (by omega) ?_
              dsimp only [xK, xps]
              refine xr_iconst (v := nI 1) (n := 156) dX8_readsTerm_155 (by decide) rfl ?_
              refine xr_ireturn dX8_readsTerm_156 rfl (by first | exact b2i_nar | exact nar_1 | exact nar_0) rfl ?_
              refine qi (hq _ ?_) ?_
              · unfold teF
                rw [if_neg hl, if_pos hd, hm, hq0, hnu, hnx]
                refine ⟨fun w h5 h6 => by rw [up2_n _ _ _ h5, up2_n _ _ _ h6], ⟨by rw [up2_n _ _ _ (by omega), up2_n _ _ _ (by omega)]; exact hp.1, by rw [up2_n _ _ _ (by omega), up2_ss], hb, hp4⟩, fun _ => ?_, fun q => by cases q⟩
                rw [up2_s, up2_n _ _ _ (by omega)]
              · unfold teF
                rw [if_neg hl, if_pos hd]
                rfl
            · have hbn : b < n := by ((try simp (disch := omega) only [i_lt, i_le, i_eq, nt, i_m1, Int32.toInt_zero] at *); omega)
              refine xr_aload_n (n := 81) dX8_readsTerm_80 rfl rfl ?_
              refine xr_get (n := 84) dX8_readsTerm_81 fl_X8_72 (by first | exact mput_0 _ _ _ | exact mput_r (by decide)) (by rfl) rfl ?_
              try simp (disch := omega) only [nI_clamp, pk_mul, nI_add, oi1, up2_a, ur_a, Nat.reduceEqDiff, Nat.reduceMul, Nat.reduceAdd, reduceIte, if_pos, if_neg, hp1]
              refine xr_iload (n := 86) dX8_readsTerm_84 rfl rfl ?_
              refine xr_isub (n := 87) dX8_readsTerm_86 rfl ?_
              rw [pk_sub (by omega)]
              refine xr_iload (n := 89) dX8_readsTerm_87 rfl rfl ?_
              refine xr_icmp_ge (tgt := 144) (n := 92) dX8_readsTerm_89 (by decide) rfl (fun h89 => by (exfalso; ((try simp (disch := omega) only [i_lt, i_le, i_eq, nt, i_m1, Int32.toInt_zero] at *); omega))) (fun h89 => ?_)
              refine xr_aload_n (n := 93) dX8_readsTerm_92 rfl rfl ?_
              refine xr_get (n := 96) dX8_readsTerm_93 fl_X8_16 (by first | exact mput_0 _ _ _ | exact mput_r (by decide)) (by rfl) rfl ?_
              refine xr_aload_n (n := 97) dX8_readsTerm_96 rfl rfl ?_
              refine xr_get (n := 100) dX8_readsTerm_97 fl_X8_72 (by first | exact mput_0 _ _ _ | exact mput_r (by decide)) (by rfl) rfl ?_
              try simp (disch := omega) only [nI_clamp, pk_mul, nI_add, oi1, up2_a, ur_a, Nat.reduceEqDiff, Nat.reduceMul, Nat.reduceAdd, reduceIte, if_pos, if_neg, hp1]
              refine xr_iaload (n := 101) dX8_readsTerm_100 (by first | exact mput_0 _ _ _ | exact mput_r (by decide)) (by first | exact vp_in_nI (by omega) (by omega)) rfl ?_
              try simp (disch := omega) only [nI_clamp, pk_mul, nI_add, oi1, up2_a, ur_a, Nat.reduceEqDiff, Nat.reduceMul, Nat.reduceAdd, reduceIte, if_pos, if_neg, hp1]
              refine xr_bipush (v := nI 48) (n := 103) dX8_readsTerm_101 (by decide) rfl ?_
              refine xr_bipush (v := nI 57) (n := 105) dX8_readsTerm_103 (by decide) rfl ?_
              refine xr_callS (y2 := mX8_within) (As := [_, _, _]) (n := 108) dX8_readsTerm_105 lm_X8_61 pm_X8_within kp_static_yX8_within rfl rfl (by simp [Value.category]) rfl ⟨Nat.le_refl _, Nat.le_refl _⟩ ?_
              refine s_X8_within ?_
              dsimp only [xK, xps]
              rw [b2i_iff (q := isDg (μ 3 b)) (by simp (disch := omega) only [nt]; exact Iff.rfl)]
              refine xr_beq (tgt := 144) (n := 111) dX8_readsTerm_108 (by decide) rfl (fun h108 => ?_) (fun h108 => ?_)
              · have hdg : ¬ isDg (μ 3 b) := h108
                have hnx : nuF (μ 3) n (g + 1) b v = (b, v) := by rw [hnuS, if_neg (fun q => hdg q.2)]
                refine xr_aload_n (n := 145) dX8_readsTerm_144 rfl rfl ?_
                refine xr_iload_n (n := 146) dX8_readsTerm_145 rfl rfl ?_
                refine xr_iload_n (n := 147) dX8_readsTerm_146 rfl rfl ?_
                refine xr_bipush (v := nI 10) (n := 149) dX8_readsTerm_147 (by decide) rfl ?_
                refine xr_iload (n := 151) dX8_readsTerm_149 rfl rfl ?_
                refine xr_iadd (n := 152) dX8_readsTerm_151 rfl ?_
                try simp (disch := omega) only [nI_clamp, pk_mul, nI_add, oi1, up2_a, ur_a, Nat.reduceEqDiff, Nat.reduceMul, Nat.reduceAdd, reduceIte, if_pos, if_neg, hp1]
                refine xr_callV (y2 := mX8_put) (As := [_, _, _]) (n := 155) dX8_readsTerm_152 lm_X8_83 pm_X8_put pi_X8_put (by first | exact mput_0 _ _ _ | exact mput_r (by decide)) rfl rfl rfl (by simp [Value.category]) rfl ⟨Nat.le_refl _, Nat.le_refl _⟩ ?_
                refine s_X8_put (by omega) (by omega) ?_
                dsimp only [xK, xps]
                refine xr_iconst (v := nI 1) (n := 156) dX8_readsTerm_155 (by decide) rfl ?_
                refine xr_ireturn dX8_readsTerm_156 rfl (by first | exact b2i_nar | exact nar_1 | exact nar_0) rfl ?_
                refine qi (hq _ ?_) ?_
                · unfold teF
                  rw [if_neg hl, if_pos hd, hm, hq0, hnu, hnx]
                  refine ⟨fun w h5 h6 => by rw [up2_n _ _ _ h5, up2_n _ _ _ h6], ⟨by rw [up2_n _ _ _ (by omega), up2_n _ _ _ (by omega)]; exact hp.1, by rw [up2_n _ _ _ (by omega), up2_ss], hb, hp4⟩, fun _ => ?_, fun q => by cases q⟩
                  rw [up2_s, up2_n _ _ _ (by omega)]
                · unfold teF
                  rw [if_neg hl, if_pos hd]
                  rfl
              · have hdg : isDg (μ 3 b) := h108
                have hix := (ix_i (c := μ 3 b) (by have := hdg.1; omega)).2
                have hnx := hnuS.trans (if_pos ⟨hbn, hdg⟩)
                have hdg2 := hdg.2
                have hdg1 := hdg.1
                refine xr_bipush (v := nI 10) (n := 113) dX8_readsTerm_111 (by decide) rfl ?_
                refine xr_iload (n := 115) dX8_readsTerm_113 rfl rfl ?_
                refine xr_imul (n := 116) dX8_readsTerm_115 rfl ?_
                try simp (disch := omega) only [nI_clamp, pk_mul, nI_add, oi1, up2_a, ur_a, Nat.reduceEqDiff, Nat.reduceMul, Nat.reduceAdd, reduceIte, if_pos, if_neg, hp1]
                refine xr_aload_n (n := 117) dX8_readsTerm_116 rfl rfl ?_
                refine xr_get (n := 120) dX8_readsTerm_117 fl_X8_16 (by first | exact mput_0 _ _ _ | exact mput_r (by decide)) (by rfl) rfl ?_
                refine xr_aload_n (n := 121) dX8_readsTerm_120 rfl rfl ?_
                refine xr_get (n := 124) dX8_readsTerm_121 fl_X8_72 (by first | exact mput_0 _ _ _ | exact mput_r (by decide)) (by rfl) rfl ?_
                try simp (disch := omega) only [nI_clamp, pk_mul, nI_add, oi1, up2_a, ur_a, Nat.reduceEqDiff, Nat.reduceMul, Nat.reduceAdd, reduceIte, if_pos, if_neg, hp1]
                refine xr_iaload (n := 125) dX8_readsTerm_124 (by first | exact mput_0 _ _ _ | exact mput_r (by decide)) (by first | exact vp_in_nI (by omega) (by omega)) rfl ?_
                try simp (disch := omega) only [nI_clamp, pk_mul, nI_add, oi1, up2_a, ur_a, Nat.reduceEqDiff, Nat.reduceMul, Nat.reduceAdd, reduceIte, if_pos, if_neg, hp1]
                refine xr_iadd (n := 126) dX8_readsTerm_125 rfl ?_
                rw [digit_a (by omega)]
                refine xr_bipush (v := nI 48) (n := 128) dX8_readsTerm_126 (by decide) rfl ?_
                refine xr_isub (n := 129) dX8_readsTerm_128 rfl ?_
                rw [digit_s (by omega)]
                refine xr_istore (n := 131) dX8_readsTerm_129 rfl rfl ?_
                simp only [xst, Nat.beq, List.filter, Bool.not_true, Bool.not_false]
                refine xr_aload_n (n := 132) dX8_readsTerm_131 rfl rfl ?_
                refine xr_dup (n := 133) dX8_readsTerm_132 rfl rfl ?_
                refine xr_get (n := 136) dX8_readsTerm_133 fl_X8_72 (by first | exact mput_0 _ _ _ | exact mput_r (by decide)) (by rfl) rfl ?_
                try simp (disch := omega) only [nI_clamp, pk_mul, nI_add, oi1, up2_a, ur_a, Nat.reduceEqDiff, Nat.reduceMul, Nat.reduceAdd, reduceIte, if_pos, if_neg, hp1]
                refine xr_iconst (v := nI 1) (n := 137) dX8_readsTerm_136 (by decide) rfl ?_
                refine xr_iadd (n := 138) dX8_readsTerm_137 rfl ?_
                try simp (disch := omega) only [nI_clamp, pk_mul, nI_add, oi1, up2_a, ur_a, Nat.reduceEqDiff, Nat.reduceMul, Nat.reduceAdd, reduceIte, if_pos, if_neg, hp1]
                refine xq_put (n := 141) dX8_readsTerm_138 fl_X8_72 rfl (by first | exact mput_0 _ _ _ | exact mput_r (by decide)) (by rfl) (by rfl) (by rfl) rfl ?_
                simp (disch := omega) only [nI_clamp, List.set, mw_0, mw_1, mw_2, mw_3, mw_4, mw_5, mw_6, mw_7, mw_8, mw_9, mw_10, mw_11, mw_12, mw_13, mw_14, mw_15, mw_16, mw_17, mw_18, mw_19]
                refine xr_goto (n := 69) dX8_readsTerm_141 (by decide) ?_
                rw [up2_up2]
                exact ih (b + 1) _ (by omega) (by omega) (by omega) (by omega) (hnu.trans hnx) (by omega) (by omega) (by omega)
        exact key 3 q0 0 (by omega) (Nat.le_refl _) (by omega) (by omega) rfl (by omega) (by omega) (by omega)
      · have hm : (if hr (μ 3) n a = nI 48 then 1 else 3) = 1 := if_pos (by first | exact h53 | exact Decidable.not_not.mp h53)
        refine xr_iconst (v := nI 1) (n := 57) dX8_readsTerm_56 (by decide) rfl ?_
        refine xr_goto (n := 61) dX8_readsTerm_57 (by decide) ?_
        refine xr_istore (n := 63) dX8_readsTerm_61 rfl rfl ?_
        simp only [xst, Nat.beq, List.filter, Bool.not_true, Bool.not_false]
        refine xr_aload_n (n := 64) dX8_readsTerm_63 rfl rfl ?_
        refine xr_get (n := 67) dX8_readsTerm_64 fl_X8_72 (by first | exact mput_0 _ _ _ | exact mput_r (by decide)) (by rfl) rfl ?_
        try simp (disch := omega) only [nI_clamp, pk_mul, nI_add, oi1, up2_a, ur_a, Nat.reduceEqDiff, Nat.reduceMul, Nat.reduceAdd, reduceIte, if_pos, if_neg, hp1]
        refine xr_istore (n := 69) dX8_readsTerm_67 rfl rfl ?_
        simp only [xst, Nat.beq, List.filter, Bool.not_true, Bool.not_false]
        generalize hq0 : skp (μ 3) n a = q0 at *
        have key : ∀ g b v, b ≤ n → q0 ≤ b → b - q0 + g = 1 → v + 1 ≤ 1000 → nuF (μ 3) n 1 q0 0 = nuF (μ 3) n g b v → (g = 3 → v + 1 ≤ 1) → (g = 2 → v + 1 ≤ 10) → (g = 1 → v + 1 ≤ 100) → xX G (d + 2) mX8_readsTerm r r (xΦ G r r Q) 69 [(0, .ref m), (1, .int (nI s)), (2, .int (nI w)), (3, .int (hr (μ 3) n a)), (4, .int (nI v)), (5, .int (nI 1)), (6, .int (nI q0))] [] (mput f m (up2 μ 6 0 (nI b)), r) := by
          intro g
          induction g with
          | zero =>
            intro b v hb hqb hg hv hnu hg3 hg2 hg1
            have hnx : nuF (μ 3) n 0 b v = (b, v) := rfl
            refine xr_aload_n (n := 70) dX8_readsTerm_69 rfl rfl ?_
            refine xr_get (n := 73) dX8_readsTerm_70 fl_X8_72 (by first | exact mput_0 _ _ _ | exact mput_r (by decide)) (by rfl) rfl ?_
            try simp (disch := omega) only [nI_clamp, pk_mul, nI_add, oi1, up2_a, ur_a, Nat.reduceEqDiff, Nat.reduceMul, Nat.reduceAdd, reduceIte, if_pos, if_neg, hp1]
            refine xr_aload_n (n := 74) dX8_readsTerm_73 rfl rfl ?_
            refine xr_get (n := 77) dX8_readsTerm_74 fl_X8_69 (by first | exact mput_0 _ _ _ | exact mput_r (by decide)) (by rfl) rfl ?_
            try simp (disch := omega) only [nI_clamp, pk_mul, nI_add, oi1, up2_a, ur_a, Nat.reduceEqDiff, Nat.reduceMul, Nat.reduceAdd, reduceIte, if_pos, if_neg, hp1]
            refine xr_icmp_ge (tgt := 144) (n := 80) dX8_readsTerm_77 (by decide) rfl (fun h77 => ?_) (fun h77 => ?_)
            · refine xr_aload_n (n := 145) dX8_readsTerm_144 rfl rfl ?_
              refine xr_iload_n (n := 146) dX8_readsTerm_145 rfl rfl ?_
              refine xr_iload_n (n := 147) dX8_readsTerm_146 rfl rfl ?_
              refine xr_bipush (v := nI 10) (n := 149) dX8_readsTerm_147 (by decide) rfl ?_
              refine xr_iload (n := 151) dX8_readsTerm_149 rfl rfl ?_
              refine xr_iadd (n := 152) dX8_readsTerm_151 rfl ?_
              try simp (disch := omega) only [nI_clamp, pk_mul, nI_add, oi1, up2_a, ur_a, Nat.reduceEqDiff, Nat.reduceMul, Nat.reduceAdd, reduceIte, if_pos, if_neg, hp1]
              refine xr_callV (y2 := mX8_put) (As := [_, _, _]) (n := 155) dX8_readsTerm_152 lm_X8_83 pm_X8_put pi_X8_put (by first | exact mput_0 _ _ _ | exact mput_r (by decide)) rfl rfl rfl (by simp [Value.category]) rfl ⟨Nat.le_refl _, Nat.le_refl _⟩ ?_
              refine s_X8_put (by omega) (by omega) ?_
              dsimp only [xK, xps]
              refine xr_iconst (v := nI 1) (n := 156) dX8_readsTerm_155 (by decide) rfl ?_
              refine xr_ireturn dX8_readsTerm_156 rfl (by first | exact b2i_nar | exact nar_1 | exact nar_0) rfl ?_
              refine qi (hq _ ?_) ?_
              · unfold teF
                rw [if_neg hl, if_pos hd, hm, hq0, hnu, hnx]
                refine ⟨fun w h5 h6 => by rw [up2_n _ _ _ h5, up2_n _ _ _ h6], ⟨by rw [up2_n _ _ _ (by omega), up2_n _ _ _ (by omega)]; exact hp.1, by rw [up2_n _ _ _ (by omega), up2_ss], hb, hp4⟩, fun _ => ?_, fun q => by cases q⟩
                rw [up2_s, up2_n _ _ _ (by omega)]
              · unfold teF
                rw [if_neg hl, if_pos hd]
                rfl
            · refine xr_aload_n (n := 81) dX8_readsTerm_80 rfl rfl ?_
              refine xr_get (n := 84) dX8_readsTerm_81 fl_X8_72 (by first | exact mput_0 _ _ _ | exact mput_r (by decide)) (by rfl) rfl ?_
              try simp (disch := omega) only [nI_clamp, pk_mul, nI_add, oi1, up2_a, ur_a, Nat.reduceEqDiff, Nat.reduceMul, Nat.reduceAdd, reduceIte, if_pos, if_neg, hp1]
              refine xr_iload (n := 86) dX8_readsTerm_84 rfl rfl ?_
              refine xr_isub (n := 87) dX8_readsTerm_86 rfl ?_
              rw [pk_sub (by omega)]
              refine xr_iload (n := 89) dX8_readsTerm_87 rfl rfl ?_
              refine xr_icmp_ge (tgt := 144) (n := 92) dX8_readsTerm_89 (by decide) rfl (fun h89 => ?_) (fun h89 => by (exfalso; ((try simp (disch := omega) only [i_lt, i_le, i_eq, nt, i_m1, Int32.toInt_zero] at *); omega)))
              refine xr_aload_n (n := 145) dX8_readsTerm_144 rfl rfl ?_
              refine xr_iload_n (n := 146) dX8_readsTerm_145 rfl rfl ?_
              refine xr_iload_n (n := 147) dX8_readsTerm_146 rfl rfl ?_
              refine xr_bipush (v := nI 10) (n := 149) dX8_readsTerm_147 (by decide) rfl ?_
              refine xr_iload (n := 151) dX8_readsTerm_149 rfl rfl ?_
              refine xr_iadd (n := 152) dX8_readsTerm_151 rfl ?_
              try simp (disch := omega) only [nI_clamp, pk_mul, nI_add, oi1, up2_a, ur_a, Nat.reduceEqDiff, Nat.reduceMul, Nat.reduceAdd, reduceIte, if_pos, if_neg, hp1]
              refine xr_callV (y2 := mX8_put) (As := [_, _, _]) (n := 155) dX8_readsTerm_152 lm_X8_83 pm_X8_put pi_X8_put (by first | exact mput_0 _ _ _ | exact mput_r (by decide)) rfl rfl rfl (by simp [Value.category]) rfl ⟨Nat.le_refl _, Nat.le_refl _⟩ ?_
              refine s_X8_put (by omega) (by omega) ?_
              dsimp only [xK, xps]
              refine xr_iconst (v := nI 1) (n := 156) dX8_readsTerm_155 (by decide) rfl ?_
              refine xr_ireturn dX8_readsTerm_156 rfl (by first | exact b2i_nar | exact nar_1 | exact nar_0) rfl ?_
              refine qi (hq _ ?_) ?_
              · unfold teF
                rw [if_neg hl, if_pos hd, hm, hq0, hnu, hnx]
                refine ⟨fun w h5 h6 => by rw [up2_n _ _ _ h5, up2_n _ _ _ h6], ⟨by rw [up2_n _ _ _ (by omega), up2_n _ _ _ (by omega)]; exact hp.1, by rw [up2_n _ _ _ (by omega), up2_ss], hb, hp4⟩, fun _ => ?_, fun q => by cases q⟩
                rw [up2_s, up2_n _ _ _ (by omega)]
              · unfold teF
                rw [if_neg hl, if_pos hd]
                rfl
          | succ g ih =>
            intro b v hb hqb hg hv hnu hg3 hg2 hg1
            have hnuS : nuF (μ 3) n (g + 1) b v = if b < n ∧ isDg (μ 3 b) then nuF (μ 3) n g (b + 1) (10 * v + (ix (μ 3 b) - 48)) else (b, v) := rfl
            refine xr_aload_n (n := 70) dX8_readsTerm_69 rfl rfl ?_
            refine xr_get (n := 73) dX8_readsTerm_70 fl_X8_72 (by first | exact mput_0 _ _ _ | exact mput_r (by decide)) (by rfl) rfl ?_
            try simp (disch := omega) only [nI_clamp, pk_mul, nI_add, oi1, up2_a, ur_a, Nat.reduceEqDiff, Nat.reduceMul, Nat.reduceAdd, reduceIte, if_pos, if_neg, hp1]
            refine xr_aload_n (n := 74) dX8_readsTerm_73 rfl rfl ?_
            refine xr_get (n := 77) dX8_readsTerm_74 fl_X8_69 (by first | exact mput_0 _ _ _ | exact mput_r (by decide)) (by rfl) rfl ?_
            try simp (disch := omega) only [nI_clamp, pk_mul, nI_add, oi1, up2_a, ur_a, Nat.reduceEqDiff, Nat.reduceMul, Nat.reduceAdd, reduceIte, if_pos, if_neg, hp1]
            refine xr_icmp_ge (tgt := 144) (n := 80) dX8_readsTerm_77 (by decide) rfl (fun h77 => ?_) (fun h77 => ?_)
            · have hnx : nuF (μ 3) n (g + 1) b v = (b, v) := by rw [hnuS, if_neg (fun q => by ((try simp (disch := omega) only [i_lt, i_le, i_eq, nt, i_m1, Int32.toInt_zero] at *); omega))]
              refine xr_aload_n (n := 145) dX8_readsTerm_144 rfl rfl ?_
              refine xr_iload_n (n := 146) dX8_readsTerm_145 rfl rfl ?_
              refine xr_iload_n (n := 147) dX8_readsTerm_146 rfl rfl ?_
              refine xr_bipush (v := nI 10) (n := 149) dX8_readsTerm_147 (by decide) rfl ?_
              refine xr_iload (n := 151) dX8_readsTerm_149 rfl rfl ?_
              refine xr_iadd (n := 152) dX8_readsTerm_151 rfl ?_
              try simp (disch := omega) only [nI_clamp, pk_mul, nI_add, oi1, up2_a, ur_a, Nat.reduceEqDiff, Nat.reduceMul, Nat.reduceAdd, reduceIte, if_pos, if_neg, hp1]
              refine xr_callV (y2 := mX8_put) (As := [_, _, _]) (n := 155) dX8_readsTerm_152 lm_X8_83 pm_X8_put pi_X8_put (by first | exact mput_0 _ _ _ | exact mput_r (by decide)) rfl rfl rfl (by simp [Value.category]) rfl ⟨Nat.le_refl _, Nat.le_refl _⟩ ?_
              refine s_X8_put (by omega) (by omega) ?_
              dsimp only [xK, xps]
              refine xr_iconst (v := nI 1) (n := 156) dX8_readsTerm_155 (by decide) rfl ?_
              refine xr_ireturn dX8_readsTerm_156 rfl (by first | exact b2i_nar | exact nar_1 | exact nar_0) rfl ?_
              refine qi (hq _ ?_) ?_
              · unfold teF
                rw [if_neg hl, if_pos hd, hm, hq0, hnu, hnx]
                refine ⟨fun w h5 h6 => by rw [up2_n _ _ _ h5, up2_n _ _ _ h6], ⟨by rw [up2_n _ _ _ (by omega), up2_n _ _ _ (by omega)]; exact hp.1, by rw [up2_n _ _ _ (by omega), up2_ss], hb, hp4⟩, fun _ => ?_, fun q => by cases q⟩
                rw [up2_s, up2_n _ _ _ (by omega)]
              · unfold teF
                rw [if_neg hl, if_pos hd]
                rfl
            · have hbn : b < n := by ((try simp (disch := omega) only [i_lt, i_le, i_eq, nt, i_m1, Int32.toInt_zero] at *); omega)
              refine xr_aload_n (n := 81) dX8_readsTerm_80 rfl rfl ?_
              refine xr_get (n := 84) dX8_readsTerm_81 fl_X8_72 (by first | exact mput_0 _ _ _ | exact mput_r (by decide)) (by rfl) rfl ?_
              try simp (disch := omega) only [nI_clamp, pk_mul, nI_add, oi1, up2_a, ur_a, Nat.reduceEqDiff, Nat.reduceMul, Nat.reduceAdd, reduceIte, if_pos, if_neg, hp1]
              refine xr_iload (n := 86) dX8_readsTerm_84 rfl rfl ?_
              refine xr_isub (n := 87) dX8_readsTerm_86 rfl ?_
              rw [pk_sub (by omega)]
              refine xr_iload (n := 89) dX8_readsTerm_87 rfl rfl ?_
              refine xr_icmp_ge (tgt := 144) (n := 92) dX8_readsTerm_89 (by decide) rfl (fun h89 => by (exfalso; ((try simp (disch := omega) only [i_lt, i_le, i_eq, nt, i_m1, Int32.toInt_zero] at *); omega))) (fun h89 => ?_)
              refine xr_aload_n (n := 93) dX8_readsTerm_92 rfl rfl ?_
              refine xr_get (n := 96) dX8_readsTerm_93 fl_X8_16 (by first | exact mput_0 _ _ _ | exact mput_r (by decide)) (by rfl) rfl ?_
              refine xr_aload_n (n := 97) dX8_readsTerm_96 rfl rfl ?_
              refine xr_get (n := 100) dX8_readsTerm_97 fl_X8_72 (by first | exact mput_0 _ _ _ | exact mput_r (by decide)) (by rfl) rfl ?_
              try simp (disch := omega) only [nI_clamp, pk_mul, nI_add, oi1, up2_a, ur_a, Nat.reduceEqDiff, Nat.reduceMul, Nat.reduceAdd, reduceIte, if_pos, if_neg, hp1]
              refine xr_iaload (n := 101) dX8_readsTerm_100 (by first | exact mput_0 _ _ _ | exact mput_r (by decide)) (by first | exact vp_in_nI (by omega) (by omega)) rfl ?_
              try simp (disch := omega) only [nI_clamp, pk_mul, nI_add, oi1, up2_a, ur_a, Nat.reduceEqDiff, Nat.reduceMul, Nat.reduceAdd, reduceIte, if_pos, if_neg, hp1]
              refine xr_bipush (v := nI 48) (n := 103) dX8_readsTerm_101 (by decide) rfl ?_
              refine xr_bipush (v := nI 57) (n := 105) dX8_readsTerm_103 (by decide) rfl ?_
              refine xr_callS (y2 := mX8_within) (As := [_, _, _]) (n := 108) dX8_readsTerm_105 lm_X8_61 pm_X8_within kp_static_yX8_within rfl rfl (by simp [Value.category]) rfl ⟨Nat.le_refl _, Nat.le_refl _⟩ ?_
              refine s_X8_within ?_
              dsimp only [xK, xps]
              rw [b2i_iff (q := isDg (μ 3 b)) (by simp (disch := omega) only [nt]; exact Iff.rfl)]
              refine xr_beq (tgt := 144) (n := 111) dX8_readsTerm_108 (by decide) rfl (fun h108 => ?_) (fun h108 => ?_)
              · have hdg : ¬ isDg (μ 3 b) := h108
                have hnx : nuF (μ 3) n (g + 1) b v = (b, v) := by rw [hnuS, if_neg (fun q => hdg q.2)]
                refine xr_aload_n (n := 145) dX8_readsTerm_144 rfl rfl ?_
                refine xr_iload_n (n := 146) dX8_readsTerm_145 rfl rfl ?_
                refine xr_iload_n (n := 147) dX8_readsTerm_146 rfl rfl ?_
                refine xr_bipush (v := nI 10) (n := 149) dX8_readsTerm_147 (by decide) rfl ?_
                refine xr_iload (n := 151) dX8_readsTerm_149 rfl rfl ?_
                refine xr_iadd (n := 152) dX8_readsTerm_151 rfl ?_
                try simp (disch := omega) only [nI_clamp, pk_mul, nI_add, oi1, up2_a, ur_a, Nat.reduceEqDiff, Nat.reduceMul, Nat.reduceAdd, reduceIte, if_pos, if_neg, hp1]
                refine xr_callV (y2 := mX8_put) (As := [_, _, _]) (n := 155) dX8_readsTerm_152 lm_X8_83 pm_X8_put pi_X8_put (by first | exact mput_0 _ _ _ | exact mput_r (by decide)) rfl rfl rfl (by simp [Value.category]) rfl ⟨Nat.le_refl _, Nat.le_refl _⟩ ?_
                refine s_X8_put (by omega) (by omega) ?_
                dsimp only [xK, xps]
                refine xr_iconst (v := nI 1) (n := 156) dX8_readsTerm_155 (by decide) rfl ?_
                refine xr_ireturn dX8_readsTerm_156 rfl (by first | exact b2i_nar | exact nar_1 | exact nar_0) rfl ?_
                refine qi (hq _ ?_) ?_
                · unfold teF
                  rw [if_neg hl, if_pos hd, hm, hq0, hnu, hnx]
                  refine ⟨fun w h5 h6 => by rw [up2_n _ _ _ h5, up2_n _ _ _ h6], ⟨by rw [up2_n _ _ _ (by omega), up2_n _ _ _ (by omega)]; exact hp.1, by rw [up2_n _ _ _ (by omega), up2_ss], hb, hp4⟩, fun _ => ?_, fun q => by cases q⟩
                  rw [up2_s, up2_n _ _ _ (by omega)]
                · unfold teF
                  rw [if_neg hl, if_pos hd]
                  rfl
              · have hdg : isDg (μ 3 b) := h108
                have hix := (ix_i (c := μ 3 b) (by have := hdg.1; omega)).2
                have hnx := hnuS.trans (if_pos ⟨hbn, hdg⟩)
                have hdg2 := hdg.2
                have hdg1 := hdg.1
                refine xr_bipush (v := nI 10) (n := 113) dX8_readsTerm_111 (by decide) rfl ?_
                refine xr_iload (n := 115) dX8_readsTerm_113 rfl rfl ?_
                refine xr_imul (n := 116) dX8_readsTerm_115 rfl ?_
                try simp (disch := omega) only [nI_clamp, pk_mul, nI_add, oi1, up2_a, ur_a, Nat.reduceEqDiff, Nat.reduceMul, Nat.reduceAdd, reduceIte, if_pos, if_neg, hp1]
                refine xr_aload_n (n := 117) dX8_readsTerm_116 rfl rfl ?_
                refine xr_get (n := 120) dX8_readsTerm_117 fl_X8_16 (by first | exact mput_0 _ _ _ | exact mput_r (by decide)) (by rfl) rfl ?_
                refine xr_aload_n (n := 121) dX8_readsTerm_120 rfl rfl ?_
                refine xr_get (n := 124) dX8_readsTerm_121 fl_X8_72 (by first | exact mput_0 _ _ _ | exact mput_r (by decide)) (by rfl) rfl ?_
                try simp (disch := omega) only [nI_clamp, pk_mul, nI_add, oi1, up2_a, ur_a, Nat.reduceEqDiff, Nat.reduceMul, Nat.reduceAdd, reduceIte, if_pos, if_neg, hp1]
                refine xr_iaload (n := 125) dX8_readsTerm_124 (by first | exact mput_0 _ _ _ | exact mput_r (by decide)) (by first | exact vp_in_nI (by omega) (by omega)) rfl ?_
                try simp (disch := omega) only [nI_clamp, pk_mul, nI_add, oi1, up2_a, ur_a, Nat.reduceEqDiff, Nat.reduceMul, Nat.reduceAdd, reduceIte, if_pos, if_neg, hp1]
                refine xr_iadd (n := 126) dX8_readsTerm_125 rfl ?_
                rw [digit_a (by omega)]
                refine xr_bipush (v := nI 48) (n := 128) dX8_readsTerm_126 (by decide) rfl ?_
                refine xr_isub (n := 129) dX8_readsTerm_128 rfl ?_
                rw [digit_s (by omega)]
                refine xr_istore (n := 131) dX8_readsTerm_129 rfl rfl ?_
                simp only [xst, Nat.beq, List.filter, Bool.not_true, Bool.not_false]
                refine xr_aload_n (n := 132) dX8_readsTerm_131 rfl rfl ?_
                refine xr_dup (n := 133) dX8_readsTerm_132 rfl rfl ?_
                refine xr_get (n := 136) dX8_readsTerm_133 fl_X8_72 (by first | exact mput_0 _ _ _ | exact mput_r (by decide)) (by rfl) rfl ?_
                try simp (disch := omega) only [nI_clamp, pk_mul, nI_add, oi1, up2_a, ur_a, Nat.reduceEqDiff, Nat.reduceMul, Nat.reduceAdd, reduceIte, if_pos, if_neg, hp1]
                refine xr_iconst (v := nI 1) (n := 137) dX8_readsTerm_136 (by decide) rfl ?_
                refine xr_iadd (n := 138) dX8_readsTerm_137 rfl ?_
                try simp (disch := omega) only [nI_clamp, pk_mul, nI_add, oi1, up2_a, ur_a, Nat.reduceEqDiff, Nat.reduceMul, Nat.reduceAdd, reduceIte, if_pos, if_neg, hp1]
                refine xq_put (n := 141) dX8_readsTerm_138 fl_X8_72 rfl (by first | exact mput_0 _ _ _ | exact mput_r (by decide)) (by rfl) (by rfl) (by rfl) rfl ?_
                simp (disch := omega) only [nI_clamp, List.set, mw_0, mw_1, mw_2, mw_3, mw_4, mw_5, mw_6, mw_7, mw_8, mw_9, mw_10, mw_11, mw_12, mw_13, mw_14, mw_15, mw_16, mw_17, mw_18, mw_19]
                refine xr_goto (n := 69) dX8_readsTerm_141 (by decide) ?_
                rw [up2_up2]
                exact ih (b + 1) _ (by omega) (by omega) (by omega) (by omega) (hnu.trans hnx) (by omega) (by omega) (by omega)
        exact key 1 q0 0 (by omega) (Nat.le_refl _) (by omega) (by omega) rfl (by omega) (by omega) (by omega)
    · have hd : ¬ isDg (hr (μ 3) n a) := h42
      refine xr_iconst (v := nI 0) (n := 46) dX8_readsTerm_45 (by decide) rfl ?_
      refine xr_ireturn dX8_readsTerm_46 rfl (by first | exact b2i_nar | exact nar_1 | exact nar_0) rfl ?_
      refine qi (hq _ ?_) ?_
      · unfold teF
        rw [if_neg hl, if_neg hd]
        exact ⟨fun w h5 h6 => by rw [up2_n _ _ _ h6], hp.at (skp_le hp.2.2.1), fun q => (by cases q), fun _ => up2_n _ _ _ (by omega)⟩
      · unfold teF
        rw [if_neg hl, if_neg hd]
        rfl
  · have hl : isL (hr (μ 3) n a) := h9
    have hlt := hr_lt (n0_i (k := 97) hl.1 (by omega))
    refine xr_aload_n (n := 13) dX8_readsTerm_12 rfl rfl ?_
    refine xr_iload_n (n := 14) dX8_readsTerm_13 rfl rfl ?_
    refine xr_iload_n (n := 15) dX8_readsTerm_14 rfl rfl ?_
    refine xr_iload_n (n := 16) dX8_readsTerm_15 rfl rfl ?_
    refine xr_bipush (v := nI 97) (n := 18) dX8_readsTerm_16 (by decide) rfl ?_
    refine xr_isub (n := 19) dX8_readsTerm_18 rfl ?_
    rw [ix_sub (k := 97) hl.1]
    refine xr_callV (y2 := mX8_put) (As := [_, _, _]) (n := 22) dX8_readsTerm_19 lm_X8_83 pm_X8_put pi_X8_put (by first | exact mput_0 _ _ _ | exact mput_r (by decide)) rfl rfl rfl (by simp [Value.category]) rfl ⟨Nat.le_refl _, Nat.le_refl _⟩ ?_
    refine s_X8_put (by omega) (by omega) ?_
    dsimp only [xK, xps]
    refine xr_aload_n (n := 23) dX8_readsTerm_22 rfl rfl ?_
    refine xr_dup (n := 24) dX8_readsTerm_23 rfl rfl ?_
    refine xr_get (n := 27) dX8_readsTerm_24 fl_X8_72 (by first | exact mput_0 _ _ _ | exact mput_r (by decide)) (by rfl) rfl ?_
    try simp (disch := omega) only [nI_clamp, pk_mul, nI_add, oi1, up2_a, ur_a, Nat.reduceEqDiff, Nat.reduceMul, Nat.reduceAdd, reduceIte, if_pos, if_neg, hp1]
    refine xr_iconst (v := nI 1) (n := 28) dX8_readsTerm_27 (by decide) rfl ?_
    refine xr_iadd (n := 29) dX8_readsTerm_28 rfl ?_
    try simp (disch := omega) only [nI_clamp, pk_mul, nI_add, oi1, up2_a, ur_a, Nat.reduceEqDiff, Nat.reduceMul, Nat.reduceAdd, reduceIte, if_pos, if_neg, hp1]
    refine xq_put (n := 32) dX8_readsTerm_29 fl_X8_72 rfl (by first | exact mput_0 _ _ _ | exact mput_r (by decide)) (by rfl) (by rfl) (by rfl) rfl ?_
    simp (disch := omega) only [nI_clamp, List.set, mw_0, mw_1, mw_2, mw_3, mw_4, mw_5, mw_6, mw_7, mw_8, mw_9, mw_10, mw_11, mw_12, mw_13, mw_14, mw_15, mw_16, mw_17, mw_18, mw_19]
    refine xr_iconst (v := nI 1) (n := 33) dX8_readsTerm_32 (by decide) rfl ?_
    refine xr_ireturn dX8_readsTerm_33 rfl (by first | exact b2i_nar | exact nar_1 | exact nar_0) rfl ?_
    refine qi (hq _ ?_) ?_
    · unfold teF
      rw [if_pos hl]
      exact ⟨fun w h5 h6 => by rw [up2_n _ _ _ h6, up2_n _ _ _ h5, up2_n _ _ _ h6], ⟨by rw [up2_n _ _ _ (by omega), up2_n _ _ _ (by omega), up2_n _ _ _ (by omega)]; exact hp.1, up2_ss _ _ _ _, hlt, hp4⟩, fun _ => by rw [up2_n _ _ _ (by omega), up2_s, up2_n _ _ _ (by omega)], fun q => by cases q⟩
    · unfold teF
      rw [if_pos hl]
      rfl
