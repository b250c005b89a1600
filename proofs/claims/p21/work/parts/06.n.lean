/-! the class: the text, and the reader's small steps -/
theorem w_119 {n : Nat} (h : n ≤ 120) : ((nI 0).toInt ≤ (nI n).toInt ∧ (nI n).toInt ≤ (nI 119).toInt) ↔ n < 120 := by
  rw [nt _ (by omega), nt _ (by omega), nt _ (by omega)]
  omega
theorem i_m120 {n : Nat} (h : n ≤ 120) : (if nI 120 < nI n then nI 120 else nI n) = nI n := by
  rw [if_neg (fun q => by rw [i_lt, nt _ (by omega), nt _ (by omega)] at q; omega)]
theorem i_m120b {n : Nat} (h : n ≤ 120) : (if nI n < nI 120 then nI n else nI 120) = nI n := by
  by_cases e : n < 120
  · rw [if_pos (by rw [i_lt, nt _ (by omega), nt _ (by omega)]; omega)]
  · rw [if_neg (by rw [i_lt, nt _ (by omega), nt _ (by omega)]; omega), show n = 120 from by omega]
theorem w_n1 {n k : Nat} (h : n ≤ 120) (hk : k ≤ 200) : ((nI 0).toInt ≤ (nI k).toInt ∧ (nI k).toInt ≤ (nI n - nI 1).toInt) ↔ k < n := by
  have e0 := nt 0 (by omega)
  have e1 := nt k (by omega)
  have e2 := nt n (by omega)
  have e3 := nt 1 (by omega)
  rw [i_sub (by rw [e2, e3]; omega) (by rw [e2, e3]; omega), e0, e1, e2, e3]
  omega
theorem s_X5_isFull {G : xG} {d : Nat} {f : Nat → xC} {r : Nat × Nat} {Q : Option Value → xM → Prop} {a n : Nat} {χ : xS} (hX : xat f a χ) (hn : χ 1 0 = nI n) (hn2 : n ≤ 120) (hq : Q (some (.int (b2i (120 ≤ n)))) (f, r)) : xMet G d mX5_isFull [.ref a] (f, r) r Q := by
  refine xMet_0 (by decide +kernel) rfl (Nat.le_of_ble_eq_true rfl) ?_
  show xX G d mX5_isFull r r (xΦ G r r Q) 0 [(0, .ref a)] [] (f, r)
  refine xr_aload_n (n := 1) dX5_isFull_0 rfl rfl ?_
  refine xr_get (n := 4) dX5_isFull_1 fl_X5_15 (by first | exact xat_0 (xput_at _ _ _) | exact xat_r (xput_at _ _ _) (by decide) | exact xat_0 hX | exact xat_r hX (by decide)) (by rfl) rfl ?_
  (first | (simp (disch := omega) only [nI_clamp, pk_mul, nI_add, oi1, up2_ss, up2_n, up2_sn, ur_s, ur_n, Nat.reduceMul, Nat.reduceAdd, Nat.add_zero, hn]) | skip)
  refine xr_bipush (v := nI 120) (n := 6) dX5_isFull_4 (by decide) rfl ?_
  refine xr_icmp_lt (tgt := 13) (n := 9) dX5_isFull_6 (by decide) rfl (fun h6 => ?_) (fun h6 => ?_)
  · refine xr_iconst (v := nI 0) (n := 14) dX5_isFull_13 (by decide) rfl ?_
    refine xr_ireturn dX5_isFull_14 rfl (by first | exact b2i_nar | exact nar_1 | exact nar_0) rfl ?_
    first | exact hq | (rw [b2i_t (by ((try simp (disch := omega) only [i_lt, i_le, i_eq, nt, i_m1, Int32.toInt_zero] at *); omega))] at hq; exact hq) | (rw [b2i_f (by ((try simp (disch := omega) only [i_lt, i_le, i_eq, nt, i_m1, Int32.toInt_zero] at *); omega))] at hq; exact hq)
  · refine xr_iconst (v := nI 1) (n := 10) dX5_isFull_9 (by decide) rfl ?_
    refine xr_goto (n := 14) dX5_isFull_10 (by decide) ?_
    refine xr_ireturn dX5_isFull_14 rfl (by first | exact b2i_nar | exact nar_1 | exact nar_0) rfl ?_
    first | exact hq | (rw [b2i_t (by ((try simp (disch := omega) only [i_lt, i_le, i_eq, nt, i_m1, Int32.toInt_zero] at *); omega))] at hq; exact hq) | (rw [b2i_f (by ((try simp (disch := omega) only [i_lt, i_le, i_eq, nt, i_m1, Int32.toInt_zero] at *); omega))] at hq; exact hq)

theorem s_X5_add {G : xG} {d : Nat} {f : Nat → xC} {r : Nat × Nat} {Q : Option Value → xM → Prop} {a n : Nat} {χ : xS} {c : Int32} (hn : χ 1 0 = nI n) (hn2 : n < 120) (hc : vp_nar .char c = c) (hq : Q none (xput f a (up2 (up2 χ 0 n c) 1 0 (nI (n + 1))), r)) : xMet G (d + 1) mX5_add [.ref a, .int c] (xput f a χ, r) r Q := by
  refine xMet_0 (by decide +kernel) rfl (Nat.le_of_ble_eq_true rfl) ?_
  show xX G (d + 1) mX5_add r r (xΦ G r r Q) 0 [(0, .ref a), (1, .int c)] [] (xput f a χ, r)
  refine xr_aload_n (n := 1) dX5_add_0 rfl rfl ?_
  refine xr_get (n := 4) dX5_add_1 fl_X5_15 (by first | exact xat_0 (xput_at _ _ _) | exact xat_r (xput_at _ _ _) (by decide) | exact xat_0 hX | exact xat_r hX (by decide)) (by rfl) rfl ?_
  refine xr_iconst (v := nI 0) (n := 5) dX5_add_4 (by decide) rfl ?_
  refine xr_bipush (v := nI 119) (n := 7) dX5_add_5 (by decide) rfl ?_
  refine xr_callS (y2 := mX7_isWithin) (As := [_, _, _]) (n := 10) dX5_add_7 lm_X5_19 pm_X7_isWithin kp_static_yX7_isWithin rfl rfl (by simp [Value.category]) rfl ⟨Nat.le_refl _, Nat.le_refl _⟩ ?_
  refine s_X7_isWithin ?_
  dsimp only [xK, xps]
  rw [hn, b2i_iff (w_119 (by omega))]
  refine xr_beq (tgt := 33) (n := 13) dX5_add_10 (by decide) rfl (fun h10 => ?_) (fun h10 => ?_)
  · exact absurd hn2 h10
  · refine xr_aload_n (n := 14) dX5_add_13 rfl rfl ?_
    refine xr_get (n := 17) dX5_add_14 fl_X5_9 (by first | exact xat_0 (xput_at _ _ _) | exact xat_r (xput_at _ _ _) (by decide) | exact xat_0 hX | exact xat_r hX (by decide)) (by rfl) rfl ?_
    refine xr_aload_n (n := 18) dX5_add_17 rfl rfl ?_
    refine xr_get (n := 21) dX5_add_18 fl_X5_15 (by first | exact xat_0 (xput_at _ _ _) | exact xat_r (xput_at _ _ _) (by decide) | exact xat_0 hX | exact xat_r hX (by decide)) (by rfl) rfl ?_
    (first | (simp (disch := omega) only [nI_clamp, pk_mul, nI_add, oi1, up2_ss, up2_n, up2_sn, ur_s, ur_n, Nat.reduceMul, Nat.reduceAdd, Nat.add_zero, hn]) | skip)
    refine xr_iload_n (n := 22) dX5_add_21 rfl rfl ?_
    refine xq_castore (n := 23) dX5_add_22 (by first | exact xat_0 (xput_at _ _ _) | exact xat_r (xput_at _ _ _) (by decide) | exact xat_0 hX | exact xat_r hX (by decide)) (by first | exact vp_in_nI (by omega) (by omega)) (hc) rfl ?_
    simp (disch := omega) only [nI_clamp, List.set, xw_0, xw_1]
    refine xr_aload_n (n := 24) dX5_add_23 rfl rfl ?_
    refine xr_dup (n := 25) dX5_add_24 rfl rfl ?_
    refine xr_get (n := 28) dX5_add_25 fl_X5_15 (by first | exact xat_0 (xput_at _ _ _) | exact xat_r (xput_at _ _ _) (by decide) | exact xat_0 hX | exact xat_r hX (by decide)) (by rfl) rfl ?_
    (first | (simp (disch := omega) only [nI_clamp, pk_mul, nI_add, oi1, up2_ss, up2_n, up2_sn, ur_s, ur_n, Nat.reduceMul, Nat.reduceAdd, Nat.add_zero, hn]) | skip)
    refine xr_iconst (v := nI 1) (n := 29) dX5_add_28 (by decide) rfl ?_
    refine xr_iadd (n := 30) dX5_add_29 rfl ?_
    (first | (simp (disch := omega) only [nI_clamp, pk_mul, nI_add, oi1, up2_ss, up2_n, up2_sn, ur_s, ur_n, Nat.reduceMul, Nat.reduceAdd, Nat.add_zero, hn]) | skip)
    refine xq_put (n := 33) dX5_add_30 fl_X5_15 rfl (by first | exact xat_0 (xput_at _ _ _) | exact xat_r (xput_at _ _ _) (by decide) | exact xat_0 hX | exact xat_r hX (by decide)) (by rfl) (by rfl) (by rfl) rfl ?_
    simp (disch := omega) only [nI_clamp, List.set, xw_0, xw_1]
    refine xr_return dX5_add_33 rfl rfl ?_
    first | exact hq | (rw [b2i_t (by ((try simp (disch := omega) only [i_lt, i_le, i_eq, nt, i_m1, Int32.toInt_zero] at *); omega))] at hq; exact hq) | (rw [b2i_f (by ((try simp (disch := omega) only [i_lt, i_le, i_eq, nt, i_m1, Int32.toInt_zero] at *); omega))] at hq; exact hq)

theorem s_X5_signAt {G : xG} {d : Nat} {f : Nat → xC} {r : Nat × Nat} {Q : Option Value → xM → Prop} {a n : Nat} {χ : xS} {k : Nat} (hX : xat f a χ) (hn : χ 1 0 = nI n) (hn2 : n ≤ 120) (hk : k ≤ 200) (hq : Q (some (.int (ch (χ 0) n k))) (f, r)) : xMet G (d + 1) mX5_signAt [.ref a, .int (nI k)] (f, r) r Q := by
  refine xMet_0 (by decide +kernel) rfl (Nat.le_of_ble_eq_true rfl) ?_
  show xX G (d + 1) mX5_signAt r r (xΦ G r r Q) 0 [(0, .ref a), (1, .int (nI k))] [] (f, r)
  refine xr_iload_n (n := 1) dX5_signAt_0 rfl rfl ?_
  refine xr_iconst (v := nI 0) (n := 2) dX5_signAt_1 (by decide) rfl ?_
  refine xr_aload_n (n := 3) dX5_signAt_2 rfl rfl ?_
  refine xr_get (n := 6) dX5_signAt_3 fl_X5_15 (by first | exact xat_0 (xput_at _ _ _) | exact xat_r (xput_at _ _ _) (by decide) | exact xat_0 hX | exact xat_r hX (by decide)) (by rfl) rfl ?_
  refine xr_bipush (v := nI 120) (n := 8) dX5_signAt_6 (by decide) rfl ?_
  refine xr_mmin (n := 11) dX5_signAt_8 km_X5_23 (by simp [Value.category]) rfl ?_
  rw [hn]
  first | rw [i_m120 hn2] | rw [i_m120b hn2]
  refine xr_iconst (v := nI 1) (n := 12) dX5_signAt_11 (by decide) rfl ?_
  refine xr_isub (n := 13) dX5_signAt_12 rfl ?_
  refine xr_callS (y2 := mX7_isWithin) (As := [_, _, _]) (n := 16) dX5_signAt_13 lm_X5_19 pm_X7_isWithin kp_static_yX7_isWithin rfl rfl (by simp [Value.category]) rfl ⟨Nat.le_refl _, Nat.le_refl _⟩ ?_
  refine s_X7_isWithin ?_
  dsimp only [xK, xps]
  rw [b2i_iff (w_n1 hn2 hk)]
  refine xr_beq (tgt := 28) (n := 19) dX5_signAt_16 (by decide) rfl (fun h16 => ?_) (fun h16 => ?_)
  · refine xr_iconst (v := nI 0) (n := 29) dX5_signAt_28 (by decide) rfl ?_
    refine xr_ireturn dX5_signAt_29 rfl rfl rfl ?_
    refine qi hq ?_
    unfold ch
    first | rw [if_pos h16] | rw [if_neg h16]
  · refine xr_aload_n (n := 20) dX5_signAt_19 rfl rfl ?_
    refine xr_get (n := 23) dX5_signAt_20 fl_X5_9 (by first | exact xat_0 (xput_at _ _ _) | exact xat_r (xput_at _ _ _) (by decide) | exact xat_0 hX | exact xat_r hX (by decide)) (by rfl) rfl ?_
    refine xr_iload_n (n := 24) dX5_signAt_23 rfl rfl ?_
    refine xr_caload (n := 25) dX5_signAt_24 (by first | exact xat_0 (xput_at _ _ _) | exact xat_r (xput_at _ _ _) (by decide) | exact xat_0 hX | exact xat_r hX (by decide)) (by first | exact vp_in_nI (by omega) (by omega)) rfl ?_
    (first | (simp (disch := omega) only [nI_clamp, pk_mul, nI_add, oi1, up2_ss, up2_n, up2_sn, ur_s, ur_n, Nat.reduceMul, Nat.reduceAdd, Nat.add_zero]) | skip)
    refine xr_goto (n := 29) dX5_signAt_25 (by decide) ?_
    refine xr_ireturn dX5_signAt_29 rfl rfl rfl ?_
    refine qi hq ?_
    unfold ch
    first | rw [if_pos h16] | rw [if_neg h16]

theorem s_X3_nextSign {G : xG} {d : Nat} {f : Nat → xC} {r : Nat × Nat} {Q : Option Value → xM → Prop} {q x e n a : Nat} {χ ρ : xS} (hX : xat f x χ) (hd : x + 2 ≤ q ∨ q + 3 ≤ x) (hn : χ 1 0 = nI n) (hn2 : n ≤ 120) (hp : ρ 3 0 = nI a) (ha : a ≤ n) (hq : Q (some (.int (hr (χ 0) n a))) (qput f q x e (up2 ρ 3 0 (nI (skp (χ 0) n a))), r)) : xMet G (d + 2) mX3_nextSign [.ref q] (qput f q x e ρ, r) r Q := by
  refine xMet_0 (by decide +kernel) rfl (Nat.le_of_ble_eq_true rfl) ?_
  show xX G (d + 2) mX3_nextSign r r (xΦ G r r Q) 0 [(0, .ref q)] [] (qput f q x e ρ, r)
  refine xr_iconst (v := nI 0) (n := 1) dX3_nextSign_0 (by decide) rfl ?_
  refine xq_istore_n 1 (n := 2) dX3_nextSign_1 rfl rfl rfl ?_
  simp only [xst, Nat.beq, List.filter, Bool.not_true, Bool.not_false]
  have key : ∀ k, k ≤ 120 → a + k ≤ n → skp (χ 0) n a = skp (χ 0) n (a + k) → xX G (d + 2) mX3_nextSign r r (xΦ G r r Q) 2 [(0, .ref q), (1, .int (nI k))] [] (qput f q x e (up2 ρ 3 0 (nI (a + k))), r) := by
    refine nat_down (P := fun k => a + k ≤ n → skp (χ 0) n a = skp (χ 0) n (a + k) → xX G (d + 2) mX3_nextSign r r (xΦ G r r Q) 2 [(0, .ref q), (1, .int (nI k))] [] (qput f q x e (up2 ρ 3 0 (nI (a + k))), r)) (N := 120) ?_ ?_
    · intro hle hsk
      refine xr_iload_n (n := 3) dX3_nextSign_2 rfl rfl ?_
      refine xr_bipush (v := nI 120) (n := 5) dX3_nextSign_3 (by decide) rfl ?_
      refine xr_icmp_ge (tgt := 40) (n := 8) dX3_nextSign_5 (by decide) rfl (fun h5 => ?_) (fun h5 => by (exfalso; ((try simp (disch := omega) only [i_lt, i_le, i_eq, nt, i_m1, Int32.toInt_zero] at *); omega)))
      refine xr_aload_n (n := 41) dX3_nextSign_40 rfl rfl ?_
      refine xr_get (n := 44) dX3_nextSign_41 fl_X3_18 (by first | exact qat_0 (qput_at _ _ _ _ _) | exact qat_r (qput_at _ _ _ _ _) (by decide) | exact xat_0 (bat_out hX hd)) (by rfl) rfl ?_
      refine xr_aload_n (n := 45) dX3_nextSign_44 rfl rfl ?_
      refine xr_get (n := 48) dX3_nextSign_45 fl_X3_35 (by first | exact qat_0 (qput_at _ _ _ _ _) | exact qat_r (qput_at _ _ _ _ _) (by decide) | exact xat_0 (bat_out hX hd)) (by rfl) rfl ?_
      (first | (simp (disch := omega) only [nI_clamp, pk_mul, nI_add, oi1, up2_ss, up2_n, up2_sn, ur_s, ur_n, Nat.reduceMul, Nat.reduceAdd, Nat.add_zero]) | skip)
      refine xr_callV (y2 := mX5_signAt) (As := [_]) (n := 51) dX3_nextSign_48 lm_X3_102 pm_X5_signAt pi_X5_signAt (by first | exact qat_0 (qput_at _ _ _ _ _) | exact qat_r (qput_at _ _ _ _ _) (by decide) | exact xat_0 (bat_out hX hd)) rfl rfl rfl (by simp [Value.category]) rfl ⟨Nat.le_refl _, Nat.le_refl _⟩ ?_
      refine s_X5_signAt (bat_out hX hd) hn hn2 (by omega) ?_
      dsimp only [xK, xps]
      refine xr_ireturn dX3_nextSign_51 rfl rfl rfl ?_
      have hnk : skp (χ 0) n (a + 120) = a + 120 := by rw [skp_eq, if_neg (fun z => by omega)]
      rw [hsk, hnk] at hq
      unfold hr at hq
      rw [hsk, hnk] at hq
      exact hq
    · intro k hk ih hle hsk
      refine xr_iload_n (n := 3) dX3_nextSign_2 rfl rfl ?_
      refine xr_bipush (v := nI 120) (n := 5) dX3_nextSign_3 (by decide) rfl ?_
      refine xr_icmp_ge (tgt := 40) (n := 8) dX3_nextSign_5 (by decide) rfl (fun h5 => by (exfalso; ((try simp (disch := omega) only [i_lt, i_le, i_eq, nt, i_m1, Int32.toInt_zero] at *); omega))) (fun h5 => ?_)
      refine xr_aload_n (n := 9) dX3_nextSign_8 rfl rfl ?_
      refine xr_get (n := 12) dX3_nextSign_9 fl_X3_18 (by first | exact qat_0 (qput_at _ _ _ _ _) | exact qat_r (qput_at _ _ _ _ _) (by decide) | exact xat_0 (bat_out hX hd)) (by rfl) rfl ?_
      refine xr_aload_n (n := 13) dX3_nextSign_12 rfl rfl ?_
      refine xr_get (n := 16) dX3_nextSign_13 fl_X3_35 (by first | exact qat_0 (qput_at _ _ _ _ _) | exact qat_r (qput_at _ _ _ _ _) (by decide) | exact xat_0 (bat_out hX hd)) (by rfl) rfl ?_
      (first | (simp (disch := omega) only [nI_clamp, pk_mul, nI_add, oi1, up2_ss, up2_n, up2_sn, ur_s, ur_n, Nat.reduceMul, Nat.reduceAdd, Nat.add_zero]) | skip)
      refine xr_callV (y2 := mX5_signAt) (As := [_]) (n := 19) dX3_nextSign_16 lm_X3_102 pm_X5_signAt pi_X5_signAt (by first | exact qat_0 (qput_at _ _ _ _ _) | exact qat_r (qput_at _ _ _ _ _) (by decide) | exact xat_0 (bat_out hX hd)) rfl rfl rfl (by simp [Value.category]) rfl ⟨Nat.le_refl _, Nat.le_refl _⟩ ?_
      refine s_X5_signAt (bat_out hX hd) hn hn2 (by omega) ?_
      dsimp only [xK, xps]
      refine xr_bipush (v := nI 32) (n := 21) dX3_nextSign_19 (by decide) rfl ?_
      refine xr_icmp_ne (tgt := 40) (n := 24) dX3_nextSign_21 (by decide) rfl (fun h21 => ?_) (fun h21 => ?_)
      · have h32 : ¬ ch (χ 0) n (a + k) = nI 32 := by first | exact h21 | exact fun z => h21 z
        refine xr_aload_n (n := 41) dX3_nextSign_40 rfl rfl ?_
        refine xr_get (n := 44) dX3_nextSign_41 fl_X3_18 (by first | exact qat_0 (qput_at _ _ _ _ _) | exact qat_r (qput_at _ _ _ _ _) (by decide) | exact xat_0 (bat_out hX hd)) (by rfl) rfl ?_
        refine xr_aload_n (n := 45) dX3_nextSign_44 rfl rfl ?_
        refine xr_get (n := 48) dX3_nextSign_45 fl_X3_35 (by first | exact qat_0 (qput_at _ _ _ _ _) | exact qat_r (qput_at _ _ _ _ _) (by decide) | exact xat_0 (bat_out hX hd)) (by rfl) rfl ?_
        (first | (simp (disch := omega) only [nI_clamp, pk_mul, nI_add, oi1, up2_ss, up2_n, up2_sn, ur_s, ur_n, Nat.reduceMul, Nat.reduceAdd, Nat.add_zero]) | skip)
        refine xr_callV (y2 := mX5_signAt) (As := [_]) (n := 51) dX3_nextSign_48 lm_X3_102 pm_X5_signAt pi_X5_signAt (by first | exact qat_0 (qput_at _ _ _ _ _) | exact qat_r (qput_at _ _ _ _ _) (by decide) | exact xat_0 (bat_out hX hd)) rfl rfl rfl (by simp [Value.category]) rfl ⟨Nat.le_refl _, Nat.le_refl _⟩ ?_
        refine s_X5_signAt (bat_out hX hd) hn hn2 (by omega) ?_
        dsimp only [xK, xps]
        refine xr_ireturn dX3_nextSign_51 rfl rfl rfl ?_
        have hnk : skp (χ 0) n (a + k) = a + k := by rw [skp_eq, if_neg (fun z => h32 (by unfold ch; rw [if_pos z.1]; exact z.2))]
        rw [hsk, hnk] at hq
        unfold hr at hq
        rw [hsk, hnk] at hq
        exact hq
      · have h32 : ch (χ 0) n (a + k) = nI 32 := by first | exact h21 | exact Decidable.not_not.mp h21
        have hlt : a + k < n := ch_lt (by rw [h32]; exact nz 32 (by omega) (by omega))
        have ht32 : χ 0 (a + k) = nI 32 := by unfold ch at h32; rw [if_pos hlt] at h32; exact h32
        refine xr_aload_n (n := 25) dX3_nextSign_24 rfl rfl ?_
        refine xr_dup (n := 26) dX3_nextSign_25 rfl rfl ?_
        refine xr_get (n := 29) dX3_nextSign_26 fl_X3_35 (by first | exact qat_0 (qput_at _ _ _ _ _) | exact qat_r (qput_at _ _ _ _ _) (by decide) | exact xat_0 (bat_out hX hd)) (by rfl) rfl ?_
        (first | (simp (disch := omega) only [nI_clamp, pk_mul, nI_add, oi1, up2_ss, up2_n, up2_sn, ur_s, ur_n, Nat.reduceMul, Nat.reduceAdd, Nat.add_zero]) | skip)
        refine xr_iconst (v := nI 1) (n := 30) dX3_nextSign_29 (by decide) rfl ?_
        refine xr_iadd (n := 31) dX3_nextSign_30 rfl ?_
        (first | (simp (disch := omega) only [nI_clamp, pk_mul, nI_add, oi1, up2_ss, up2_n, up2_sn, ur_s, ur_n, Nat.reduceMul, Nat.reduceAdd, Nat.add_zero]) | skip)
        refine xq_put (n := 34) dX3_nextSign_31 fl_X3_35 rfl (by first | exact qat_0 (qput_at _ _ _ _ _) | exact qat_r (qput_at _ _ _ _ _) (by decide) | exact xat_0 (bat_out hX hd)) (by rfl) (by rfl) (by rfl) rfl ?_
        simp (disch := omega) only [nI_clamp, List.set, qw_0, qw_1, qw_2, qw_3]
        refine xr_iinc (n := 37) dX3_nextSign_34 rfl rfl (rfl) rfl ?_
        simp only [xst, Nat.beq, List.filter, Bool.not_true, Bool.not_false]
        (first | (simp (disch := omega) only [nI_clamp, pk_mul, nI_add, oi1, up2_ss, up2_n, up2_sn, ur_s, ur_n, Nat.reduceMul, Nat.reduceAdd, Nat.add_zero]) | skip)
        refine xr_goto (n := 2) dX3_nextSign_37 (by decide) ?_
        rw [up2_up2]
        exact ih (by omega) (hsk.trans (by rw [skp_eq, if_pos ⟨hlt, ht32⟩, Nat.add_assoc]))
  have k0 := key 0 (by omega) (by omega) rfl
  rw [show a + 0 = a from rfl, up2_id hp] at k0
  exact k0

theorem s_X3_take {G : xG} {d : Nat} {f : Nat → xC} {r : Nat × Nat} {Q : Option Value → xM → Prop} {q x e n a : Nat} {χ ρ : xS} {c : Int32} (hX : xat f x χ) (hd : x + 2 ≤ q ∨ q + 3 ≤ x) (hn : χ 1 0 = nI n) (hn2 : n ≤ 120) (hp : ρ 3 0 = nI a) (ha : a ≤ n) (hc : ¬ c = nI 0) (hq : Q (some (.int (b2i (hr (χ 0) n a = c)))) (qput f q x e (up2 ρ 3 0 (nI (pas (χ 0) n a c))), r)) : xMet G (d + 3) mX3_take [.ref q, .int c] (qput f q x e ρ, r) r Q := by
  refine xMet_0 (by decide +kernel) rfl (Nat.le_of_ble_eq_true rfl) ?_
  show xX G (d + 3) mX3_take r r (xΦ G r r Q) 0 [(0, .ref q), (1, .int c)] [] (qput f q x e ρ, r)
  refine xr_aload_n (n := 1) dX3_take_0 rfl rfl ?_
  refine xr_callV (y2 := mX3_nextSign) (As := []) (n := 4) dX3_take_1 lm_X3_38 pm_X3_nextSign pi_X3_nextSign (by first | exact qat_0 (qput_at _ _ _ _ _) | exact qat_r (qput_at _ _ _ _ _) (by decide) | exact xat_0 (bat_out hX hd)) rfl rfl rfl (by simp [Value.category]) rfl ⟨Nat.le_refl _, Nat.le_refl _⟩ ?_
  refine s_X3_nextSign hX hd hn hn2 hp ha ?_
  dsimp only [xK, xps]
  refine xr_iload_n (n := 5) dX3_take_4 rfl rfl ?_
  refine xr_icmp_eq (tgt := 10) (n := 8) dX3_take_5 (by decide) rfl (fun h5 => ?_) (fun h5 => ?_)
  · refine xr_aload_n (n := 11) dX3_take_10 rfl rfl ?_
    refine xr_dup (n := 12) dX3_take_11 rfl rfl ?_
    refine xr_get (n := 15) dX3_take_12 fl_X3_35 (by first | exact qat_0 (qput_at _ _ _ _ _) | exact qat_r (qput_at _ _ _ _ _) (by decide) | exact xat_0 (bat_out hX hd)) (by rfl) rfl ?_
    (first | (simp (disch := omega) only [nI_clamp, pk_mul, nI_add, oi1, up2_ss, up2_n, up2_sn, ur_s, ur_n, Nat.reduceMul, Nat.reduceAdd, Nat.add_zero]) | skip)
    refine xr_iconst (v := nI 1) (n := 16) dX3_take_15 (by decide) rfl ?_
    refine xr_iadd (n := 17) dX3_take_16 rfl ?_
    (first | (simp (disch := omega) only [nI_clamp, pk_mul, nI_add, oi1, up2_ss, up2_n, up2_sn, ur_s, ur_n, Nat.reduceMul, Nat.reduceAdd, Nat.add_zero]) | skip)
    refine xq_put (n := 20) dX3_take_17 fl_X3_35 rfl (by first | exact qat_0 (qput_at _ _ _ _ _) | exact qat_r (qput_at _ _ _ _ _) (by decide) | exact xat_0 (bat_out hX hd)) (by rfl) (by rfl) (by rfl) rfl ?_
    simp (disch := omega) only [nI_clamp, List.set, qw_0, qw_1, qw_2, qw_3]
    refine xr_iconst (v := nI 1) (n := 21) dX3_take_20 (by decide) rfl ?_
    refine xr_ireturn dX3_take_21 rfl (by first | exact b2i_nar | exact nar_1 | exact nar_0) rfl ?_
    try rw [up2_up2]
    first | (have hh : hr (χ 0) n a = c := (by first | exact h5 | exact Decidable.not_not.mp h5); rw [pas_t hh, b2i_t hh] at hq; exact hq) | (have hh : ¬ hr (χ 0) n a = c := (by first | exact h5 | exact fun z => h5 z); rw [pas_f hh, b2i_f hh] at hq; exact hq)
  · refine xr_iconst (v := nI 0) (n := 9) dX3_take_8 (by decide) rfl ?_
    refine xr_ireturn dX3_take_9 rfl (by first | exact b2i_nar | exact nar_1 | exact nar_0) rfl ?_
    try rw [up2_up2]
    first | (have hh : hr (χ 0) n a = c := (by first | exact h5 | exact Decidable.not_not.mp h5); rw [pas_t hh, b2i_t hh] at hq; exact hq) | (have hh : ¬ hr (χ 0) n a = c := (by first | exact h5 | exact fun z => h5 z); rw [pas_f hh, b2i_f hh] at hq; exact hq)

theorem isL_c {c : Int32} (h : 0 ≤ c.toInt) : (0 ≤ (c - nI 97).toInt ∧ (c - nI 97).toInt ≤ 5) ↔ isL c := by
  have e := nt 97 (by omega)
  have hb := i_rng c
  rw [i_sub (by omega) (by omega), e]
  unfold isL
  omega
theorem s_X3_takeCell {G : xG} {d : Nat} {f : Nat → xC} {r : Nat × Nat} {Q : Option Value → xM → Prop} {q x e n a : Nat} {χ ρ : xS} (hX : xat f x χ) (hd : x + 2 ≤ q ∨ q + 3 ≤ x) (hn : χ 1 0 = nI n) (hn2 : n ≤ 120) (hp : ρ 3 0 = nI a) (ha : a ≤ n) (hch : 0 ≤ (hr (χ 0) n a).toInt) (hq : Q (some (.int (if (ceF (χ 0) n a).1 = true then nI (ceF (χ 0) n a).2.2 else (-1)))) (qput f q x e (up2 ρ 3 0 (nI (ceF (χ 0) n a).2.1)), r)) : xMet G (d + 3) mX3_takeCell [.ref q] (qput f q x e ρ, r) r Q := by
  refine xMet_0 (by decide +kernel) rfl (Nat.le_of_ble_eq_true rfl) ?_
  show xX G (d + 3) mX3_takeCell r r (xΦ G r r Q) 0 [(0, .ref q)] [] (qput f q x e ρ, r)
  refine xr_aload_n (n := 1) dX3_takeCell_0 rfl rfl ?_
  refine xr_callV (y2 := mX3_nextSign) (As := []) (n := 4) dX3_takeCell_1 lm_X3_38 pm_X3_nextSign pi_X3_nextSign (by first | exact qat_0 (qput_at _ _ _ _ _) | exact qat_r (qput_at _ _ _ _ _) (by decide) | exact xat_0 (bat_out hX hd)) rfl rfl rfl (by simp [Value.category]) rfl ⟨Nat.le_refl _, Nat.le_refl _⟩ ?_
  refine s_X3_nextSign hX hd hn hn2 hp ha ?_
  dsimp only [xK, xps]
  refine xr_bipush (v := nI 97) (n := 6) dX3_takeCell_4 (by decide) rfl ?_
  refine xr_isub (n := 7) dX3_takeCell_6 rfl ?_
  refine xq_istore_n 1 (n := 8) dX3_takeCell_7 rfl rfl rfl ?_
  simp only [xst, Nat.beq, List.filter, Bool.not_true, Bool.not_false]
  refine xr_iload_n (n := 9) dX3_takeCell_8 rfl rfl ?_
  refine xr_callS (y2 := mX7_isCell) (As := [_]) (n := 12) dX3_takeCell_9 lm_X3_108 pm_X7_isCell kp_static_yX7_isCell rfl rfl (by simp [Value.category]) rfl ⟨Nat.le_refl _, Nat.le_refl _⟩ ?_
  refine s_X7_isCell ?_
  dsimp only [xK, xps]
  rw [b2i_iff (isL_c hch)]
  refine xr_bne (tgt := 17) (n := 15) dX3_takeCell_12 (by decide) rfl (fun h12 => ?_) (fun h12 => ?_)
  · refine xr_aload_n (n := 18) dX3_takeCell_17 rfl rfl ?_
    refine xr_dup (n := 19) dX3_takeCell_18 rfl rfl ?_
    refine xr_get (n := 22) dX3_takeCell_19 fl_X3_35 (by first | exact qat_0 (qput_at _ _ _ _ _) | exact qat_r (qput_at _ _ _ _ _) (by decide) | exact xat_0 (bat_out hX hd)) (by rfl) rfl ?_
    (first | (simp (disch := omega) only [nI_clamp, pk_mul, nI_add, oi1, up2_ss, up2_n, up2_sn, ur_s, ur_n, Nat.reduceMul, Nat.reduceAdd, Nat.add_zero]) | skip)
    refine xr_iconst (v := nI 1) (n := 23) dX3_takeCell_22 (by decide) rfl ?_
    refine xr_iadd (n := 24) dX3_takeCell_23 rfl ?_
    (first | (simp (disch := omega) only [nI_clamp, pk_mul, nI_add, oi1, up2_ss, up2_n, up2_sn, ur_s, ur_n, Nat.reduceMul, Nat.reduceAdd, Nat.add_zero]) | skip)
    refine xq_put (n := 27) dX3_takeCell_24 fl_X3_35 rfl (by first | exact qat_0 (qput_at _ _ _ _ _) | exact qat_r (qput_at _ _ _ _ _) (by decide) | exact xat_0 (bat_out hX hd)) (by rfl) (by rfl) (by rfl) rfl ?_
    simp (disch := omega) only [nI_clamp, List.set, qw_0, qw_1, qw_2, qw_3]
    refine xr_iload_n (n := 28) dX3_takeCell_27 rfl rfl ?_
    refine xr_ireturn dX3_takeCell_28 rfl rfl rfl ?_
    have hF : ceF (χ 0) n a = (true, skp (χ 0) n a + 1, ix (hr (χ 0) n a) - 97) := if_pos h12
    rw [hF] at hq
    rw [up2_up2, ix_sub (k := 97) h12.1]
    exact hq
  · refine xr_iconst (v := (-1)) (n := 16) dX3_takeCell_15 (by decide) rfl ?_
    refine xr_ireturn dX3_takeCell_16 rfl rfl rfl ?_
    have hF : ceF (χ 0) n a = (false, skp (χ 0) n a, 0) := if_neg h12
    rw [hF] at hq
    exact hq

theorem s_X3_takeOperator {G : xG} {d : Nat} {f : Nat → xC} {r : Nat × Nat} {Q : Option Value → xM → Prop} {q x e n a : Nat} {χ ρ : xS} (hX : xat f x χ) (hd : x + 2 ≤ q ∨ q + 3 ≤ x) (hn : χ 1 0 = nI n) (hn2 : n ≤ 120) (hp : ρ 3 0 = nI a) (ha : a ≤ n) (hq : Q (some (.int (if opc (hr (χ 0) n a) then hr (χ 0) n a else nI 0))) (qput f q x e (up2 ρ 3 0 (nI (if opc (hr (χ 0) n a) then skp (χ 0) n a + 1 else skp (χ 0) n a))), r)) : xMet G (d + 3) mX3_takeOperator [.ref q] (qput f q x e ρ, r) r Q := by
  refine xMet_0 (by decide +kernel) rfl (Nat.le_of_ble_eq_true rfl) ?_
  show xX G (d + 3) mX3_takeOperator r r (xΦ G r r Q) 0 [(0, .ref q)] [] (qput f q x e ρ, r)
  refine xr_aload_n (n := 1) dX3_takeOperator_0 rfl rfl ?_
  refine xr_callV (y2 := mX3_nextSign) (As := []) (n := 4) dX3_takeOperator_1 lm_X3_38 pm_X3_nextSign pi_X3_nextSign (by first | exact qat_0 (qput_at _ _ _ _ _) | exact qat_r (qput_at _ _ _ _ _) (by decide) | exact xat_0 (bat_out hX hd)) rfl rfl rfl (by simp [Value.category]) rfl ⟨Nat.le_refl _, Nat.le_refl _⟩ ?_
  refine s_X3_nextSign hX hd hn hn2 hp ha ?_
  dsimp only [xK, xps]
  refine xq_istore_n 1 (n := 5) dX3_takeOperator_4 rfl rfl rfl ?_
  simp only [xst, Nat.beq, List.filter, Bool.not_true, Bool.not_false]
  refine xr_iload_n (n := 6) dX3_takeOperator_5 rfl rfl ?_
  refine xr_bipush (v := nI 43) (n := 8) dX3_takeOperator_6 (by decide) rfl ?_
  refine xr_icmp_eq (tgt := 25) (n := 11) dX3_takeOperator_8 (by decide) rfl (fun h8 => ?_) (fun h8 => ?_)
  · refine xr_aload_n (n := 26) dX3_takeOperator_25 rfl rfl ?_
    refine xr_dup (n := 27) dX3_takeOperator_26 rfl rfl ?_
    refine xr_get (n := 30) dX3_takeOperator_27 fl_X3_35 (by first | exact qat_0 (qput_at _ _ _ _ _) | exact qat_r (qput_at _ _ _ _ _) (by decide) | exact xat_0 (bat_out hX hd)) (by rfl) rfl ?_
    (first | (simp (disch := omega) only [nI_clamp, pk_mul, nI_add, oi1, up2_ss, up2_n, up2_sn, ur_s, ur_n, Nat.reduceMul, Nat.reduceAdd, Nat.add_zero]) | skip)
    refine xr_iconst (v := nI 1) (n := 31) dX3_takeOperator_30 (by decide) rfl ?_
    refine xr_iadd (n := 32) dX3_takeOperator_31 rfl ?_
    (first | (simp (disch := omega) only [nI_clamp, pk_mul, nI_add, oi1, up2_ss, up2_n, up2_sn, ur_s, ur_n, Nat.reduceMul, Nat.reduceAdd, Nat.add_zero]) | skip)
    refine xq_put (n := 35) dX3_takeOperator_32 fl_X3_35 rfl (by first | exact qat_0 (qput_at _ _ _ _ _) | exact qat_r (qput_at _ _ _ _ _) (by decide) | exact xat_0 (bat_out hX hd)) (by rfl) (by rfl) (by rfl) rfl ?_
    simp (disch := omega) only [nI_clamp, List.set, qw_0, qw_1, qw_2, qw_3]
    refine xr_iload_n (n := 36) dX3_takeOperator_35 rfl rfl ?_
    refine xr_ireturn dX3_takeOperator_36 rfl rfl rfl ?_
    have ho : opc (hr (χ 0) n a) := Or.inl h8
    rw [if_pos ho, if_pos ho] at hq
    rw [up2_up2]
    exact hq
  · refine xr_iload_n (n := 12) dX3_takeOperator_11 rfl rfl ?_
    refine xr_bipush (v := nI 45) (n := 14) dX3_takeOperator_12 (by decide) rfl ?_
    refine xr_icmp_eq (tgt := 25) (n := 17) dX3_takeOperator_14 (by decide) rfl (fun h14 => ?_) (fun h14 => ?_)
    · refine xr_aload_n (n := 26) dX3_takeOperator_25 rfl rfl ?_
      refine xr_dup (n := 27) dX3_takeOperator_26 rfl rfl ?_
      refine xr_get (n := 30) dX3_takeOperator_27 fl_X3_35 (by first | exact qat_0 (qput_at _ _ _ _ _) | exact qat_r (qput_at _ _ _ _ _) (by decide) | exact xat_0 (bat_out hX hd)) (by rfl) rfl ?_
      (first | (simp (disch := omega) only [nI_clamp, pk_mul, nI_add, oi1, up2_ss, up2_n, up2_sn, ur_s, ur_n, Nat.reduceMul, Nat.reduceAdd, Nat.add_zero]) | skip)
      refine xr_iconst (v := nI 1) (n := 31) dX3_takeOperator_30 (by decide) rfl ?_
      refine xr_iadd (n := 32) dX3_takeOperator_31 rfl ?_
      (first | (simp (disch := omega) only [nI_clamp, pk_mul, nI_add, oi1, up2_ss, up2_n, up2_sn, ur_s, ur_n, Nat.reduceMul, Nat.reduceAdd, Nat.add_zero]) | skip)
      refine xq_put (n := 35) dX3_takeOperator_32 fl_X3_35 rfl (by first | exact qat_0 (qput_at _ _ _ _ _) | exact qat_r (qput_at _ _ _ _ _) (by decide) | exact xat_0 (bat_out hX hd)) (by rfl) (by rfl) (by rfl) rfl ?_
      simp (disch := omega) only [nI_clamp, List.set, qw_0, qw_1, qw_2, qw_3]
      refine xr_iload_n (n := 36) dX3_takeOperator_35 rfl rfl ?_
      refine xr_ireturn dX3_takeOperator_36 rfl rfl rfl ?_
      have ho : opc (hr (χ 0) n a) := Or.inr (Or.inl h14)
      rw [if_pos ho, if_pos ho] at hq
      rw [up2_up2]
      exact hq
    · refine xr_iload_n (n := 18) dX3_takeOperator_17 rfl rfl ?_
      refine xr_bipush (v := nI 42) (n := 20) dX3_takeOperator_18 (by decide) rfl ?_
      refine xr_icmp_eq (tgt := 25) (n := 23) dX3_takeOperator_20 (by decide) rfl (fun h20 => ?_) (fun h20 => ?_)
      · refine xr_aload_n (n := 26) dX3_takeOperator_25 rfl rfl ?_
        refine xr_dup (n := 27) dX3_takeOperator_26 rfl rfl ?_
        refine xr_get (n := 30) dX3_takeOperator_27 fl_X3_35 (by first | exact qat_0 (qput_at _ _ _ _ _) | exact qat_r (qput_at _ _ _ _ _) (by decide) | exact xat_0 (bat_out hX hd)) (by rfl) rfl ?_
        (first | (simp (disch := omega) only [nI_clamp, pk_mul, nI_add, oi1, up2_ss, up2_n, up2_sn, ur_s, ur_n, Nat.reduceMul, Nat.reduceAdd, Nat.add_zero]) | skip)
        refine xr_iconst (v := nI 1) (n := 31) dX3_takeOperator_30 (by decide) rfl ?_
        refine xr_iadd (n := 32) dX3_takeOperator_31 rfl ?_
        (first | (simp (disch := omega) only [nI_clamp, pk_mul, nI_add, oi1, up2_ss, up2_n, up2_sn, ur_s, ur_n, Nat.reduceMul, Nat.reduceAdd, Nat.add_zero]) | skip)
        refine xq_put (n := 35) dX3_takeOperator_32 fl_X3_35 rfl (by first | exact qat_0 (qput_at _ _ _ _ _) | exact qat_r (qput_at _ _ _ _ _) (by decide) | exact xat_0 (bat_out hX hd)) (by rfl) (by rfl) (by rfl) rfl ?_
        simp (disch := omega) only [nI_clamp, List.set, qw_0, qw_1, qw_2, qw_3]
        refine xr_iload_n (n := 36) dX3_takeOperator_35 rfl rfl ?_
        refine xr_ireturn dX3_takeOperator_36 rfl rfl rfl ?_
        have ho : opc (hr (χ 0) n a) := Or.inr (Or.inr h20)
        rw [if_pos ho, if_pos ho] at hq
        rw [up2_up2]
        exact hq
      · refine xr_iconst (v := nI 0) (n := 24) dX3_takeOperator_23 (by decide) rfl ?_
        refine xr_ireturn dX3_takeOperator_24 rfl rfl rfl ?_
        have ho : ¬ opc (hr (χ 0) n a) := fun z => z.elim h8 (fun z => z.elim h14 h20)
        rw [if_neg ho, if_neg ho] at hq
        exact hq
