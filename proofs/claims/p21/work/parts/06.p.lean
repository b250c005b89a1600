/-! the class: a term -/
theorem skp_idem (t : Nat → Int32) (n a : Nat) : skp t n (skp t n a) = skp t n a := by
  rw [skp_eq, if_neg (skp_no t n _ a rfl)]
theorem hr_idem (t : Nat → Int32) (n a : Nat) : hr t n (skp t n a) = hr t n a := by
  unfold hr
  rw [skp_idem]
theorem s_X3_takeTerm {G : xG} {d : Nat} {f : Nat → xC} {r : Nat × Nat} {Q : Option Value → xM → Prop} {q x e n a : Nat} {χ ρ : xS} (hX : xat f x χ) (hd : x + 2 ≤ q ∨ q + 3 ≤ x) (hn : χ 1 0 = nI n) (hn2 : n ≤ 120) (hp : ρ 3 0 = nI a) (ha : a ≤ n) (hch : ∀ i, i < n → 0 ≤ (χ 0 i).toInt) (hq : Q (some (.int (if (teF (χ 0) n a).1 = true then nI (tmv (teF (χ 0) n a).2.2) else (-1)))) (qput f q x e (up2 ρ 3 0 (nI (teF (χ 0) n a).2.1)), r)) : xMet G (d + 4) mX3_takeTerm [.ref q] (qput f q x e ρ, r) r Q := by
  refine xMet_0 (by decide +kernel) rfl (Nat.le_of_ble_eq_true rfl) ?_
  show xX G (d + 4) mX3_takeTerm r r (xΦ G r r Q) 0 [(0, .ref q)] [] (qput f q x e ρ, r)
  have hsk : skp (χ 0) n a ≤ n := (skp_ge (χ 0) n _ a rfl).2 ha
  have hh0 : 0 ≤ (hr (χ 0) n a).toInt := by
    unfold hr ch
    split
    · exact hch _ (by assumption)
    · rw [nt 0 (by omega)]; omega
  have hcb := ceF_b (t := χ 0) ha
  refine xr_aload_n (n := 1) dX3_takeTerm_0 rfl rfl ?_
  refine xr_callV (y2 := mX3_nextSign) (As := []) (n := 4) dX3_takeTerm_1 lm_X3_38 pm_X3_nextSign pi_X3_nextSign (by first | exact qat_0 (qput_at _ _ _ _ _) | exact qat_r (qput_at _ _ _ _ _) (by decide) | exact xat_0 (bat_out hX hd)) rfl rfl rfl (by simp [Value.category]) rfl ⟨Nat.le_refl _, Nat.le_refl _⟩ ?_
  refine s_X3_nextSign hX hd hn hn2 hp ha ?_
  dsimp only [xK, xps]
  refine xq_istore_n 1 (n := 5) dX3_takeTerm_4 rfl rfl rfl ?_
  simp only [xst, Nat.beq, List.filter, Bool.not_true, Bool.not_false]
  refine xr_iload_n (n := 6) dX3_takeTerm_5 rfl rfl ?_
  refine xr_bipush (v := nI 97) (n := 8) dX3_takeTerm_6 (by decide) rfl ?_
  refine xr_isub (n := 9) dX3_takeTerm_8 rfl ?_
  refine xr_callS (y2 := mX7_isCell) (As := [_]) (n := 12) dX3_takeTerm_9 lm_X3_108 pm_X7_isCell kp_static_yX7_isCell rfl rfl (by simp [Value.category]) rfl ⟨Nat.le_refl _, Nat.le_refl _⟩ ?_
  refine s_X7_isCell ?_
  dsimp only [xK, xps]
  rw [b2i_iff (isL_c hh0)]
  refine xr_beq (tgt := 34) (n := 15) dX3_takeTerm_12 (by decide) rfl (fun h12 => ?_) (fun h12 => ?_)
  · refine xr_iload_n (n := 35) dX3_takeTerm_34 rfl rfl ?_
    refine xr_callS (y2 := mX3_isDigit) (As := [_]) (n := 38) dX3_takeTerm_35 lm_X3_111 pm_X3_isDigit kp_static_yX3_isDigit rfl rfl (by simp [Value.category]) rfl ⟨Nat.le_refl _, Nat.le_refl _⟩ ?_
    refine s_X3_isDigit ?_
    dsimp only [xK, xps]
    rw [show ∀ z : Int32, b2i (48 ≤ z.toInt ∧ z.toInt ≤ 57) = b2i (isDg z) from fun _ => rfl]
    refine xr_beq (tgt := 48) (n := 41) dX3_takeTerm_38 (by decide) rfl (fun h38 => ?_) (fun h38 => ?_)
    · refine xr_iconst (v := (-1)) (n := 49) dX3_takeTerm_48 (by decide) rfl ?_
      refine xr_ireturn dX3_takeTerm_49 rfl rfl rfl ?_
      have hT : teF (χ 0) n a = (false, skp (χ 0) n a, 0) := (if_neg h12).trans (if_neg h38)
      rw [hT] at hq
      exact hq
    · refine xr_aload_n (n := 42) dX3_takeTerm_41 rfl rfl ?_
      refine xr_callV (y2 := mX3_takeNumber) (As := []) (n := 45) dX3_takeTerm_42 lm_X3_114 pm_X3_takeNumber pi_X3_takeNumber (by first | exact qat_0 (qput_at _ _ _ _ _) | exact qat_r (qput_at _ _ _ _ _) (by decide) | exact xat_0 (bat_out hX hd)) rfl rfl rfl (by simp [Value.category]) rfl ⟨Nat.le_refl _, Nat.le_refl _⟩ ?_
      have hdg : isDg (hr (χ 0) n a) := h38
      have hlt := hr_lt (n0_i (k := 48) hdg.1 (by omega))
      have hce : hr (χ 0) n a = χ 0 (skp (χ 0) n a) := if_pos hlt
      refine s_X3_takeNumber hX hd hn hn2 (up2_ss _ _ _ _) hsk hlt (by rw [← hce]; exact hdg) hch ?_
      rw [up2_up2]
      dsimp only [xK, xps]
      refine xr_goto (n := 49) dX3_takeTerm_45 (by decide) ?_
      refine xr_ireturn dX3_takeTerm_49 rfl rfl rfl ?_
      have hT : teF (χ 0) n a = (true, (nuF (χ 0) n (if hr (χ 0) n a = nI 48 then 1 else 3) (skp (χ 0) n a) 0).1, 10 + (nuF (χ 0) n (if hr (χ 0) n a = nI 48 then 1 else 3) (skp (χ 0) n a) 0).2) := (if_neg h12).trans (if_pos hdg)
      rw [hT, hce] at hq
      refine qi hq ?_
      show nI (tmv (10 + _)) = _
      unfold tmv
      rw [if_neg (by omega), Nat.add_sub_cancel_left]
  · refine xr_aload_n (n := 16) dX3_takeTerm_15 rfl rfl ?_
    refine xr_dup (n := 17) dX3_takeTerm_16 rfl rfl ?_
    refine xr_get (n := 20) dX3_takeTerm_17 fl_X3_35 (by first | exact qat_0 (qput_at _ _ _ _ _) | exact qat_r (qput_at _ _ _ _ _) (by decide) | exact xat_0 (bat_out hX hd)) (by rfl) rfl ?_
    (first | (simp (disch := omega) only [nI_clamp, pk_mul, nI_add, oi1, up2_ss, up2_n, up2_sn, ur_s, ur_n, Nat.reduceMul, Nat.reduceAdd, Nat.add_zero]) | skip)
    refine xr_iconst (v := nI 1) (n := 21) dX3_takeTerm_20 (by decide) rfl ?_
    refine xr_iadd (n := 22) dX3_takeTerm_21 rfl ?_
    (first | (simp (disch := omega) only [nI_clamp, pk_mul, nI_add, oi1, up2_ss, up2_n, up2_sn, ur_s, ur_n, Nat.reduceMul, Nat.reduceAdd, Nat.add_zero]) | skip)
    refine xq_put (n := 25) dX3_takeTerm_22 fl_X3_35 rfl (by first | exact qat_0 (qput_at _ _ _ _ _) | exact qat_r (qput_at _ _ _ _ _) (by decide) | exact xat_0 (bat_out hX hd)) (by rfl) (by rfl) (by rfl) rfl ?_
    simp (disch := omega) only [nI_clamp, List.set, qw_0, qw_1, qw_2, qw_3]
    refine xr_sipush (v := nI 1000) (n := 28) dX3_takeTerm_25 (by decide) rfl ?_
    refine xr_iload_n (n := 29) dX3_takeTerm_28 rfl rfl ?_
    refine xr_iadd (n := 30) dX3_takeTerm_29 rfl ?_
    refine xr_bipush (v := nI 97) (n := 32) dX3_takeTerm_30 (by decide) rfl ?_
    refine xr_isub (n := 33) dX3_takeTerm_32 rfl ?_
    refine xr_ireturn dX3_takeTerm_33 rfl rfl rfl ?_
    have hF : ceF (χ 0) n a = (true, skp (χ 0) n a + 1, ix (hr (χ 0) n a) - 97) := if_pos h12
    have hT : teF (χ 0) n a = (true, skp (χ 0) n a + 1, ix (hr (χ 0) n a) - 97) := if_pos h12
    rw [hT] at hq
    rw [hF] at hcb
    have h6 : ix (hr (χ 0) n a) - 97 < 6 := hcb.2.2.1
    rw [up2_up2]
    refine qi hq ?_
    show nI (tmv (ix (hr (χ 0) n a) - 97)) = nI 1000 + hr (χ 0) n a - nI 97
    rw [Int32.sub_eq_add_neg, Int32.add_assoc, ← Int32.sub_eq_add_neg, ix_sub (k := 97) h12.1, nI_add]
    congr 1
    exact if_pos (by omega)
