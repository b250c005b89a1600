/-! the class: a term -/
theorem skp_idem (t : Nat → Int32) (n a : Nat) : skp t n (skp t n a) = skp t n a := by
  rw [skp_eq, if_neg (skp_no t n _ a rfl)]
theorem hr_idem (t : Nat → Int32) (n a : Nat) : hr t n (skp t n a) = hr t n a := by
  unfold hr
  rw [skp_idem]
theorem s_X3_takeTerm {G : xG} {d : Nat} {f : Nat → xC} {r : Nat × Nat} {Q : Option Value → xM → Prop} {q x e n a : Nat} {χ ρ : xS} (hX : xat f x χ) (hd : x + 2 ≤ q ∨ q + 3 ≤ x) (hn : χ 1 0 = nI n) (hn2 : n ≤ 120) (hp : ρ 3 0 = nI a) (ha : a ≤ n) (hch : ∀ i, i < n → 0 ≤ (χ 0 i).toInt) (hq : Q (some (.int (if (teF (χ 0) n a).1 = true then nI (tmv (teF (χ 0) n a).2.2) else (-1)))) (qput f q x e (up2 ρ 3 0 (nI (teF (χ 0) n a).2.1)), r)) : xMet G (d + 4) mX3_takeTerm [.ref q] (qput f q x e ρ, r) r Q := by
  refine xMet_0 (by decide +kernel) rfl (Nat.le_of_ble_eq_true rfl) ?_
  show xX G (d + 4) mX3_takeTerm r r (xΦ G r r Q) 0 [(0, .ref q)] [] (qput f q x e ρ, r)
  have hsk : skp (χ 0) n a ≤ n := (skp_ge (χ 0) n _ a rfl).2 ha
  have hh0 : 0 ≤ (hr (χ 0) n a).toInt := by
    unfold hr ch
    split
    · exact hch _ (by assumption)
    · rw [nt 0 (by omega)]; omega
  have hcb := ceF_b (t := χ 0) ha
  refine xr_aload_n (n := 1) dX3_takeTerm_0 rfl rfl ?_
  refine xr_callV (y2 := mX3_takeCell) (As := []) (n := 4) dX3_takeTerm_1 lm_X3_80 pm_X3_takeCell pi_X3_takeCell (by first | exact qat_0 (qput_at _ _ _ _ _) | exact qat_r (qput_at _ _ _ _ _) (by decide) | exact xat_0 (bat_out hX hd)) rfl rfl rfl (by simp [Value.category]) rfl ⟨Nat.le_refl _, Nat.le_refl _⟩ ?_
  refine s_X3_takeCell hX hd hn hn2 hp ha hh0 ?_
  dsimp only [xK, xps]
  refine xq_istore_n 1 (n := 5) dX3_takeTerm_4 rfl rfl rfl ?_
  simp only [xst, Nat.beq, List.filter, Bool.not_true, Bool.not_false]
  refine xr_iload_n (n := 6) dX3_takeTerm_5 rfl rfl ?_
  refine xr_iconst (v := (-1)) (n := 7) dX3_takeTerm_6 (by decide) rfl ?_
  refine xr_icmp_eq (tgt := 16) (n := 10) dX3_takeTerm_7 (by decide) rfl (fun h7 => ?_) (fun h7 => ?_)
  · refine xr_aload_n (n := 17) dX3_takeTerm_16 rfl rfl ?_
    refine xr_callV (y2 := mX3_nextSign) (As := []) (n := 20) dX3_takeTerm_17 lm_X3_38 pm_X3_nextSign pi_X3_nextSign (by first | exact qat_0 (qput_at _ _ _ _ _) | exact qat_r (qput_at _ _ _ _ _) (by decide) | exact xat_0 (bat_out hX hd)) rfl rfl rfl (by simp [Value.category]) rfl ⟨Nat.le_refl _, Nat.le_refl _⟩ ?_
    have hl : ¬ isL (hr (χ 0) n a) := fun z => by
      have hF : ceF (χ 0) n a = (true, skp (χ 0) n a + 1, ix (hr (χ 0) n a) - 97) := if_pos z
      rw [hF] at h7
      have h7 : (if true = true then nI (ix (hr (χ 0) n a) - 97) else (-1)) = (-1) := h7
      rw [if_pos rfl, i_eq, i_m1, nt _ (by have := (ix_i hh0).2; omega)] at h7
      omega
    have hF : ceF (χ 0) n a = (false, skp (χ 0) n a, 0) := if_neg hl
    rw [hF]
    refine s_X3_nextSign hX hd hn hn2 (up2_ss _ _ _ _) hsk ?_
    rw [up2_up2, hr_idem, skp_idem]
    dsimp only [xK, xps]
    refine xr_callS (y2 := mX3_isDigit) (As := [_]) (n := 23) dX3_takeTerm_20 lm_X3_111 pm_X3_isDigit kp_static_yX3_isDigit rfl rfl (by simp [Value.category]) rfl ⟨Nat.le_refl _, Nat.le_refl _⟩ ?_
    refine s_X3_isDigit ?_
    dsimp only [xK, xps]
    rw [show ∀ z : Int32, b2i (48 ≤ z.toInt ∧ z.toInt ≤ 57) = b2i (isDg z) from fun _ => rfl]
    refine xr_beq (tgt := 33) (n := 26) dX3_takeTerm_23 (by decide) rfl (fun h23 => ?_) (fun h23 => ?_)
    · refine xr_iconst (v := (-1)) (n := 34) dX3_takeTerm_33 (by decide) rfl ?_
      refine xr_ireturn dX3_takeTerm_34 rfl rfl rfl ?_
      have hT : teF (χ 0) n a = (false, skp (χ 0) n a, 0) := (if_neg hl).trans (if_neg h23)
      rw [hT] at hq
      exact hq
    · refine xr_aload_n (n := 27) dX3_takeTerm_26 rfl rfl ?_
      refine xr_callV (y2 := mX3_takeNumber) (As := []) (n := 30) dX3_takeTerm_27 lm_X3_114 pm_X3_takeNumber pi_X3_takeNumber (by first | exact qat_0 (qput_at _ _ _ _ _) | exact qat_r (qput_at _ _ _ _ _) (by decide) | exact xat_0 (bat_out hX hd)) rfl rfl rfl (by simp [Value.category]) rfl ⟨Nat.le_refl _, Nat.le_refl _⟩ ?_
      have hdg : isDg (hr (χ 0) n a) := h23
      have hlt := hr_lt (n0_i (k := 48) hdg.1 (by omega))
      have hce : hr (χ 0) n a = χ 0 (skp (χ 0) n a) := if_pos hlt
      refine s_X3_takeNumber hX hd hn hn2 (up2_ss _ _ _ _) hsk hlt (by rw [← hce]; exact hdg) hch ?_
      rw [up2_up2]
      dsimp only [xK, xps]
      refine xr_goto (n := 34) dX3_takeTerm_30 (by decide) ?_
      refine xr_ireturn dX3_takeTerm_34 rfl rfl rfl ?_
      have hT : teF (χ 0) n a = (true, (nuF (χ 0) n (if hr (χ 0) n a = nI 48 then 1 else 3) (skp (χ 0) n a) 0).1, 10 + (nuF (χ 0) n (if hr (χ 0) n a = nI 48 then 1 else 3) (skp (χ 0) n a) 0).2) := (if_neg hl).trans (if_pos hdg)
      rw [hT, hce] at hq
      refine qi hq ?_
      show nI (tmv (10 + _)) = _
      unfold tmv
      rw [if_neg (by omega), Nat.add_sub_cancel_left]
  · refine xr_sipush (v := nI 1000) (n := 13) dX3_takeTerm_10 (by decide) rfl ?_
    refine xr_iload_n (n := 14) dX3_takeTerm_13 rfl rfl ?_
    refine xr_iadd (n := 15) dX3_takeTerm_14 rfl ?_
    refine xr_ireturn dX3_takeTerm_15 rfl rfl rfl ?_
    have hl : isL (hr (χ 0) n a) := by
      by_cases z : isL (hr (χ 0) n a)
      · exact z
      · exfalso
        have hF : ceF (χ 0) n a = (false, skp (χ 0) n a, 0) := if_neg z
        rw [hF] at h7
        exact h7 rfl
    have hF : ceF (χ 0) n a = (true, skp (χ 0) n a + 1, ix (hr (χ 0) n a) - 97) := if_pos hl
    have hT : teF (χ 0) n a = (true, skp (χ 0) n a + 1, ix (hr (χ 0) n a) - 97) := if_pos hl
    rw [hT] at hq
    rw [hF] at hcb ⊢
    have h6 : ix (hr (χ 0) n a) - 97 < 6 := hcb.2.2.1
    refine qi hq ?_
    show nI (tmv (ix (hr (χ 0) n a) - 97)) = nI 1000 + nI (ix (hr (χ 0) n a) - 97)
    rw [nI_add]
    congr 1
    exact if_pos (by omega)
