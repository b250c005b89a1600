/-! the class: the reader and its draft -/
def rmem (f : Nat → xC) (q x e : Nat) (ρ σ : xS) : Nat → xC := qput (lput f e σ) q x e ρ
theorem rmem_c {f : Nat → xC} {q x e : Nat} {ρ σ : xS} (h : e + 10 ≤ q ∨ q + 3 ≤ e) : rmem f q x e ρ σ = lput (qput f q x e ρ) e σ := bput_comm h
theorem rmem_x {f : Nat → xC} {x e : Nat} {χ σ : xS} (hX : xat f x χ) (h : x + 2 ≤ e ∨ e + 10 ≤ x) : xat (lput f e σ) x χ := bat_out hX h
theorem s_X1_add_r {G : xG} {d : Nat} {f : Nat → xC} {r : Nat × Nat} {Q : Option Value → xM → Prop} {q x e n : Nat} {ρ σ : xS} {k t u : Int32} (hde : e + 10 ≤ q ∨ q + 3 ≤ e) (hn : σ 9 0 = nI n) (hn2 : n ≤ 60) (hq : Q (some (.int (b2i (n < 60)))) (qput (lput f e (if n < 60 then ladd σ n k t u else σ)) q x e ρ, r)) : xMet G (d + 1) mX1_add [.ref e, .int k, .int t, .int u] (qput (lput f e σ) q x e ρ, r) r Q := by
  have h := s_X1_add (G := G) (d := d) (r := r) (f := qput f q x e ρ) (a := e) (σ := σ) (k := k) (t := t) (u := u) (Q := Q) hn hn2 (by
    rw [← rmem_c hde]
    exact hq)
  rw [← rmem_c hde] at h
  exact h
theorem hr_0 {t : Nat → Int32} {n a : Nat} (hch : ∀ i, i < n → 0 ≤ (t i).toInt) : 0 ≤ (hr t n a).toInt := by
  unfold hr ch
  split
  · exact hch _ (by assumption)
  · rw [nt 0 (by omega)]; omega
theorem s_X3_readTell {G : xG} {d : Nat} {f : Nat → xC} {r : Nat × Nat} {Q : Option Value → xM → Prop} {q x e n a k dp : Nat} {χ ρ σ : xS} (hX : xat f x χ) (hd : x + 2 ≤ q ∨ q + 3 ≤ x) (hxe : x + 2 ≤ e ∨ e + 10 ≤ x) (hde : e + 10 ≤ q ∨ q + 3 ≤ e) (hn : χ 1 0 = nI n) (hn2 : n ≤ 120) (hch : ∀ i, i < n → 0 ≤ (χ 0 i).toInt) (hp : ρ 3 0 = nI a) (ha : a < n) (h2 : ρ 2 0 = nI dp) (hdp : dp ≤ 5) (hk : σ 9 0 = nI k) (hk6 : k < 60) (hq : ∀ τ, (∀ w, w ≠ 3 → τ w = ρ w) → τ 3 0 = nI (stF (χ 0) n a 1).2.1 → Q (some (.int (b2i ((stF (χ 0) n a 1).1 = true)))) (qput (lput f e (if (stF (χ 0) n a 1).1 = true then ladd σ k (nI 2) (nI ((stF (χ 0) n a 1).2.2 1)) (ρ 0 dp) else σ)) q x e τ, r)) : xMet G (d + 5) mX3_readTell [.ref q] (qput (lput f e σ) q x e ρ, r) r Q := by
  refine xMet_0 (by decide +kernel) rfl (Nat.le_of_ble_eq_true rfl) ?_
  show xX G (d + 5) mX3_readTell r r (xΦ G r r Q) 0 [(0, .ref q)] [] (qput (lput f e σ) q x e ρ, r)
  have hX2 : ∀ κ, xat (lput f e κ) x χ := fun κ => rmem_x hX hxe
  have hcb := ceF_b (t := χ 0) (n := n) (a := a + 1) (by omega)
  have hk60 : k ≤ 60 := by omega
  refine xr_aload_n (n := 1) dX3_readTell_0 rfl rfl ?_
  refine xr_dup (n := 2) dX3_readTell_1 rfl rfl ?_
  refine xr_get (n := 5) dX3_readTell_2 fl_X3_35 (by first | exact qat_0 (qput_at _ _ _ _ _) | exact qat_r (qput_at _ _ _ _ _) (by decide) | exact xat_0 (bat_out (hX2 _) hd) | exact lat_0 (bat_out (lput_at _ _ _) (by omega))) (by rfl) rfl ?_
  (first | (simp (disch := omega) only [nI_clamp, pk_mul, nI_add, oi1, up2_ss, up2_n, up2_sn, ur_s, ur_n, Nat.reduceMul, Nat.reduceAdd, Nat.add_zero, hp]) | skip)
  refine xr_iconst (v := nI 1) (n := 6) dX3_readTell_5 (by decide) rfl ?_
  refine xr_iadd (n := 7) dX3_readTell_6 rfl ?_
  (first | (simp (disch := omega) only [nI_clamp, pk_mul, nI_add, oi1, up2_ss, up2_n, up2_sn, ur_s, ur_n, Nat.reduceMul, Nat.reduceAdd, Nat.add_zero, hp]) | skip)
  refine xq_put (n := 10) dX3_readTell_7 fl_X3_35 rfl (by first | exact qat_0 (qput_at _ _ _ _ _) | exact qat_r (qput_at _ _ _ _ _) (by decide) | exact xat_0 (bat_out (hX2 _) hd) | exact lat_0 (bat_out (lput_at _ _ _) (by omega))) (by rfl) (by rfl) (by rfl) rfl ?_
  simp (disch := omega) only [nI_clamp, List.set, qw_0, qw_1, qw_2, qw_3]
  refine xr_aload_n (n := 11) dX3_readTell_10 rfl rfl ?_
  refine xr_callV (y2 := mX3_takeCell) (As := []) (n := 14) dX3_readTell_11 lm_X3_80 pm_X3_takeCell pi_X3_takeCell (by first | exact qat_0 (qput_at _ _ _ _ _) | exact qat_r (qput_at _ _ _ _ _) (by decide) | exact xat_0 (bat_out (hX2 _) hd) | exact lat_0 (bat_out (lput_at _ _ _) (by omega))) rfl rfl rfl (by simp [Value.category]) rfl ⟨Nat.le_refl _, Nat.le_refl _⟩ ?_
  refine s_X3_takeCell (hX2 _) hd hn hn2 (up2_ss _ _ _ _) (by omega) (hr_0 hch) ?_
  rw [up2_up2]
  dsimp only [xK, xps]
  refine xq_istore_n 1 (n := 15) dX3_readTell_14 rfl rfl rfl ?_
  simp only [xst, Nat.beq, List.filter, Bool.not_true, Bool.not_false]
  refine xr_iload_n (n := 16) dX3_readTell_15 rfl rfl ?_
  refine xr_iconst (v := (-1)) (n := 17) dX3_readTell_16 (by decide) rfl ?_
  refine xr_icmp_eq (tgt := 49) (n := 20) dX3_readTell_17 (by decide) rfl (fun h17 => ?_) (fun h17 => ?_)
  · have hB : ¬ (ceF (χ 0) n (a + 1)).1 = true := fun z => by
      rw [if_pos z, i_eq, i_m1, nt _ (by omega)] at h17
      omega
    have hF : stF (χ 0) n a 1 = (false, (ceF (χ 0) n (a + 1)).2.1, fun _ => 0) := (if_neg (by omega)).trans ((if_neg (by omega)).trans (if_neg hB))
    refine xr_iconst (v := nI 0) (n := 50) dX3_readTell_49 (by decide) rfl ?_
    refine xr_ireturn dX3_readTell_50 rfl (by first | exact b2i_nar | exact nar_1 | exact nar_0) rfl ?_
    have hq9 := hq (up2 ρ 3 0 (nI (ceF (χ 0) n (a + 1)).2.1)) (fun w hw => up2_n _ _ _ hw) (by rw [hF]; exact up2_ss _ _ _ _)
    rw [hF] at hq9
    exact hq9
  · have hB : (ceF (χ 0) n (a + 1)).1 = true := by
      by_cases z : (ceF (χ 0) n (a + 1)).1 = true
      · exact z
      · exact absurd (if_neg z) h17
    rw [if_pos hB]
    have hF0 : stF (χ 0) n a 1 = (decide (hr (χ 0) n (ceF (χ 0) n (a + 1)).2.1 = nI 59), pas (χ 0) n (ceF (χ 0) n (a + 1)).2.1 (nI 59), tc 1 (ceF (χ 0) n (a + 1)).2.2) := (if_neg (by omega)).trans ((if_neg (by omega)).trans ((if_pos hB).trans (if_pos rfl)))
    refine xr_aload_n (n := 21) dX3_readTell_20 rfl rfl ?_
    refine xr_bipush (v := nI 59) (n := 23) dX3_readTell_21 (by decide) rfl ?_
    refine xr_callV (y2 := mX3_take) (As := [_]) (n := 26) dX3_readTell_23 lm_X3_63 pm_X3_take pi_X3_take (by first | exact qat_0 (qput_at _ _ _ _ _) | exact qat_r (qput_at _ _ _ _ _) (by decide) | exact xat_0 (bat_out (hX2 _) hd) | exact lat_0 (bat_out (lput_at _ _ _) (by omega))) rfl rfl rfl (by simp [Value.category]) rfl ⟨Nat.le_refl _, Nat.le_refl _⟩ ?_
    refine s_X3_take (hX2 _) hd hn hn2 (up2_ss _ _ _ _) hcb.1 (nz 59 (by omega) (by omega)) ?_
    rw [up2_up2]
    dsimp only [xK, xps]
    refine xr_beq (tgt := 49) (n := 29) dX3_readTell_26 (by decide) rfl (fun h26 => ?_) (fun h26 => ?_)
    · refine xr_iconst (v := nI 0) (n := 50) dX3_readTell_49 (by decide) rfl ?_
      refine xr_ireturn dX3_readTell_50 rfl (by first | exact b2i_nar | exact nar_1 | exact nar_0) rfl ?_
      have hF : stF (χ 0) n a 1 = (false, pas (χ 0) n (ceF (χ 0) n (a + 1)).2.1 (nI 59), tc 1 (ceF (χ 0) n (a + 1)).2.2) := by rw [hF0, decide_eq_false h26]
      have hq9 := hq (up2 ρ 3 0 (nI (pas (χ 0) n (ceF (χ 0) n (a + 1)).2.1 (nI 59)))) (fun w hw => up2_n _ _ _ hw) (by rw [hF]; exact up2_ss _ _ _ _)
      rw [hF] at hq9
      exact hq9
    · refine xr_aload_n (n := 30) dX3_readTell_29 rfl rfl ?_
      refine xr_get (n := 33) dX3_readTell_30 fl_X3_22 (by first | exact qat_0 (qput_at _ _ _ _ _) | exact qat_r (qput_at _ _ _ _ _) (by decide) | exact xat_0 (bat_out (hX2 _) hd) | exact lat_0 (bat_out (lput_at _ _ _) (by omega))) (by rfl) rfl ?_
      refine xr_iconst (v := nI 2) (n := 34) dX3_readTell_33 (by decide) rfl ?_
      refine xr_iload_n (n := 35) dX3_readTell_34 rfl rfl ?_
      refine xr_aload_n (n := 36) dX3_readTell_35 rfl rfl ?_
      refine xr_callV (y2 := mX3_innermost) (As := []) (n := 39) dX3_readTell_36 lm_X3_66 pm_X3_innermost pi_X3_innermost (by first | exact qat_0 (qput_at _ _ _ _ _) | exact qat_r (qput_at _ _ _ _ _) (by decide) | exact xat_0 (bat_out (hX2 _) hd) | exact lat_0 (bat_out (lput_at _ _ _) (by omega))) rfl rfl rfl (by simp [Value.category]) rfl ⟨Nat.le_refl _, Nat.le_refl _⟩ ?_
      refine s_X3_innermost (dp := dp) (by rw [up2_n _ _ _ (by omega)]; exact h2) hdp ?_
      rw [up2_n _ _ _ (by omega)]
      dsimp only [xK, xps]
      refine xr_callV (y2 := mX1_add) (As := [_, _, _]) (n := 42) dX3_readTell_39 lm_X3_69 pm_X1_add pi_X1_add (by first | exact qat_0 (qput_at _ _ _ _ _) | exact qat_r (qput_at _ _ _ _ _) (by decide) | exact xat_0 (bat_out (hX2 _) hd) | exact lat_0 (bat_out (lput_at _ _ _) (by omega))) rfl rfl rfl (by simp [Value.category]) rfl ⟨Nat.le_refl _, Nat.le_refl _⟩ ?_
      refine s_X1_add_r hde hk hk60 ?_
      dsimp only [xK, xps]
      refine xr_beq (tgt := 49) (n := 45) dX3_readTell_42 (by decide) rfl (fun h42 => ?_) (fun h42 => ?_)
      · refine xr_iconst (v := nI 0) (n := 50) dX3_readTell_49 (by decide) rfl ?_
        refine xr_ireturn dX3_readTell_50 rfl (by first | exact b2i_nar | exact nar_1 | exact nar_0) rfl ?_
        exact absurd (show k < 60 from hk6) h42
      · refine xr_iconst (v := nI 1) (n := 46) dX3_readTell_45 (by decide) rfl ?_
        refine xr_goto (n := 50) dX3_readTell_46 (by decide) ?_
        refine xr_ireturn dX3_readTell_50 rfl (by first | exact b2i_nar | exact nar_1 | exact nar_0) rfl ?_
        have hF : stF (χ 0) n a 1 = (true, pas (χ 0) n (ceF (χ 0) n (a + 1)).2.1 (nI 59), tc 1 (ceF (χ 0) n (a + 1)).2.2) := by rw [hF0, decide_eq_true h26]
        have hq9 := hq (up2 ρ 3 0 (nI (pas (χ 0) n (ceF (χ 0) n (a + 1)).2.1 (nI 59)))) (fun w hw => up2_n _ _ _ hw) (by rw [hF]; exact up2_ss _ _ _ _)
        rw [hF] at hq9
        rw [if_pos hk6]
        exact hq9
