/-! RUNS: what each turn of the reference's loop keeps -/
def RIx (n : Nat) (P : Nat → Nat → Nat) (μ0 : xS) (sd : Nat) (fr : Nat → Nat × Nat) (dp s ag at_ : Nat) (δ : xS) (t mk rd mo tl : Nat) (μ : xS) : Prop :=
  adC δ t mk rd mo tl ∧ simD μ sd δ t mk rd mo tl ∧ othS μ0 μ sd ∧ stkA μ δ P fr dp ∧ rs0 δ P fr dp ∧ (ag = 0 → stk n P fr dp s ∧ at_ = resP P fr dp s) ∧ (ag = 1 → ∃ d1, dp = d1 + 1 ∧ fr d1 = (s, P s 6) ∧ P s 0 = 3 ∧ stk n P fr d1 s ∧ s < topB n fr d1 ∧ at_ = s)
theorem resP_lt {n : Nat} {P : Nat → Nat → Nat} {fr : Nat → Nat × Nat} {d s : Nat} (h : s < topB n fr d) : resP P fr d s = s := by
  cases d with
  | zero => rfl
  | succ d =>
    have h : s < (fr d).2 := h
    show (if s = (fr d).2 then _ else s) = s
    rw [if_neg (by omega)]
theorem oth9 {μ0 μ : xS} {sd k : Nat} {v : Int32} (h : othS μ0 μ sd) (hk : k < 6) : othS μ0 (up2 μ 9 (6 * sd + k) v) sd := othS_up h (Or.inl ⟨rfl, k, hk, rfl⟩)
theorem oth10 {μ0 μ : xS} {sd k : Nat} {v : Int32} (h : othS μ0 μ sd) (hk : k < 40) : othS μ0 (up2 μ 10 (40 * sd + k) v) sd := othS_up h (Or.inr (Or.inl ⟨rfl, k, hk, rfl⟩))
theorem oth11 {μ0 μ : xS} {sd k : Nat} {v : Int32} (h : othS μ0 μ sd) (hk : k < 40) : othS μ0 (up2 μ 11 (40 * sd + k) v) sd := othS_up h (Or.inr (Or.inr (Or.inl ⟨rfl, k, hk, rfl⟩)))
theorem oth13 {μ0 μ : xS} {sd k : Nat} {v : Int32} (h : othS μ0 μ sd) (hk : k < 6) : othS μ0 (up2 μ 13 (6 * sd + k) v) sd := othS_up h (Or.inr (Or.inr (Or.inr (Or.inr (Or.inl ⟨rfl, k, hk, rfl⟩)))))
theorem oth14 {μ0 μ : xS} {sd k : Nat} {v : Int32} (h : othS μ0 μ sd) : othS μ0 (up2 μ 14 k v) sd := othS_up h (Or.inr (Or.inr (Or.inr (Or.inr (Or.inr (Or.inl rfl))))))
theorem oth15 {μ0 μ : xS} {sd k : Nat} {v : Int32} (h : othS μ0 μ sd) : othS μ0 (up2 μ 15 k v) sd := othS_up h (Or.inr (Or.inr (Or.inr (Or.inr (Or.inr (Or.inr (Or.inl rfl)))))))
theorem oth16 {μ0 μ : xS} {sd k : Nat} {v : Int32} (h : othS μ0 μ sd) : othS μ0 (up2 μ 16 k v) sd := othS_up h (Or.inr (Or.inr (Or.inr (Or.inr (Or.inr (Or.inr (Or.inr rfl)))))))
section RL
variable {n : Nat} {P : Nat → Nat → Nat} {μ0 μ δ : xS} {sd : Nat} {fr : Nat → Nat × Nat} {dp s at_ t mk rd mo tl : Nat}
theorem mterm_a (h : simD μ sd δ t mk rd mo tl) {x : Nat} (hx : okT x) : mterm (up2 μ 13 (6 * sd) (nI (t + 1))) sd x = aterm δ x := by
  unfold mterm aterm
  by_cases e : x < 10
  · rw [if_pos e, if_pos e]
    unfold okT at hx
    exact h.2.1 x (by omega)
  · rw [if_neg e, if_neg e]
theorem sim_set (h : simD μ sd δ t mk rd mo tl) (hs : s < n) (hO : okP n P) : simD (msets (up2 μ 13 (6 * sd) (nI (t + 1))) sd (P s 1) (P s 2) (P s 3) (P s 4)) sd (ainc (aset P s δ)) (t + 1) mk rd mo tl := by
  obtain ⟨k0, k1, k2, k3, k4, k6, k5⟩ := hO.2 s hs
  unfold msets
  rw [mterm_a h k3, mterm_a h k4]
  obtain ⟨h1, h2, h3, h4⟩ := simD_inc h
  refine ⟨h1, fun i hi => ?_, h3, h4⟩
  show up2 _ 9 (6 * sd + P s 1) _ 9 (6 * sd + i) = up2 δ 1 (P s 1) _ 1 i
  by_cases e : i = P s 1
  · subst e
    rw [up2_ss, up2_ss]
  · rw [up2_sn _ _ _ (by omega), up2_sn _ _ _ e]
    exact h2 i hi
theorem sim_tell (h : simD μ sd δ t mk rd mo tl) (hs : s < n) (hO : okP n P) (h9 : δ 9 0 = nI tl) (htl : tl ≤ 400) : simD (mtells (up2 μ 13 (6 * sd) (nI (t + 1))) sd tl (P s 1)) sd (ainc (atell P s δ)) (t + 1) mk rd mo (tl + 1) := by
  obtain ⟨k0, k1, k2, k3, k4, k6, k5⟩ := hO.2 s hs
  obtain ⟨⟨a0, a1, a2, a3, a4, a5⟩, h2, h3, h4⟩ := simD_inc h
  have eix : ix (δ 9 0) = tl := by rw [h9]; exact ix_n (by omega)
  unfold mtells
  have hx : ∀ w j, (w ≠ 10) → (if tl < 40 then up2 (up2 μ 13 (6 * sd) (nI (t + 1))) 10 (40 * sd + tl) (up2 μ 13 (6 * sd) (nI (t + 1)) 9 (6 * sd + P s 1)) else up2 μ 13 (6 * sd) (nI (t + 1))) w j = up2 μ 13 (6 * sd) (nI (t + 1)) w j := by
    intro w j hw
    by_cases e : tl < 40
    · rw [if_pos e, up2_n _ _ _ hw]
    · rw [if_neg e]
  have hy : ∀ w j, w ≠ 0 → w ≠ 9 → w ≠ 5 → ainc (atell P s δ) w j = δ w j := by
    intro w j h0 h9 h5
    unfold ainc atell
    rw [up2_n _ _ _ h5, up2_n _ _ _ h9, eix]
    by_cases e : tl < 40
    · rw [if_pos e, up2_n _ _ _ h0]
    · rw [if_neg e]
  refine ⟨⟨?_, ?_, up2_ss _ _ _ _, ?_, ?_, ?_⟩, fun i hi => ?_, fun i hi hi2 => ?_, fun i hi hi2 => ?_⟩
  · rw [up2_sn _ _ _ (by omega), hx _ _ (by omega)]; exact a0
  · rw [up2_sn _ _ _ (by omega), hx _ _ (by omega)]; exact a1
  · rw [up2_sn _ _ _ (by omega), hx _ _ (by omega)]; exact a3
  · rw [up2_sn _ _ _ (by omega), hx _ _ (by omega)]; exact a4
  · rw [up2_sn _ _ _ (by omega), hx _ _ (by omega)]; exact a5
  · rw [up2_n _ _ _ (by omega), hx _ _ (by omega), hy _ _ (by omega) (by omega) (by omega)]; exact h2 i hi
  · clear hx hy
    unfold ainc atell
    rw [eix]
    by_cases e : tl < 40
    · by_cases e2 : i = tl
      · subst e2
        simp (disch := omega) only [up2_a, ur_a, fo_a, if_pos, if_neg, Nat.reduceEqDiff, reduceIte, Nat.add_sub_cancel_left]
        exact h2 _ k1
      · have := h3 i (by omega) hi2
        simp (disch := omega) only [up2_a, ur_a, fo_a, if_pos, if_neg, Nat.reduceEqDiff, reduceIte, Nat.add_sub_cancel_left]
        exact this
    · have := h3 i (by omega) hi2
      simp (disch := omega) only [up2_a, ur_a, fo_a, if_pos, if_neg, Nat.reduceEqDiff, reduceIte, Nat.add_sub_cancel_left]
      exact this
  · rw [up2_n _ _ _ (by omega), hx _ _ (by omega), hy _ _ (by omega) (by omega) (by omega)]
    refine ⟨(h4 i hi hi2).1, fun c hc => ?_⟩
    rw [up2_n _ _ _ (by omega), hx _ _ (by omega), hy _ _ (by omega) (by omega) (by omega)]
    exact (h4 i hi hi2).2 c hc
theorem sim_mark (h : simD μ sd δ t mk rd mo tl) (h5 : δ 5 0 = nI t) (h6 : δ 6 0 = nI mk) (hmk : mk ≤ 400) : simD (mmarks (up2 μ 13 (6 * sd) (nI (t + 1))) sd mk t) sd (ainc (amark δ)) (t + 1) (mk + 1) rd mo tl := by
  obtain ⟨⟨a0, a1, a2, a3, a4, a5⟩, h2, h3, h4⟩ := simD_inc h
  have eix : ix (δ 6 0) = mk := by rw [h6]; exact ix_n (by omega)
  unfold mmarks mmark1
  have hx : ∀ w j, w ≠ 11 → w ≠ 12 → (if mk < 40 then ur (up2 (up2 μ 13 (6 * sd) (nI (t + 1))) 11 (40 * sd + mk) (nI t)) 12 (fo (fun c => up2 μ 13 (6 * sd) (nI (t + 1)) 9 (6 * sd + c)) (up2 μ 13 (6 * sd) (nI (t + 1)) 12) (240 * sd + 6 * mk) 6) else up2 μ 13 (6 * sd) (nI (t + 1))) w j = up2 μ 13 (6 * sd) (nI (t + 1)) w j := by
    intro w j h11 h12
    by_cases e : mk < 40
    · rw [if_pos e, ur_n _ _ h12, up2_n _ _ _ h11]
    · rw [if_neg e]
  have hy : ∀ w j, w ≠ 2 → w ≠ 3 → w ≠ 6 → w ≠ 5 → ainc (amark δ) w j = δ w j := by
    intro w j g2 g3 g6 g5
    unfold ainc amark
    rw [up2_n _ _ _ g5, up2_n _ _ _ g6, eix]
    by_cases e : mk < 40
    · rw [if_pos e, ur_n _ _ g2, up2_n _ _ _ g3]
    · rw [if_neg e]
  refine ⟨⟨?_, ?_, ?_, up2_ss _ _ _ _, ?_, ?_⟩, fun i hi => ?_, fun i hi hi2 => ?_, fun i hi hi2 => ?_⟩
  · rw [up2_sn _ _ _ (by omega), hx _ _ (by omega) (by omega)]; exact a0
  · rw [up2_sn _ _ _ (by omega), hx _ _ (by omega) (by omega)]; exact a1
  · rw [up2_sn _ _ _ (by omega), hx _ _ (by omega) (by omega)]; exact a2
  · rw [up2_sn _ _ _ (by omega), hx _ _ (by omega) (by omega)]; exact a4
  · rw [up2_sn _ _ _ (by omega), hx _ _ (by omega) (by omega)]; exact a5
  · rw [up2_n _ _ _ (by omega), hx _ _ (by omega) (by omega), hy _ _ (by omega) (by omega) (by omega) (by omega)]; exact h2 i hi
  · rw [up2_n _ _ _ (by omega), hx _ _ (by omega) (by omega), hy _ _ (by omega) (by omega) (by omega) (by omega)]; exact h3 i hi hi2
  · clear hx hy
    unfold ainc amark
    rw [eix]
    by_cases e : mk < 40
    · by_cases e2 : i = mk
      · subst e2
        refine ⟨?_, fun c hc => ?_⟩
        · simp (disch := omega) only [up2_a, ur_a, fo_a, if_pos, if_neg, Nat.reduceEqDiff, reduceIte, Nat.add_sub_cancel_left]
          exact h5.symm
        · have := h2 c hc
          simp (disch := omega) only [up2_a, ur_a, fo_a, if_pos, if_neg, Nat.reduceEqDiff, reduceIte, Nat.add_sub_cancel_left]
          exact this
      · have := h4 i (by omega) hi2
        refine ⟨?_, fun c hc => ?_⟩
        · simp (disch := omega) only [up2_a, ur_a, fo_a, if_pos, if_neg, Nat.reduceEqDiff, reduceIte, Nat.add_sub_cancel_left]
          exact this.1
        · have h9 := this.2 c hc
          simp (disch := omega) only [up2_a, ur_a, fo_a, if_pos, if_neg, Nat.reduceEqDiff, reduceIte, Nat.add_sub_cancel_left]
          exact h9
    · have := h4 i (by omega) hi2
      refine ⟨?_, fun c hc => ?_⟩
      · simp (disch := omega) only [up2_a, ur_a, fo_a, if_pos, if_neg, Nat.reduceEqDiff, reduceIte, Nat.add_sub_cancel_left]
        exact this.1
      · have h9 := this.2 c hc
        simp (disch := omega) only [up2_a, ur_a, fo_a, if_pos, if_neg, Nat.reduceEqDiff, reduceIte, Nat.add_sub_cancel_left]
        exact h9
theorem oth_inc (h : othS μ0 μ sd) : othS μ0 (up2 μ 13 (6 * sd) (nI (t + 1))) sd := oth13 (k := 0) h (by omega)
theorem oth_set (h : othS μ0 μ sd) (hs : s < n) (hO : okP n P) : othS μ0 (msets μ sd (P s 1) (P s 2) (P s 3) (P s 4)) sd := othS_up h (Or.inl ⟨rfl, _, (hO.2 s hs).2.1, rfl⟩)
theorem oth_tell (h : othS μ0 μ sd) : othS μ0 (mtells μ sd tl (P s 1)) sd := by
  unfold mtells
  refine oth13 ?_ (by omega)
  by_cases e : tl < 40
  · rw [if_pos e]; exact oth10 h e
  · rw [if_neg e]; exact h
theorem oth_mark (h : othS μ0 μ sd) : othS μ0 (mmarks μ sd mk t) sd := by
  unfold mmarks mmark1
  refine oth13 ?_ (by omega)
  by_cases e : mk < 40
  · rw [if_pos e]
    have h2 : othS μ0 (up2 μ 11 (40 * sd + mk) (nI t)) sd := oth11 h e
    exact othS_fo h2 e (by omega)
  · rw [if_neg e]; exact h
theorem do_row (w j : Nat) (hw : w ≠ 9 ∧ w ≠ 10 ∧ w ≠ 11 ∧ w ≠ 12 ∧ w ≠ 13) : (if P s 0 = 0 then msets μ sd (P s 1) (P s 2) (P s 3) (P s 4) else if P s 0 = 1 then mtells μ sd tl (P s 1) else mmarks μ sd mk t) w j = μ w j := by
  obtain ⟨h9, h10, h11, h12, h13⟩ := hw
  split
  · unfold msets; rw [up2_n _ _ _ h9]
  · split
    · unfold mtells
      rw [up2_n _ _ _ h13]
      split
      · rw [up2_n _ _ _ h10]
      · rfl
    · unfold mmarks mmark1
      rw [up2_n _ _ _ h13]
      split
      · rw [ur_n _ _ h12, up2_n _ _ _ h11]
      · rfl
theorem ad4 (j : Nat) (hk : P s 0 ≤ 2) : ainc (adata P s δ) 4 j = δ 4 j := by
  unfold ainc adata
  rw [up2_n _ _ _ (by omega)]
  split
  · unfold aset; rw [up2_n _ _ _ (by omega)]
  · split
    · unfold atell
      rw [up2_n _ _ _ (by omega)]
      split
      · rw [up2_n _ _ _ (by omega)]
      · rfl
    · split
      · unfold amark
        rw [up2_n _ _ _ (by omega)]
        split
        · rw [ur_n _ _ (by omega), up2_n _ _ _ (by omega)]
        · rfl
      · omega
/-- a statement that is no loop and no choice -/
theorem RI_plain (hW : wfP n P) (h : RIx n P μ0 sd fr dp s 0 at_ δ t mk rd mo tl μ) (hlt : s < topB n fr dp) (hk : P s 0 ≤ 2) (ht : t < 400) : at_ = s ∧ s < n ∧ ∃ mk' tl', RIx n P μ0 sd fr dp (s + 1) 0 (anext P s δ) (ainc (adata P s δ)) (t + 1) mk' rd mo tl' (if P s 0 = 0 then msets (up2 μ 13 (6 * sd) (nI (t + 1))) sd (P s 1) (P s 2) (P s 3) (P s 4) else if P s 0 = 1 then mtells (up2 μ 13 (6 * sd) (nI (t + 1))) sd tl (P s 1) else mmarks (up2 μ 13 (6 * sd) (nI (t + 1))) sd mk t) := by
  obtain ⟨hO, hL, hD⟩ := hW
  obtain ⟨hC, hM, hT, hK, hR, hA, -⟩ := h
  obtain ⟨hst, hat⟩ := hA rfl
  have hsn := stk_lt hO hst hlt
  obtain ⟨c5, c6, c7, c8, c9, b6, b7, b8, b9, bt, c4⟩ := hC
  rw [resP_lt hlt] at hat
  refine ⟨hat, hsn, ?_⟩
  have hpe : pend P s = s + 1 := if_neg (by omega)
  have hnx : anext P s δ = resP P fr dp (s + 1) := by
    unfold anext
    rw [if_pos hk, fol_res hO hL hst hlt, hpe]
  have hst2 : stk n P fr dp (s + 1) := by rw [← hpe]; exact stk_sib hO hL hst hlt
  have hK2 : ∀ ν : xS, (∀ w j, (w = 14 ∨ w = 15 ∨ w = 16) → ν w j = μ w j) → stkA ν (ainc (adata P s δ)) P fr dp := by
    intro ν hν i hi
    obtain ⟨g1, g2, g3⟩ := hK i hi
    refine ⟨by rw [hν _ _ (by omega)]; exact g1, by rw [hν _ _ (by omega)]; exact g2, fun e => ?_⟩
    rw [hν _ _ (by omega), ad4 _ hk]
    exact g3 e
  have hR2 : rs0 (ainc (adata P s δ)) P fr dp := fun k hk2 => by rw [ad4 _ hk]; exact hR k hk2
  have hx4 : ∀ k, ∃ x, x ≤ t + 1 ∧ ainc (adata P s δ) 4 k = nI x := fun k => by
    obtain ⟨x, hx, e⟩ := c4 k
    exact ⟨x, by omega, by rw [ad4 _ hk]; exact e⟩
  have hrow : ∀ w j, (w = 14 ∨ w = 15 ∨ w = 16) → (if P s 0 = 0 then msets (up2 μ 13 (6 * sd) (nI (t + 1))) sd (P s 1) (P s 2) (P s 3) (P s 4) else if P s 0 = 1 then mtells (up2 μ 13 (6 * sd) (nI (t + 1))) sd tl (P s 1) else mmarks (up2 μ 13 (6 * sd) (nI (t + 1))) sd mk t) w j = μ w j := by
    intro w j hw
    rw [do_row w j (by omega), up2_n _ _ _ (by omega)]
  have hcase : P s 0 = 0 ∨ P s 0 = 1 ∨ P s 0 = 2 := by omega
  have hK3 := hK2 _ hrow
  rcases hcase with e | e | e
  · rw [if_pos e] at hK3 ⊢
    have ead : adata P s δ = aset P s δ := by unfold adata; rw [if_pos e]
    rw [ead] at hK3 hR2 hx4 ⊢
    refine ⟨mk, tl, adC_inc c5 c6 c7 c8 c9 ht (by omega) hx4, sim_set hM hsn hO, oth_set (oth_inc hT) hsn hO, hK3, hR2, fun _ => ⟨hst2, hnx⟩, fun h => by omega⟩
  · rw [if_neg (by omega), if_pos e] at hK3 ⊢
    have ead : adata P s δ = atell P s δ := by unfold adata; rw [if_neg (by omega), if_pos e]
    rw [ead] at hK3 hR2 hx4 ⊢
    have hz : ∀ w j, w ≠ 0 → w ≠ 9 → atell P s δ w j = δ w j := by
      intro w j h0 h9
      unfold atell
      rw [up2_n _ _ _ h9]
      split
      · rw [up2_n _ _ _ h0]
      · rfl
    refine ⟨mk, tl + 1, adC_inc (by rw [hz _ _ (by omega) (by omega)]; exact c5) (by rw [hz _ _ (by omega) (by omega)]; exact c6) (by rw [hz _ _ (by omega) (by omega)]; exact c7) (by rw [hz _ _ (by omega) (by omega)]; exact c8) ?_ ht (by omega) hx4, sim_tell hM hsn hO c9 (by omega), oth_tell (oth_inc hT), hK3, hR2, fun _ => ⟨hst2, hnx⟩, fun h => by omega⟩
    show up2 _ 9 0 _ 9 0 = _
    rw [up2_ss, c9, nI_add]
  · rw [if_neg (by omega), if_neg (by omega)] at hK3 ⊢
    have ead : adata P s δ = amark δ := by unfold adata; rw [if_neg (by omega), if_neg (by omega), if_pos e]
    rw [ead] at hK3 hR2 hx4 ⊢
    have hz : ∀ w j, w ≠ 2 → w ≠ 3 → w ≠ 6 → amark δ w j = δ w j := by
      intro w j h2 h3 h6
      unfold amark
      rw [up2_n _ _ _ h6]
      split
      · rw [ur_n _ _ h2, up2_n _ _ _ h3]
      · rfl
    refine ⟨mk + 1, tl, adC_inc (by rw [hz _ _ (by omega) (by omega) (by omega)]; exact c5) ?_ (by rw [hz _ _ (by omega) (by omega) (by omega)]; exact c7) (by rw [hz _ _ (by omega) (by omega) (by omega)]; exact c8) (by rw [hz _ _ (by omega) (by omega) (by omega)]; exact c9) ht (by omega) hx4, sim_mark hM c5 c6 (by omega), oth_mark (oth_inc hT), hK3, hR2, fun _ => ⟨hst2, hnx⟩, fun h => by omega⟩
    show up2 _ 6 0 _ 6 0 = _
    rw [up2_ss, c6, nI_add]
end RL
