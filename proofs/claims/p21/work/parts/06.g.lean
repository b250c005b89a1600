/-! a run of the class and a run in numbers from the plain beginning -/
def tsim (τ δ : xS) : Prop := (∀ i, i < 6 → τ 1 i = δ 1 i) ∧ (∀ i, i < 60 → τ 4 i = δ 4 i) ∧ (τ 5 0 = δ 5 0 ∧ τ 6 0 = δ 6 0 ∧ τ 7 0 = δ 7 0 ∧ τ 8 0 = δ 8 0 ∧ τ 9 0 = δ 9 0) ∧ (∀ i, i < 40 → i < ix (δ 9 0) → τ 0 i = δ 0 i) ∧ ∀ i, i < 40 → i < ix (δ 6 0) → τ 3 i = δ 3 i ∧ ∀ c, c < 6 → τ 2 (6 * i + c) = δ 2 (6 * i + c)
theorem tsim_0 {τ δ : xS} {u v : Int32} (h : tst τ u v) (h2 : tst δ u v) : tsim τ δ := by
  obtain ⟨a1, a4, a5, a6, a7, a8, a9⟩ := h
  obtain ⟨b1, b4, b5, b6, b7, b8, b9⟩ := h2
  refine ⟨fun i hi => (a1 i hi).trans (b1 i hi).symm, fun i hi => (a4 i hi).trans (b4 i hi).symm, ⟨a5.trans b5.symm, a6.trans b6.symm, a7.trans b7.symm, a8.trans b8.symm, a9.trans b9.symm⟩, fun i h1 h2 => ?_, fun i h1 h2 => ?_⟩
  · rw [b9, ix_n (by omega)] at h2; omega
  · rw [b6, ix_n (by omega)] at h2; omega
theorem tst_d0 (u v : Int32) : tst (d0 u v) u v := ⟨fun i hi => rfl, fun i hi => rfl, rfl, rfl, rfl, rfl, rfl⟩
theorem tsim_term {τ δ : xS} (h : tsim τ δ) {u : Nat} (hu : okT u) : aterm τ u = aterm δ u := by
  unfold aterm
  unfold okT at hu
  split
  · exact h.1 u (by omega)
  · rfl
theorem tsim_inc {τ δ : xS} (h : tsim τ δ) : tsim (ainc τ) (ainc δ) := by
  obtain ⟨h1, h4, ⟨h5, h6, h7, h8, h9⟩, h0, h3⟩ := h
  unfold ainc
  refine ⟨fun i hi => ?_, fun i hi => ?_, ⟨?_, ?_, ?_, ?_, ?_⟩, fun i hi hi2 => ?_, fun i hi hi2 => ?_⟩
  · rw [up2_n _ _ _ (by omega), up2_n _ _ _ (by omega)]; exact h1 i hi
  · rw [up2_n _ _ _ (by omega), up2_n _ _ _ (by omega)]; exact h4 i hi
  · rw [up2_ss, up2_ss, h5]
  · rw [up2_n _ _ _ (by omega), up2_n _ _ _ (by omega)]; exact h6
  · rw [up2_n _ _ _ (by omega), up2_n _ _ _ (by omega)]; exact h7
  · rw [up2_n _ _ _ (by omega), up2_n _ _ _ (by omega)]; exact h8
  · rw [up2_n _ _ _ (by omega), up2_n _ _ _ (by omega)]; exact h9
  · rw [up2_n _ _ _ (by omega)] at hi2
    rw [up2_n _ _ _ (by omega), up2_n _ _ _ (by omega)]; exact h0 i hi hi2
  · rw [up2_n _ _ _ (by omega)] at hi2
    rw [up2_n _ _ _ (by omega), up2_n _ _ _ (by omega), up2_n _ _ _ (by omega), up2_n _ _ _ (by omega)]
    exact h3 i hi hi2
theorem tsim_ad {n s t mk rd mo tl : Nat} {P : Nat → Nat → Nat} {τ δ : xS} (hO : okP n P) (hs : s < n) (hC : trC δ t mk rd mo tl) (h : tsim τ δ) : tsim (adata P s τ) (adata P s δ) := by
  obtain ⟨h1, h4, ⟨h5, h6, h7, h8, h9⟩, h0, h3⟩ := id h
  obtain ⟨c5, c6, c7, c8, c9, b6, b7, b8, b9, bt, c4, c1⟩ := hC
  obtain ⟨k0, k1, k2, k3, k4, k6, k5⟩ := hO.2 s hs
  have hn60 := hO.1
  unfold adata
  split
  · unfold aset
    rw [tsim_term h k3, tsim_term h k4]
    refine ⟨fun i hi => ?_, fun i hi => ?_, ⟨?_, ?_, ?_, ?_, ?_⟩, fun i hi hi2 => ?_, fun i hi hi2 => ?_⟩
    · by_cases e : i = P s 1
      · subst e; rw [up2_ss, up2_ss]
      · rw [up2_sn _ _ _ e, up2_sn _ _ _ e]; exact h1 i hi
    · rw [up2_n _ _ _ (by omega), up2_n _ _ _ (by omega)]; exact h4 i hi
    · rw [up2_n _ _ _ (by omega), up2_n _ _ _ (by omega)]; exact h5
    · rw [up2_n _ _ _ (by omega), up2_n _ _ _ (by omega)]; exact h6
    · rw [up2_n _ _ _ (by omega), up2_n _ _ _ (by omega)]; exact h7
    · rw [up2_n _ _ _ (by omega), up2_n _ _ _ (by omega)]; exact h8
    · rw [up2_n _ _ _ (by omega), up2_n _ _ _ (by omega)]; exact h9
    · rw [up2_n _ _ _ (by omega)] at hi2
      rw [up2_n _ _ _ (by omega), up2_n _ _ _ (by omega)]; exact h0 i hi hi2
    · rw [up2_n _ _ _ (by omega)] at hi2
      rw [up2_n _ _ _ (by omega), up2_n _ _ _ (by omega), up2_n _ _ _ (by omega), up2_n _ _ _ (by omega)]
      exact h3 i hi hi2
  · split
    · unfold atell
      have hr : ∀ (κ : xS) (v : Int32) w, w ≠ 0 → (if ix (κ 9 0) < 40 then up2 κ 0 (ix (κ 9 0)) v else κ) w = κ w := fun κ v w hw => by
        split
        · exact up2_n _ _ _ hw
        · rfl
      refine ⟨fun i hi => ?_, fun i hi => ?_, ⟨?_, ?_, ?_, ?_, ?_⟩, fun i hi hi2 => ?_, fun i hi hi2 => ?_⟩
      · rw [up2_n _ _ _ (by omega), up2_n _ _ _ (by omega), hr _ _ 1 (by omega), hr _ _ 1 (by omega)]; exact h1 i hi
      · rw [up2_n _ _ _ (by omega), up2_n _ _ _ (by omega), hr _ _ 4 (by omega), hr _ _ 4 (by omega)]; exact h4 i hi
      · rw [up2_n _ _ _ (by omega), up2_n _ _ _ (by omega), hr _ _ 5 (by omega), hr _ _ 5 (by omega)]; exact h5
      · rw [up2_n _ _ _ (by omega), up2_n _ _ _ (by omega), hr _ _ 6 (by omega), hr _ _ 6 (by omega)]; exact h6
      · rw [up2_n _ _ _ (by omega), up2_n _ _ _ (by omega), hr _ _ 7 (by omega), hr _ _ 7 (by omega)]; exact h7
      · rw [up2_n _ _ _ (by omega), up2_n _ _ _ (by omega), hr _ _ 8 (by omega), hr _ _ 8 (by omega)]; exact h8
      · rw [up2_ss, up2_ss, h9]
      · rw [up2_ss, c9, nI_add, ix_n (by omega)] at hi2
        rw [up2_n _ _ _ (by omega), up2_n _ _ _ (by omega), h9, h1 _ k1, c9, ix_n (by omega)]
        by_cases e : tl < 40
        · rw [if_pos e, if_pos e]
          by_cases e2 : i = tl
          · subst e2; rw [up2_ss, up2_ss]
          · rw [up2_sn _ _ _ e2, up2_sn _ _ _ e2]
            exact h0 i hi (by rw [c9, ix_n (by omega)]; omega)
        · rw [if_neg e, if_neg e]
          exact h0 i hi (by rw [c9, ix_n (by omega)]; omega)
      · rw [up2_n _ _ _ (by omega), hr _ _ 6 (by omega)] at hi2
        rw [up2_n _ _ _ (by omega), up2_n _ _ _ (by omega), up2_n _ _ _ (by omega), up2_n _ _ _ (by omega), hr _ _ 3 (by omega), hr _ _ 3 (by omega), hr _ _ 2 (by omega), hr _ _ 2 (by omega)]
        exact h3 i hi hi2
    · split
      · unfold amark
        have hr : ∀ (κ : xS) w, w ≠ 3 → w ≠ 2 → (if ix (κ 6 0) < 40 then ur (up2 κ 3 (ix (κ 6 0)) (κ 5 0)) 2 (fo (fun c => κ 1 c) (κ 2) (6 * ix (κ 6 0)) 6) else κ) w = κ w := fun κ w hw hw2 => by
          split
          · rw [ur_n _ _ hw2, up2_n _ _ _ hw]
          · rfl
        refine ⟨fun i hi => ?_, fun i hi => ?_, ⟨?_, ?_, ?_, ?_, ?_⟩, fun i hi hi2 => ?_, fun i hi hi2 => ?_⟩
        · rw [up2_n _ _ _ (by omega), up2_n _ _ _ (by omega), hr _ 1 (by omega) (by omega), hr _ 1 (by omega) (by omega)]; exact h1 i hi
        · rw [up2_n _ _ _ (by omega), up2_n _ _ _ (by omega), hr _ 4 (by omega) (by omega), hr _ 4 (by omega) (by omega)]; exact h4 i hi
        · rw [up2_n _ _ _ (by omega), up2_n _ _ _ (by omega), hr _ 5 (by omega) (by omega), hr _ 5 (by omega) (by omega)]; exact h5
        · rw [up2_ss, up2_ss, h6]
        · rw [up2_n _ _ _ (by omega), up2_n _ _ _ (by omega), hr _ 7 (by omega) (by omega), hr _ 7 (by omega) (by omega)]; exact h7
        · rw [up2_n _ _ _ (by omega), up2_n _ _ _ (by omega), hr _ 8 (by omega) (by omega), hr _ 8 (by omega) (by omega)]; exact h8
        · rw [up2_n _ _ _ (by omega), up2_n _ _ _ (by omega), hr _ 9 (by omega) (by omega), hr _ 9 (by omega) (by omega)]; exact h9
        · rw [up2_n _ _ _ (by omega), hr _ 9 (by omega) (by omega)] at hi2
          rw [up2_n _ _ _ (by omega), up2_n _ _ _ (by omega), hr _ 0 (by omega) (by omega), hr _ 0 (by omega) (by omega)]
          exact h0 i hi hi2
        · rw [up2_ss, c6, nI_add, ix_n (by omega)] at hi2
          rw [up2_n _ _ _ (by omega), up2_n _ _ _ (by omega), up2_n _ _ _ (by omega), up2_n _ _ _ (by omega), h6, h5, c6, ix_n (by omega)]
          by_cases e : mk < 40
          · rw [if_pos e, if_pos e, ur_n _ _ (by omega), ur_n _ _ (by omega), ur_s, ur_s]
            by_cases e2 : i = mk
            · subst e2
              rw [up2_ss, up2_ss]
              refine ⟨rfl, fun c hc => ?_⟩
              rw [fo_in (by omega) (by omega), fo_in (by omega) (by omega), Nat.add_sub_cancel_left]
              exact h1 c hc
            · rw [up2_sn _ _ _ e2, up2_sn _ _ _ e2]
              have h9 := h3 i hi (by rw [c6, ix_n (by omega)]; omega)
              refine ⟨h9.1, fun c hc => ?_⟩
              rw [fo_out (by omega), fo_out (by omega)]
              exact h9.2 c hc
          · rw [if_neg e, if_neg e]
            exact h3 i hi (by rw [c6, ix_n (by omega)]; omega)
      · split
        · rw [h1 _ k1]
          split
          · unfold alook
            refine ⟨fun i hi => ?_, fun i hi => ?_, ⟨?_, ?_, ?_, ?_, ?_⟩, fun i hi hi2 => ?_, fun i hi hi2 => ?_⟩
            · rw [up2_n _ _ _ (by omega), up2_n _ _ _ (by omega), up2_n _ _ _ (by omega), up2_n _ _ _ (by omega), up2_n _ _ _ (by omega), up2_n _ _ _ (by omega)]; exact h1 i hi
            · simp (disch := omega) only [up2_n]
              by_cases e : i = s
              · subst e; rw [up2_ss, up2_ss, h4 i hi]
              · rw [up2_sn _ _ _ e, up2_sn _ _ _ e]; exact h4 i hi
            · rw [up2_n _ _ _ (by omega), up2_n _ _ _ (by omega), up2_n _ _ _ (by omega), up2_n _ _ _ (by omega), up2_n _ _ _ (by omega), up2_n _ _ _ (by omega)]; exact h5
            · rw [up2_n _ _ _ (by omega), up2_n _ _ _ (by omega), up2_n _ _ _ (by omega), up2_n _ _ _ (by omega), up2_n _ _ _ (by omega), up2_n _ _ _ (by omega)]; exact h6
            · rw [up2_ss, up2_ss, h7]
            · simp (disch := omega) only [up2_n, up2_ss]; rw [h8, h4 s (by omega)]
            · rw [up2_n _ _ _ (by omega), up2_n _ _ _ (by omega), up2_n _ _ _ (by omega), up2_n _ _ _ (by omega), up2_n _ _ _ (by omega), up2_n _ _ _ (by omega)]; exact h9
            · rw [up2_n _ _ _ (by omega), up2_n _ _ _ (by omega), up2_n _ _ _ (by omega)] at hi2
              rw [up2_n _ _ _ (by omega), up2_n _ _ _ (by omega), up2_n _ _ _ (by omega), up2_n _ _ _ (by omega), up2_n _ _ _ (by omega), up2_n _ _ _ (by omega)]; exact h0 i hi hi2
            · rw [up2_n _ _ _ (by omega), up2_n _ _ _ (by omega), up2_n _ _ _ (by omega)] at hi2
              rw [up2_n _ _ _ (by omega), up2_n _ _ _ (by omega), up2_n _ _ _ (by omega), up2_n _ _ _ (by omega), up2_n _ _ _ (by omega), up2_n _ _ _ (by omega), up2_n _ _ _ (by omega), up2_n _ _ _ (by omega), up2_n _ _ _ (by omega), up2_n _ _ _ (by omega), up2_n _ _ _ (by omega), up2_n _ _ _ (by omega)]
              exact h3 i hi hi2
          · refine ⟨fun i hi => ?_, fun i hi => ?_, ⟨?_, ?_, ?_, ?_, ?_⟩, fun i hi hi2 => ?_, fun i hi hi2 => ?_⟩
            · rw [up2_n _ _ _ (by omega), up2_n _ _ _ (by omega)]; exact h1 i hi
            · by_cases e : i = s
              · subst e; rw [up2_ss, up2_ss]
              · rw [up2_sn _ _ _ e, up2_sn _ _ _ e]; exact h4 i hi
            · rw [up2_n _ _ _ (by omega), up2_n _ _ _ (by omega)]; exact h5
            · rw [up2_n _ _ _ (by omega), up2_n _ _ _ (by omega)]; exact h6
            · rw [up2_n _ _ _ (by omega), up2_n _ _ _ (by omega)]; exact h7
            · rw [up2_n _ _ _ (by omega), up2_n _ _ _ (by omega)]; exact h8
            · rw [up2_n _ _ _ (by omega), up2_n _ _ _ (by omega)]; exact h9
            · rw [up2_n _ _ _ (by omega)] at hi2
              rw [up2_n _ _ _ (by omega), up2_n _ _ _ (by omega)]; exact h0 i hi hi2
            · rw [up2_n _ _ _ (by omega)] at hi2
              rw [up2_n _ _ _ (by omega), up2_n _ _ _ (by omega), up2_n _ _ _ (by omega), up2_n _ _ _ (by omega)]
              exact h3 i hi hi2
        · exact h
theorem tsim_nx {n s : Nat} {P : Nat → Nat → Nat} {τ δ : xS} (hO : okP n P) (hs : s < n) (h : tsim τ δ) : anext P s τ = anext P s δ := by
  unfold anext
  rw [h.1 _ (hO.2 s hs).2.1]
theorem run_sim {n : Nat} {P : Nat → Nat → Nat} (hO : okP n P) : ∀ (g s : Nat) (τ δ : xS) (t mk rd mo tl : Nat), tsim τ δ → trC δ t mk rd mo tl → t + g ≤ 400 → (arun n P g s τ).1 = (arun n P g s δ).1 ∧ tsim (arun n P g s τ).2 (arun n P g s δ).2 ∧ ∃ t' mk' rd' mo' tl', trC (arun n P g s δ).2 t' mk' rd' mo' tl'
  | 0, s, τ, δ, t, b1, b2, b3, b4, h, hC, hg => ⟨rfl, h, t, b1, b2, b3, b4, hC⟩
  | g + 1, s, τ, δ, t, b1, b2, b3, b4, h, hC, hg => by
    by_cases hs : s < n
    · obtain ⟨mk', rd', mo', tl', hC2⟩ := trC_step hO hs hC (by omega)
      have hr := run_sim hO g (anext P s δ) _ _ (t + 1) mk' rd' mo' tl' (tsim_inc (tsim_ad hO hs hC h)) hC2 (by omega)
      have e1 : arun n P (g + 1) s τ = arun n P g (anext P s δ) (ainc (adata P s τ)) := by
        rw [← tsim_nx hO hs h]
        exact if_pos hs
      have e2 : arun n P (g + 1) s δ = arun n P g (anext P s δ) (ainc (adata P s δ)) := if_pos hs
      rw [e1, e2]
      exact hr
    · have e1 : arun n P (g + 1) s τ = (s, τ) := if_neg hs
      have e2 : arun n P (g + 1) s δ = (s, δ) := if_neg hs
      rw [e1, e2]
      exact ⟨rfl, h, t, b1, b2, b3, b4, hC⟩
/-- what a trace holds after a run -/
theorem trace_sim {n : Nat} {P : Nat → Nat → Nat} {τ : xS} {u v : Int32} (hO : okP n P) (h : tst τ u v) (hi : inpt u v) : (arun n P 400 0 τ).1 = (runD n P u v).1 ∧ tsim (arun n P 400 0 τ).2 (runD n P u v).2 ∧ ∃ t mk rd mo tl, trC (runD n P u v).2 t mk rd mo tl := run_sim hO 400 0 τ (d0 u v) 0 0 0 0 0 (tsim_0 h (tst_d0 u v)) (tst_C (tst_d0 u v) hi) (by omega)
