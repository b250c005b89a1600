/-! WHAT HOLDS OF EVERY RUN -/
def rnI (δ : xS) (t mk rd mo tl : Nat) : Prop := δ 5 0 = nI t ∧ δ 6 0 = nI mk ∧ δ 7 0 = nI rd ∧ δ 8 0 = nI mo ∧ δ 9 0 = nI tl ∧ tl + mk + rd ≤ t ∧ mo ≤ rd ∧ (0 < rd → 0 < mo) ∧ t ≤ 400 ∧ ∀ k, ∃ x, x ≤ rd ∧ δ 4 k = nI x
theorem rn_inc {δ : xS} {t mk rd mo tl : Nat} (h5 : δ 5 0 = nI t) (h6 : δ 6 0 = nI mk) (h7 : δ 7 0 = nI rd) (h8 : δ 8 0 = nI mo) (h9 : δ 9 0 = nI tl) (h : tl + mk + rd ≤ t + 1) (h1 : mo ≤ rd) (h2 : 0 < rd → 0 < mo) (ht : t < 400) (h4 : ∀ k, ∃ x, x ≤ rd ∧ δ 4 k = nI x) : rnI (ainc δ) (t + 1) mk rd mo tl := by
  refine ⟨?_, h6, h7, h8, h9, h, h1, h2, ht, h4⟩
  show δ 5 0 + nI 1 = _
  rw [h5, nI_add]
theorem rn_step {P : Nat → Nat → Nat} {s : Nat} {δ : xS} {t mk rd mo tl : Nat} (h : rnI δ t mk rd mo tl) (ht : t < 400) : ∃ mk' rd' mo' tl', rnI (ainc (adata P s δ)) (t + 1) mk' rd' mo' tl' := by
  obtain ⟨h5, h6, h7, h8, h9, hs, h1, h2, -, h4⟩ := h
  unfold adata
  split
  · refine ⟨mk, rd, mo, tl, rn_inc ?_ ?_ ?_ ?_ ?_ (by omega) h1 h2 ht (fun k => ?_)⟩
    · unfold aset; rw [up2_n _ _ _ (by omega)]; exact h5
    · unfold aset; rw [up2_n _ _ _ (by omega)]; exact h6
    · unfold aset; rw [up2_n _ _ _ (by omega)]; exact h7
    · unfold aset; rw [up2_n _ _ _ (by omega)]; exact h8
    · unfold aset; rw [up2_n _ _ _ (by omega)]; exact h9
    · unfold aset; rw [up2_n _ _ _ (by omega)]; exact h4 k
  · split
    · have e : ∀ w, w ≠ 0 → w ≠ 9 → atell P s δ w = δ w := fun w h0 h9 => by
        unfold atell
        rw [up2_n _ _ _ h9]
        split
        · exact up2_n _ _ _ h0
        · rfl
      refine ⟨mk, rd, mo, tl + 1, rn_inc ?_ ?_ ?_ ?_ ?_ (by omega) h1 h2 ht (fun k => ?_)⟩
      · rw [e 5 (by omega) (by omega)]; exact h5
      · rw [e 6 (by omega) (by omega)]; exact h6
      · rw [e 7 (by omega) (by omega)]; exact h7
      · rw [e 8 (by omega) (by omega)]; exact h8
      · unfold atell; rw [up2_ss, h9, nI_add]
      · rw [e 4 (by omega) (by omega)]; exact h4 k
    · split
      · have e : ∀ w, w ≠ 2 → w ≠ 3 → w ≠ 6 → amark δ w = δ w := fun w h2 h3 h6 => by
          unfold amark
          rw [up2_n _ _ _ h6]
          split
          · rw [ur_n _ _ h2, up2_n _ _ _ h3]
          · rfl
        refine ⟨mk + 1, rd, mo, tl, rn_inc ?_ ?_ ?_ ?_ ?_ (by omega) h1 h2 ht (fun k => ?_)⟩
        · rw [e 5 (by omega) (by omega) (by omega)]; exact h5
        · unfold amark; rw [up2_ss, h6, nI_add]
        · rw [e 7 (by omega) (by omega) (by omega)]; exact h7
        · rw [e 8 (by omega) (by omega) (by omega)]; exact h8
        · rw [e 9 (by omega) (by omega) (by omega)]; exact h9
        · rw [e 4 (by omega) (by omega) (by omega)]; exact h4 k
      · split
        · split
          · obtain ⟨x, hx, e4⟩ := h4 s
            have e4' : δ 4 s + nI 1 = nI (x + 1) := by rw [e4, nI_add]
            have key : (if δ 8 0 < δ 4 s + nI 1 then δ 4 s + nI 1 else δ 8 0) = nI (if mo < x + 1 then x + 1 else mo) := by
              rw [e4', h8]
              by_cases e : mo < x + 1
              · rw [if_pos e, if_pos (by rw [i_lt, nt _ (by omega), nt _ (by omega)]; omega)]
              · rw [if_neg e, if_neg (by rw [i_lt, nt _ (by omega), nt _ (by omega)]; omega)]
            refine ⟨mk, rd + 1, (if mo < x + 1 then x + 1 else mo), tl, rn_inc ?_ ?_ ?_ ?_ ?_ (by omega) (by split <;> omega) (fun _ => by split <;> omega) ht (fun k => ?_)⟩
            · unfold alook; rw [up2_n _ _ _ (by omega), up2_n _ _ _ (by omega), up2_n _ _ _ (by omega)]; exact h5
            · unfold alook; rw [up2_n _ _ _ (by omega), up2_n _ _ _ (by omega), up2_n _ _ _ (by omega)]; exact h6
            · unfold alook; rw [up2_ss, h7, nI_add]
            · unfold alook; rw [up2_n _ _ _ (by omega), up2_ss]; exact key
            · unfold alook; rw [up2_n _ _ _ (by omega), up2_n _ _ _ (by omega), up2_n _ _ _ (by omega)]; exact h9
            · unfold alook
              rw [up2_n _ _ _ (by omega), up2_n _ _ _ (by omega)]
              by_cases e : k = s
              · subst e
                rw [up2_ss]
                exact ⟨x + 1, by omega, e4'⟩
              · rw [up2_sn _ _ _ e]
                obtain ⟨y, hy, e5⟩ := h4 k
                exact ⟨y, by omega, e5⟩
          · refine ⟨mk, rd, mo, tl, rn_inc ?_ ?_ ?_ ?_ ?_ (by omega) h1 h2 ht (fun k => ?_)⟩
            · rw [up2_n _ _ _ (by omega)]; exact h5
            · rw [up2_n _ _ _ (by omega)]; exact h6
            · rw [up2_n _ _ _ (by omega)]; exact h7
            · rw [up2_n _ _ _ (by omega)]; exact h8
            · rw [up2_n _ _ _ (by omega)]; exact h9
            · by_cases e : k = s
              · subst e
                rw [up2_ss]
                exact ⟨0, by omega, rfl⟩
              · rw [up2_sn _ _ _ e]
                exact h4 k
        · exact ⟨mk, rd, mo, tl, rn_inc h5 h6 h7 h8 h9 (by omega) h1 h2 ht h4⟩
theorem rn_run {n : Nat} {P : Nat → Nat → Nat} : ∀ (g s : Nat) (δ : xS) (t mk rd mo tl : Nat), rnI δ t mk rd mo tl → t + g ≤ 400 → ∃ t' mk' rd' mo' tl', rnI (arun n P g s δ).2 t' mk' rd' mo' tl' ∧ ((arun n P g s δ).1 < n → t' = t + g)
  | 0, s, δ, t, mq, rd, mo, tl, h, _ => ⟨t, mq, rd, mo, tl, h, fun _ => rfl⟩
  | g + 1, s, δ, t, mq, rd, mo, tl, h, hg => by
    unfold arun
    split
    · obtain ⟨mk', rd', mo', tl', h'⟩ := rn_step (P := P) (s := s) h (by omega)
      obtain ⟨t2, a, b, c, e, h2, h3⟩ := rn_run (n := n) (P := P) g (anext P s δ) _ (t + 1) _ _ _ _ h' (by omega)
      exact ⟨t2, a, b, c, e, h2, fun q => by rw [h3 q]; omega⟩
    · rename_i hn
      exact ⟨t, mq, rd, mo, tl, h, fun q => absurd q hn⟩
/-- a run makes at most 400 steps, is cut off only then, and what it counts is not more than its steps -/
theorem rn_D {n : Nat} {P : Nat → Nat → Nat} {a b : Int32} : ∃ t mk rd mo tl, rnI (runD n P a b).2 t mk rd mo tl ∧ ((runD n P a b).1 < n → t = 400) := by
  obtain ⟨t, mk, rd, mo, tl, h1, h2⟩ := rn_run (n := n) (P := P) 400 0 (d0 a b) 0 0 0 0 0 ⟨rfl, rfl, rfl, rfl, rfl, by omega, by omega, by omega, by omega, fun k => ⟨0, by omega, rfl⟩⟩ (by omega)
  exact ⟨t, mk, rd, mo, tl, h1, fun q => by have := h2 q; omega⟩
/-- a cell that no statement sets stays as it was -/
theorem ad_cell {P : Nat → Nat → Nat} {s c : Nat} {δ : xS} (h : P s 0 = 0 → P s 1 ≠ c) : ainc (adata P s δ) 1 c = δ 1 c := by
  show adata P s δ 1 c = δ 1 c
  unfold adata
  split
  · rename_i h0
    unfold aset
    exact up2_sn _ _ _ (fun e => h h0 e.symm)
  · split
    · unfold atell
      rw [up2_n _ _ _ (by omega)]
      split
      · rw [up2_n _ _ _ (by omega)]
      · rfl
    · split
      · unfold amark
        rw [up2_n _ _ _ (by omega)]
        split
        · rw [ur_n _ _ (by omega), up2_n _ _ _ (by omega)]
        · rfl
      · split
        · split
          · unfold alook
            rw [up2_n _ _ _ (by omega), up2_n _ _ _ (by omega), up2_n _ _ _ (by omega)]
          · rw [up2_n _ _ _ (by omega)]
        · rfl
theorem cell_run {n c : Nat} {P : Nat → Nat → Nat} (h : ∀ s, s < n → P s 0 = 0 → P s 1 ≠ c) : ∀ (g s : Nat) (δ : xS), (arun n P g s δ).2 1 c = δ 1 c
  | 0, _, _ => rfl
  | g + 1, s, δ => by
    unfold arun
    split
    · rename_i hs
      rw [cell_run h g, ad_cell (h s hs)]
    · rfl
theorem cell_D {n c : Nat} {P : Nat → Nat → Nat} {a b : Int32} (h : ∀ s, s < n → P s 0 = 0 → P s 1 ≠ c) : (runD n P a b).2 1 c = gini a b c := cell_run h 400 0 (d0 a b)
/-- without loops a run goes on and on -/
theorem fol_up {n : Nat} {P : Nat → Nat → Nat} (hO : okP n P) (hL : lam n P) (hl : ∀ s, s < n → P s 0 ≠ 3) : ∀ s, s < n → pend P s ≤ fol P s := by
  intro s
  induction s using Nat.strongRecOn with
  | _ s ih =>
    intro hs
    cases h : outr P s s with
    | zero => rw [fol_0 h]; exact Nat.le_refl _
    | succ k =>
      obtain ⟨h1, h2, h3, -⟩ := outr_k h
      rw [fol_k h]
      by_cases e : pend P s < (if s < amid P k then amid P k else P k 6)
      · rw [if_pos e]; exact Nat.le_refl _
      · rw [if_neg e, if_neg (hl k (by omega))]
        have := ih k h1 (by omega)
        have h5 := (hL k s h1 hs h2).1 h3
        rw [show pend P k = P k 6 from if_pos h2] at this
        omega
theorem next_up {n s : Nat} {P : Nat → Nat → Nat} {δ : xS} (hO : okP n P) (hL : lam n P) (hl : ∀ s, s < n → P s 0 ≠ 3) (hs : s < n) : s < anext P s δ := by
  have h1 := fol_up hO hL hl s hs
  have h2 := pend_gt hO hs
  obtain ⟨o1, -, -, -, -, -, o5⟩ := hO.2 s hs
  unfold anext
  split
  · omega
  · rw [if_neg (hl s hs)]
    have h4 : P s 0 = 4 := by have := hl s hs; omega
    have := o5 h4
    split
    · split <;> omega
    · split <;> omega
theorem nl_run {n : Nat} {P : Nat → Nat → Nat} (hO : okP n P) (hL : lam n P) (hl : ∀ s, s < n → P s 0 ≠ 3) : ∀ (g s : Nat) (δ : xS) (t : Nat), δ 5 0 = nI t → n - s ≤ g → ¬ (arun n P g s δ).1 < n ∧ ∃ t', t' ≤ t + (n - s) ∧ (arun n P g s δ).2 5 0 = nI t'
  | 0, s, δ, t, h, hg => ⟨by show ¬ s < n; omega, t, by omega, h⟩
  | g + 1, s, δ, t, h, hg => by
    unfold arun
    split
    · rename_i hs
      have hn := next_up (δ := δ) hO hL hl hs
      obtain ⟨a, t', b, c⟩ := nl_run hO hL hl g (anext P s δ) (ainc (adata P s δ)) (t + 1) (by
        show adata P s δ 5 0 + nI 1 = _
        rw [ad_5, h, nI_add]) (by omega)
      exact ⟨a, t', by omega, c⟩
    · exact ⟨by assumption, t, by omega, h⟩
theorem nl_D {n : Nat} {P : Nat → Nat → Nat} {a b : Int32} (hW : wfP n P) (h3 : cntk P 3 n = 0) : ¬ (runD n P a b).1 < n ∧ ∃ t', t' ≤ n ∧ (runD n P a b).2 5 0 = nI t' := by
  have h60 := hW.1.1
  obtain ⟨h1, t', h2, h4⟩ := nl_run hW.1 hW.2.1 (fun s hs e => by have := (cntk_pos n).mpr ⟨s, hs, e⟩; omega) 400 0 (d0 a b) 0 rfl (by omega)
  exact ⟨h1, t', by omega, h4⟩
/-- without loops and choices each statement is one step -/
theorem st_run {n : Nat} {P : Nat → Nat → Nat} (hl : ∀ s, s < n → P s 0 ≤ 2) : ∀ (g s : Nat) (δ : xS) (t : Nat), δ 5 0 = nI t → s ≤ n → n - s ≤ g → (arun n P g s δ).2 5 0 = nI (t + (n - s))
  | 0, s, δ, t, h, hs, hg => by
    show δ 5 0 = _
    rw [h, show n - s = 0 from by omega, Nat.add_zero]
  | g + 1, s, δ, t, h, hs, hg => by
    unfold arun
    split
    · rename_i hs
      have h2 := hl s hs
      have ho : outr P s s = 0 := outr_is0 (fun i hi q => by have := hl i (by omega); omega)
      have e : anext P s δ = s + 1 := by
        unfold anext
        rw [if_pos h2, fol_0 ho]
        exact if_neg (by omega)
      rw [e, st_run hl g (s + 1) (ainc (adata P s δ)) (t + 1) (by
        show adata P s δ 5 0 + nI 1 = _
        rw [ad_5, h, nI_add]) (by omega) (by omega), show t + 1 + (n - (s + 1)) = t + (n - s) from by omega]
    · show δ 5 0 = _
      rw [h, show n - s = 0 from by omega, Nat.add_zero]
theorem st_D {n : Nat} {P : Nat → Nat → Nat} {a b : Int32} (hW : wfP n P) (h3 : cntk P 3 n = 0) (h4 : cntk P 4 n = 0) : (runD n P a b).2 5 0 = nI n := by
  have h60 := hW.1.1
  have := st_run (P := P) (n := n) (fun s hs => by
    have h5 := (hW.1.2 s hs).1
    have h6 : P s 0 ≠ 3 := fun e => by have := (cntk_pos n).mpr ⟨s, hs, e⟩; omega
    have h7 : P s 0 ≠ 4 := fun e => by have := (cntk_pos n).mpr ⟨s, hs, e⟩; omega
    omega) 400 0 (d0 a b) 0 rfl (by omega) (by omega)
  rw [Nat.zero_add, Nat.sub_zero] at this
  exact this
