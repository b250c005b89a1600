/-! THE CLASS's whole memory, from z on: blocks by a number, the listings by their roles -/
def LB (z a : Nat) : Prop := (z + 19 ≤ a ∧ a + 10 ≤ z + 119) ∨ (z + 167 ≤ a ∧ a + 10 ≤ z + 187)
def RLo (z : Nat) (rl : Nat → Nat) : Prop := (∀ i, i < 12 → LB z (rl i)) ∧ ∀ i j, i < 12 → j < 12 → i ≠ j → rl i + 10 ≤ rl j ∨ rl j + 10 ≤ rl i
def ba (z : Nat) (rl : Nat → Nat) (i : Nat) : Nat := if i < 12 then rl i else if i = 12 then z + 3 else if i = 13 then z + 1 else if i = 14 then z + 13 else if i = 15 then z + 120 else if i = 16 then z + 127 else z + 135 + 2 * (i - 17)
def bn (i : Nat) : Nat := if i ≤ 12 then 10 else if i = 13 then 2 else if i = 14 then 3 else if i ≤ 16 then 7 else 2
def bc (z i a : Nat) (σ : xS) : Nat → xC := if i ≤ 12 then lcell a σ else if i = 13 then xcell a σ else if i = 14 then qcell a (z + 1) (z + 3) σ else if i ≤ 16 then tcell a σ else ocell a σ
def FX (f : Nat → xC) (z : Nat) (rl : Nat → Nat) : Prop := f z = ob 7 [.ref (z + 1), .ref (z + 3), .ref (z + 13), .ref (z + 16), .ref (z + 119), .ref (z + 134), .ref (rl 0), .ref (rl 1)] ∧ f (z + 119) = ob 4 [.ref (z + 120), .ref (z + 127)] ∧ ∃ g, f (z + 134) = aR 3 16 g ∧ ∀ k, k < 16 → g k = some (z + 135 + 2 * k)
def HW (f : Nat → xC) (z : Nat) (rl : Nat → Nat) (sv : Nat) : Prop := f (z + 16) = ob 0 [.ref (z + 17), .ref (z + 18), .int (nI sv)] ∧ (∃ g, f (z + 17) = aR 2 5 g ∧ ∀ k, k < 5 → g k = some (rl (2 + k))) ∧ ∃ g, f (z + 18) = aR 2 5 g ∧ ∀ k, k < 5 → g k = some (rl (7 + k))
def CW (f : Nat → xC) (z : Nat) (rl : Nat → Nat) (sv : Nat) (S : Nat → xS) : Prop := RLo z rl ∧ FX f z rl ∧ HW f z rl sv ∧ ∀ i, i < 33 → bat f (ba z rl i) (bn i) (bc z i (ba z rl i) (S i))
def ss (S : Nat → xS) (i : Nat) (τ : xS) : Nat → xS := fun j => if j = i then τ else S j
def rgn (z : Nat) (f f' : Nat → xC) : Prop := ∀ a, a < z ∨ z + 187 ≤ a → f' a = f a
theorem rgn.rfl' {z : Nat} {f : Nat → xC} : rgn z f f := fun _ _ => rfl
theorem rgn.tr {z : Nat} {f f' f2 : Nat → xC} (h : rgn z f f') (h2 : rgn z f' f2) : rgn z f f2 := fun a ha => (h2 a ha).trans (h a ha)
theorem ss_s (S : Nat → xS) (i : Nat) (τ : xS) : ss S i τ i = τ := if_pos rfl
theorem ss_n {S : Nat → xS} {i j : Nat} {τ : xS} (h : j ≠ i) : ss S i τ j = S j := if_neg h
section
variable {z sv : Nat} {rl : Nat → Nat} {f : Nat → xC} {S : Nat → xS}
theorem ba_c {i : Nat} (hR : RLo z rl) (hi : i < 33) : (i < 12 ∧ ba z rl i = rl i ∧ bn i = 10 ∧ LB z (rl i)) ∨ (i = 12 ∧ ba z rl i = z + 3 ∧ bn i = 10) ∨ (i = 13 ∧ ba z rl i = z + 1 ∧ bn i = 2) ∨ (i = 14 ∧ ba z rl i = z + 13 ∧ bn i = 3) ∨ (i = 15 ∧ ba z rl i = z + 120 ∧ bn i = 7) ∨ (i = 16 ∧ ba z rl i = z + 127 ∧ bn i = 7) ∨ (17 ≤ i ∧ ba z rl i = z + 135 + 2 * (i - 17) ∧ bn i = 2) := by
  by_cases h : i < 12
  · exact Or.inl ⟨h, if_pos h, if_pos (by omega), hR.1 i h⟩
  · rcases (show i = 12 ∨ i = 13 ∨ i = 14 ∨ i = 15 ∨ i = 16 ∨ 17 ≤ i by omega) with rfl | rfl | rfl | rfl | rfl | h2
    · exact Or.inr (Or.inl ⟨rfl, rfl, rfl⟩)
    · exact Or.inr (Or.inr (Or.inl ⟨rfl, rfl, rfl⟩))
    · exact Or.inr (Or.inr (Or.inr (Or.inl ⟨rfl, rfl, rfl⟩)))
    · exact Or.inr (Or.inr (Or.inr (Or.inr (Or.inl ⟨rfl, rfl, rfl⟩))))
    · exact Or.inr (Or.inr (Or.inr (Or.inr (Or.inr (Or.inl ⟨rfl, rfl, rfl⟩)))))
    · refine Or.inr (Or.inr (Or.inr (Or.inr (Or.inr (Or.inr ⟨h2, ?_, ?_⟩)))))
      · unfold ba
        rw [if_neg h, if_neg (by omega), if_neg (by omega), if_neg (by omega), if_neg (by omega), if_neg (by omega)]
      · unfold bn
        rw [if_neg (by omega), if_neg (by omega), if_neg (by omega), if_neg (by omega)]
theorem ba_d {i j : Nat} (hR : RLo z rl) (hi : i < 33) (hj : j < 33) (h : i ≠ j) : ba z rl i + bn i ≤ ba z rl j ∨ ba z rl j + bn j ≤ ba z rl i := by
  have hij : i < 12 → j < 12 → rl i + 10 ≤ rl j ∨ rl j + 10 ≤ rl i := fun a b => hR.2 i j a b h
  rcases ba_c hR hi with ⟨a, b, c, e⟩ | ⟨a, b, c⟩ | ⟨a, b, c⟩ | ⟨a, b, c⟩ | ⟨a, b, c⟩ | ⟨a, b, c⟩ | ⟨a, b, c⟩ <;>
    rcases ba_c hR hj with ⟨a', b', c', e'⟩ | ⟨a', b', c'⟩ | ⟨a', b', c'⟩ | ⟨a', b', c'⟩ | ⟨a', b', c'⟩ | ⟨a', b', c'⟩ | ⟨a', b', c'⟩ <;>
    rw [b, c, b', c'] <;> first | omega | (unfold LB at e; omega) | (unfold LB at e'; omega) | exact hij a a'
theorem ba_f {i a : Nat} (hR : RLo z rl) (hi : i < 33) (ha : a = z ∨ a = z + 16 ∨ a = z + 17 ∨ a = z + 18 ∨ a = z + 119 ∨ a = z + 134 ∨ a < z ∨ z + 187 ≤ a) : a < ba z rl i ∨ ba z rl i + bn i ≤ a := by
  rcases ba_c hR hi with ⟨x, b, c, e⟩ | ⟨x, b, c⟩ | ⟨x, b, c⟩ | ⟨x, b, c⟩ | ⟨x, b, c⟩ | ⟨x, b, c⟩ | ⟨x, b, c⟩ <;> rw [b, c] <;> first | omega | (unfold LB at e; omega)
theorem CW.up (h : CW f z rl sv S) {i : Nat} (hi : i < 33) (τ : xS) : CW (bput f (ba z rl i) (bn i) (bc z i (ba z rl i) τ)) z rl sv (ss S i τ) := by
  obtain ⟨hR, ⟨h1, h2, g, h3, h4⟩, ⟨h5, ⟨g1, h6, h7⟩, g2, h8, h9⟩, hb⟩ := h
  refine ⟨hR, ⟨(bput_out (ba_f hR hi (by omega))).trans h1, (bput_out (ba_f hR hi (by omega))).trans h2, g, (bput_out (ba_f hR hi (by omega))).trans h3, h4⟩, ⟨(bput_out (ba_f hR hi (by omega))).trans h5, ⟨g1, (bput_out (ba_f hR hi (by omega))).trans h6, h7⟩, g2, (bput_out (ba_f hR hi (by omega))).trans h8, h9⟩, fun j hj => ?_⟩
  by_cases e : j = i
  · subst e
    rw [ss_s]
    exact bat_put _ _ _ _
  · rw [ss_n e]
    exact bat_out (hb j hj) (ba_d hR hj hi e)
theorem CW.rg (h : CW f z rl sv S) {i : Nat} (hi : i < 33) (c : Nat → xC) : rgn z f (bput f (ba z rl i) (bn i) c) := fun a ha => bput_out (ba_f h.1 hi (by omega))
theorem CW.out {f' : Nat → xC} (h : CW f z rl sv S) (e : ∀ a, z ≤ a → a < z + 187 → f' a = f a) : CW f' z rl sv S := by
  obtain ⟨hR, ⟨h1, h2, g, h3, h4⟩, ⟨h5, ⟨g1, h6, h7⟩, g2, h8, h9⟩, hb⟩ := h
  refine ⟨hR, ⟨(e _ (by omega) (by omega)).trans h1, (e _ (by omega) (by omega)).trans h2, g, (e _ (by omega) (by omega)).trans h3, h4⟩, ⟨(e _ (by omega) (by omega)).trans h5, ⟨g1, (e _ (by omega) (by omega)).trans h6, h7⟩, g2, (e _ (by omega) (by omega)).trans h8, h9⟩, fun j hj => ?_⟩
  intro k hk
  have hx : z ≤ ba z rl j + k ∧ ba z rl j + k < z + 187 := by
    rcases ba_c hR hj with ⟨x, b, c, q⟩ | ⟨x, b, c⟩ | ⟨x, b, c⟩ | ⟨x, b, c⟩ | ⟨x, b, c⟩ | ⟨x, b, c⟩ | ⟨x, b, c⟩ <;> rw [c] at hk <;> rw [b] <;> first | omega | (unfold LB at q; omega)
  exact (e _ hx.1 hx.2).trans (hb j hj k hk)
theorem CW.d (h : CW f z rl sv S) : lat f (z + 3) (S 12) := h.2.2.2 12 (by decide)
theorem CW.x (h : CW f z rl sv S) : xat f (z + 1) (S 13) := h.2.2.2 13 (by decide)
theorem CW.q (h : CW f z rl sv S) : qat f (z + 13) (z + 1) (z + 3) (S 14) := h.2.2.2 14 (by decide)
theorem CW.t0 (h : CW f z rl sv S) : tat f (z + 120) (S 15) := h.2.2.2 15 (by decide)
theorem CW.t1 (h : CW f z rl sv S) : tat f (z + 127) (S 16) := h.2.2.2 16 (by decide)
theorem bc_l {i a : Nat} {σ : xS} (h : i < 12) : bc z i a σ = lcell a σ := if_pos (by omega)
theorem bc_o {i a : Nat} {σ : xS} (h : 17 ≤ i) : bc z i a σ = ocell a σ := by
  unfold bc
  rw [if_neg (by omega), if_neg (by omega), if_neg (by omega), if_neg (by omega)]
theorem ba_l {i : Nat} (h : i < 12) : ba z rl i = rl i := if_pos h
theorem bn_l {i : Nat} (h : i < 12) : bn i = 10 := if_pos (by omega)
theorem ba_o {k : Nat} : ba z rl (17 + k) = z + 135 + 2 * k := by
  unfold ba
  rw [if_neg (by omega), if_neg (by omega), if_neg (by omega), if_neg (by omega), if_neg (by omega), if_neg (by omega)]
  omega
theorem bn_o {k : Nat} : bn (17 + k) = 2 := by
  unfold bn
  rw [if_neg (by omega), if_neg (by omega), if_neg (by omega), if_neg (by omega)]
theorem CW.l (h : CW f z rl sv S) {i : Nat} (hi : i < 12) : lat f (rl i) (S i) := by
  have := h.2.2.2 i (by omega)
  rw [ba_l hi, bn_l hi, bc_l hi] at this
  exact this
theorem CW.o (h : CW f z rl sv S) {k : Nat} (hk : k < 16) : oat f (z + 135 + 2 * k) (S (17 + k)) := by
  have := h.2.2.2 (17 + k) (by omega)
  rw [ba_o, bn_o, bc_o (by omega)] at this
  exact this
theorem CW.ul (h : CW f z rl sv S) {i : Nat} (hi : i < 12) (τ : xS) : CW (lput f (rl i) τ) z rl sv (ss S i τ) ∧ rgn z f (lput f (rl i) τ) := by
  have h1 := h.up (i := i) (by omega) τ
  have h2 := h.rg (i := i) (by omega) (bc z i (ba z rl i) τ)
  rw [ba_l hi, bn_l hi, bc_l hi] at h1 h2
  exact ⟨h1, h2⟩
theorem CW.uo (h : CW f z rl sv S) {k : Nat} (hk : k < 16) (τ : xS) : CW (oput f (z + 135 + 2 * k) τ) z rl sv (ss S (17 + k) τ) ∧ rgn z f (oput f (z + 135 + 2 * k) τ) := by
  have h1 := h.up (i := 17 + k) (by omega) τ
  have h2 := h.rg (i := 17 + k) (by omega) (bc z (17 + k) (ba z rl (17 + k)) τ)
  rw [ba_o, bn_o, bc_o (by omega)] at h1 h2
  exact ⟨h1, h2⟩
theorem CW.ud (h : CW f z rl sv S) (τ : xS) : CW (lput f (z + 3) τ) z rl sv (ss S 12 τ) ∧ rgn z f (lput f (z + 3) τ) := ⟨h.up (i := 12) (by omega) τ, h.rg (i := 12) (by omega) _⟩
theorem CW.ux (h : CW f z rl sv S) (τ : xS) : CW (xput f (z + 1) τ) z rl sv (ss S 13 τ) ∧ rgn z f (xput f (z + 1) τ) := ⟨h.up (i := 13) (by omega) τ, h.rg (i := 13) (by omega) _⟩
theorem CW.uq (h : CW f z rl sv S) (τ : xS) : CW (qput f (z + 13) (z + 1) (z + 3) τ) z rl sv (ss S 14 τ) ∧ rgn z f (qput f (z + 13) (z + 1) (z + 3) τ) := ⟨h.up (i := 14) (by omega) τ, h.rg (i := 14) (by omega) _⟩
theorem CW.ut0 (h : CW f z rl sv S) (τ : xS) : CW (tput f (z + 120) τ) z rl sv (ss S 15 τ) ∧ rgn z f (tput f (z + 120) τ) := ⟨h.up (i := 15) (by omega) τ, h.rg (i := 15) (by omega) _⟩
theorem CW.ut1 (h : CW f z rl sv S) (τ : xS) : CW (tput f (z + 127) τ) z rl sv (ss S 16 τ) ∧ rgn z f (tput f (z + 127) τ) := ⟨h.up (i := 16) (by omega) τ, h.rg (i := 16) (by omega) _⟩
/-- other roles: π moves listings alone -/
theorem CW.pm {f' : Nat → xC} {π : Nat → Nat} {sv' : Nat} (h : CW f z rl sv S) (h1 : ∀ i, i < 12 → π i < 12) (h2 : ∀ i j, i < 12 → j < 12 → i ≠ j → π i ≠ π j) (h3 : ∀ i, 12 ≤ i → π i = i) (hF : FX f' z (fun i => rl (π i))) (hH : HW f' z (fun i => rl (π i)) sv') (e : ∀ a, a ≠ z → a ≠ z + 16 → a ≠ z + 17 → a ≠ z + 18 → f' a = f a) : CW f' z (fun i => rl (π i)) sv' (fun i => S (π i)) := by
  obtain ⟨hR, -, -, hb⟩ := h
  have hR' : RLo z (fun i => rl (π i)) := ⟨fun i hi => hR.1 _ (h1 i hi), fun i j hi hj hij => hR.2 _ _ (h1 i hi) (h1 j hj) (h2 i j hi hj hij)⟩
  refine ⟨hR', hF, hH, fun i hi => ?_⟩
  have key : bat f (ba z (fun i => rl (π i)) i) (bn i) (bc z i (ba z (fun i => rl (π i)) i) (S (π i))) := by
    by_cases hl : i < 12
    · rw [ba_l hl, bn_l hl, bc_l hl]
      have := hb (π i) (by have := h1 i hl; omega)
      rw [ba_l (h1 i hl), bn_l (h1 i hl), bc_l (h1 i hl)] at this
      exact this
    · have := hb i hi
      rw [h3 i (by omega)]
      have e2 : ba z (fun i => rl (π i)) i = ba z rl i := by unfold ba; rw [if_neg hl, if_neg hl]
      rw [e2]
      exact this
  intro k hk
  have hx : ba z (fun i => rl (π i)) i + k ≠ z ∧ ba z (fun i => rl (π i)) i + k ≠ z + 16 ∧ ba z (fun i => rl (π i)) i + k ≠ z + 17 ∧ ba z (fun i => rl (π i)) i + k ≠ z + 18 := by
    have a0 := ba_f (a := z) hR' hi (by omega)
    have a1 := ba_f (a := z + 16) hR' hi (by omega)
    have a2 := ba_f (a := z + 17) hR' hi (by omega)
    have a3 := ba_f (a := z + 18) hR' hi (by omega)
    omega
  exact (e _ hx.1 hx.2.1 hx.2.2.1 hx.2.2.2).trans (key k hk)
end
