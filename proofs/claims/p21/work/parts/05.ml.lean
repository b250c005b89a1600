/-! pairs, equal cells, outputs -/
def pmn (x y : Nat) : Nat := if 40 < (if x < y then x else y) then 40 else (if x < y then x else y)
def pmA (A B : Nat × xS) : Nat := pmn (ix (A.2 6 0)) (ix (B.2 6 0))
theorem pmn_le (x y : Nat) : pmn x y ≤ 40 ∧ pmn x y ≤ x ∧ pmn x y ≤ y := by
  unfold pmn
  split <;> split <;> omega
def ldv (A B : Nat × xS) (k : Nat) : Int32 := A.2 3 k - B.2 3 k
def ab (x : Int32) : Int32 := if x < 0 then -x else x
def glv (A B : Nat × xS) : Nat → Int32
  | 0 => nI 0
  | k + 1 => if glv A B k < ab (ldv A B k) then ab (ldv A B k) else glv A B k
theorem glv_s (A B : Nat × xS) (k : Nat) : glv A B (k + 1) = if glv A B k < ab (ldv A B k) then ab (ldv A B k) else glv A B k := rfl
abbrev eqp (A B : Nat × xS) (k c : Nat) : Prop := ∀ j, j < c → A.2 2 (6 * k + j) = B.2 2 (6 * k + j)

theorem all_s {E : Nat → Prop} {c : Nat} : (∀ j, j < c + 1 → E j) ↔ (∀ j, j < c → E j) ∧ E c := ⟨fun h => ⟨fun j hj => h j (by omega), h c (by omega)⟩, fun h j hj => by
  by_cases e : j = c
  · rw [e]; exact h.2
  · exact h.1 j (by omega)⟩
def aev (A B : Nat × xS) : Nat → Nat
  | 0 => 0
  | k + 1 => aev A B k + (if eqp A B k 6 then 1 else 0)
theorem aev_le (A B : Nat × xS) : ∀ k, aev A B k ≤ k
  | 0 => Nat.le_refl _
  | k + 1 => by
    have := aev_le A B k
    unfold aev
    split <;> omega
theorem aev_t {A B : Nat × xS} {k : Nat} (h : eqp A B k 6) : aev A B (k + 1) = aev A B k + 1 := by
  show aev A B k + _ = _
  rw [if_pos h]
theorem aev_f {A B : Nat × xS} {k : Nat} (h : ¬ eqp A B k 6) : aev A B (k + 1) = aev A B k + 0 := by
  show aev A B k + _ = _
  rw [if_neg h]
abbrev eqx (A B : Nat × xS) (x y n : Nat) : Prop := ∀ k, k < n → A.2 2 (6 * k + x) = B.2 2 (6 * k + y)

def eqv (A B : Nat × xS) (x : Nat) : Nat → Int32
  | 0 => nI 0
  | y + 1 => eqv A B x y ||| (if eqx A B x y (pmA A B) then nI 1 <<< (nI y &&& 31) else nI 0)
theorem eqv_s (A B : Nat × xS) (x y : Nat) : eqv A B x (y + 1) = eqv A B x y ||| (if eqx A B x y (pmA A B) then nI 1 <<< (nI y &&& 31) else nI 0) := rfl
def fdF (A B : Nat × xS) : Nat → Nat → Int32
  | 0, _ => (-10009)
  | g + 1, k => if valA A k = valA B k then fdF A B g (k + 1) else nI k
def fdv (A B : Nat × xS) : Int32 := fdF A B 40 0
theorem fdF_end {A B : Nat × xS} : ∀ (g k : Nat), (∀ j, k ≤ j → valA A j = valA B j) → fdF A B g k = (-10009)
  | 0, _, _ => rfl
  | g + 1, k, h => by
    unfold fdF
    rw [if_pos (h k (Nat.le_refl _))]
    exact fdF_end g (k + 1) (fun j hj => h j (by omega))
theorem fdF_t {A B : Nat × xS} {k : Nat} (hk : k < 40) (h : valA A k = valA B k) : fdF A B (40 - k) k = fdF A B (40 - (k + 1)) (k + 1) := by
  have e : 40 - k = (40 - (k + 1)) + 1 := by omega
  rw [e]
  exact if_pos h
theorem fdF_f {A B : Nat × xS} {k : Nat} (hk : k < 40) (h : ¬ valA A k = valA B k) : fdF A B (40 - k) k = nI k := by
  have e : 40 - k = (40 - (k + 1)) + 1 := by omega
  rw [e]
  exact if_neg h
abbrev agP (n0 n1 : Nat) (A B : Nat × xS) : Prop := cutD n0 A = nI 0 ∧ cutD n1 B = nI 0 ∧ A.2 9 0 = B.2 9 0 ∧ fdv A B = (-10009)

/-- all values within the document's bounds -/
def bdS (δ : xS) : Prop := ∀ w i, w ≤ 2 → -999 ≤ (δ w i).toInt ∧ (δ w i).toInt ≤ 999
theorem i999 : (nI 999).toInt = 999 := nt 999 (by omega)
theorem im999 : (-999 : Int32).toInt = -999 := by decide +kernel
theorem mheld_bd (v : Int32) : -999 ≤ (mheld v).toInt ∧ (mheld v).toInt ≤ 999 := by
  unfold mheld
  split
  · rw [im999]; omega
  · split
    · rw [i999]; omega
    · rename_i h1 h2
      rw [i_lt, im999] at h1
      rw [i_lt, i999] at h2
      omega
theorem bd_up {δ : xS} {i j : Nat} {v : Int32} (h : bdS δ) (hv : i ≤ 2 → -999 ≤ v.toInt ∧ v.toInt ≤ 999) : bdS (up2 δ i j v) := by
  intro w z hw
  rw [up2_a]
  split
  · rename_i e
    split
    · exact hv (by omega)
    · exact h w z hw
  · exact h w z hw
theorem bd_ad {P : Nat → Nat → Nat} {s : Nat} {δ : xS} (h : bdS δ) : bdS (ainc (adata P s δ)) := by
  unfold ainc
  refine bd_up ?_ (fun q => by omega)
  unfold adata
  split
  · exact bd_up h (fun _ => mheld_bd _)
  · split
    · unfold atell
      refine bd_up ?_ (fun q => by omega)
      split
      · exact bd_up h (fun _ => h 1 _ (by omega))
      · exact h
    · split
      · unfold amark
        refine bd_up ?_ (fun q => by omega)
        split
        · have h3 : bdS (up2 δ 3 (ix (δ 6 0)) (δ 5 0)) := bd_up h (fun q => by omega)
          intro w z hw
          rw [ur_a]
          split
          · rw [fo_a]
            split
            · exact h 1 _ (by omega)
            · exact h 2 _ (by omega)
          · exact h3 w z hw
        · exact h
      · split
        · split
          · unfold alook
            exact bd_up (bd_up (bd_up h (fun q => by omega)) (fun q => by omega)) (fun q => by omega)
          · exact bd_up h (fun q => by omega)
        · exact h
theorem bd_run {n : Nat} {P : Nat → Nat → Nat} : ∀ (g s : Nat) (δ : xS), bdS δ → bdS (arun n P g s δ).2
  | 0, _, _, h => h
  | g + 1, s, δ, h => by
    unfold arun
    split
    · exact bd_run g _ _ (bd_ad h)
    · exact h
theorem bd_D {n : Nat} {P : Nat → Nat → Nat} {a b : Int32} (h : (-999 ≤ a.toInt ∧ a.toInt ≤ 999) ∧ (-999 ≤ b.toInt ∧ b.toInt ≤ 999)) : bdS (runD n P a b).2 := by
  refine bd_run _ _ _ (fun w i hw => ?_)
  have h0 : (nI 0).toInt = 0 := nt 0 (by omega)
  unfold d0
  split
  · split
    · exact h.1
    · split
      · exact h.2
      · omega
  · omega
theorem no_none {A : Nat × xS} (h : bdS A.2) (i : Nat) : A.2 0 i ≠ (-10009) := fun e => by
  have h1 := h 0 i (by omega)
  have h2 : (-10009 : Int32).toInt = -10009 := by decide +kernel
  rw [e, h2] at h1
  omega
theorem fin_mk {μ : xS} {sd n : Nat} {A : Nat × xS} {t mk rd mo tl : Nat} (h : finN μ sd n A t mk rd mo tl) : ix (A.2 6 0) = mk ∧ ix (A.2 9 0) = tl ∧ mk ≤ 400 ∧ tl ≤ 400 := by
  obtain ⟨⟨-, c6, -, -, c9, b6, -, -, b9, bt, -⟩, -⟩ := h
  rw [c6, c9]
  exact ⟨ix_n (by omega), ix_n (by omega), by omega, by omega⟩
theorem fin_ld {μ : xS} {n0 n1 : Nat} {A B : Nat × xS} {t mk rd mo tl t1 mk1 rd1 mo1 tl1 k : Nat} (h : finN μ 0 n0 A t mk rd mo tl) (h1 : finN μ 1 n1 B t1 mk1 rd1 mo1 tl1) (hk : k < pmA A B) : μ 11 k - μ 11 (40 + k) = ldv A B k := by
  have b := pmn_le (ix (A.2 6 0)) (ix (B.2 6 0))
  have e0 := fin_mk h
  have e1 := fin_mk h1
  have hk2 : k < pmn (ix (A.2 6 0)) (ix (B.2 6 0)) := hk
  have m0 := (h.2.2.2.2 k (by omega) (by omega)).1
  have m1 := (h1.2.2.2.2 k (by omega) (by omega)).1
  rw [Nat.mul_zero, Nat.zero_add] at m0
  rw [Nat.mul_one] at m1
  rw [m0, m1]
  rfl
theorem fin_eqc {μ : xS} {n0 n1 : Nat} {A B : Nat × xS} {t mk rd mo tl t1 mk1 rd1 mo1 tl1 k x y : Nat} (h : finN μ 0 n0 A t mk rd mo tl) (h1 : finN μ 1 n1 B t1 mk1 rd1 mo1 tl1) (hk : k < pmA A B) (hx : x < 6) (hy : y < 6) : μ 12 (6 * k + x) = A.2 2 (6 * k + x) ∧ μ 12 (240 + 6 * k + y) = B.2 2 (6 * k + y) := by
  have b := pmn_le (ix (A.2 6 0)) (ix (B.2 6 0))
  have e0 := fin_mk h
  have e1 := fin_mk h1
  have hk2 : k < pmn (ix (A.2 6 0)) (ix (B.2 6 0)) := hk
  have m0 := (h.2.2.2.2 k (by omega) (by omega)).2 x hx
  have m1 := (h1.2.2.2.2 k (by omega) (by omega)).2 y hy
  rw [Nat.mul_zero, Nat.zero_add] at m0
  rw [Nat.mul_one] at m1
  exact ⟨m0, m1⟩