theorem p_of {p : Int32} (h : 0 ≤ p.toInt ∧ p.toInt ≤ 1) : ∃ pn : Nat, pn ≤ 1 ∧ p = nI pn := ⟨p.toInt.toNat, by omega, i_of (by omega)⟩
def mcopy (μ : xS) (sv : Nat) : xS := mlay (mtake (msave μ sv) 0) 1
def mexch (μ : xS) (sv : Nat) : xS := mlay (mswap (mtake (msave μ sv) 0)) 1
def cntk (P : Nat → Nat → Nat) (k : Nat) : Nat → Nat
  | 0 => 0
  | s + 1 => cntk P k s + (if P s 0 = k then 1 else 0)
theorem cntk_t {P : Nat → Nat → Nat} {k s : Nat} (h : P s 0 = k) : cntk P k (s + 1) = cntk P k s + 1 := by
  show cntk P k s + _ = _
  rw [if_pos h]
theorem cntk_f {P : Nat → Nat → Nat} {k s : Nat} (h : ¬ P s 0 = k) : cntk P k (s + 1) = cntk P k s + 0 := by
  show cntk P k s + _ = _
  rw [if_neg h]
theorem cntk_le (P : Nat → Nat → Nat) (k : Nat) : ∀ s, cntk P k s ≤ s
  | 0 => Nat.le_refl _
  | s + 1 => by
    have := cntk_le P k s
    unfold cntk
    split <;> omega
def setb (P : Nat → Nat → Nat) : Nat → Int32
  | 0 => nI 0
  | s + 1 => setb P s ||| (if P s 0 = 0 then nI 1 <<< (nI (P s 1) &&& 31) else nI 0)
theorem setb_s (P : Nat → Nat → Nat) (s : Nat) : setb P (s + 1) = setb P s ||| (if P s 0 = 0 then nI 1 <<< (nI (P s 1) &&& 31) else nI 0) := rfl
def dpi (P : Nat → Nat → Nat) (s : Nat) : Nat → Nat
  | 0 => if 3 ≤ P s 0 then 1 else 0
  | k + 1 => dpi P s k + (if 3 ≤ P s 0 ∧ 3 ≤ P k 0 ∧ s < P k 6 then 1 else 0)
theorem dpi_t {P : Nat → Nat → Nat} {s k : Nat} (h : 3 ≤ P s 0 ∧ 3 ≤ P k 0 ∧ s < P k 6) : dpi P s (k + 1) = dpi P s k + 1 := by
  show dpi P s k + _ = _
  rw [if_pos h]
theorem dpi_f {P : Nat → Nat → Nat} {s k : Nat} (h : ¬ (3 ≤ P s 0 ∧ 3 ≤ P k 0 ∧ s < P k 6)) : dpi P s (k + 1) = dpi P s k + 0 := by
  show dpi P s k + _ = _
  rw [if_neg h]
theorem dpi_le (P : Nat → Nat → Nat) (s : Nat) : ∀ k, dpi P s k ≤ k + 1
  | 0 => by unfold dpi; split <;> omega
  | k + 1 => by
    have := dpi_le P s k
    unfold dpi
    split <;> omega
def dpm (P : Nat → Nat → Nat) : Nat → Nat
  | 0 => 0
  | s + 1 => if dpm P s < dpi P s s then dpi P s s else dpm P s
theorem dpm_le (P : Nat → Nat → Nat) : ∀ s, dpm P s ≤ s + 1
  | 0 => by unfold dpm; omega
  | s + 1 => by
    have := dpm_le P s
    have := dpi_le P s s
    unfold dpm
    split <;> omega