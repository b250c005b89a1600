theorem i9 : (nI 9).toInt = 9 := nt 9 (by omega)
theorem im9 : (-9 : Int32).toInt = -9 := by decide +kernel
theorem nidx {lo hi : Int32} {i : Nat} (h : -9 ≤ lo.toInt) (h2 : lo.toInt ≤ hi.toInt) (h3 : hi.toInt ≤ 9) (hi' : i ≤ wid lo hi) : (hi < av lo i ↔ ¬ i < wid lo hi) := by
  have hw : ((wid lo hi : Nat) : Int) = hi.toInt - lo.toInt + 1 := by unfold wid; omega
  rw [i_lt, av_i h (by omega) (by omega)]
  omega
theorem wid_le {lo hi : Int32} (h : -9 ≤ lo.toInt) (h2 : lo.toInt ≤ hi.toInt) (h3 : hi.toInt ≤ 9) : wid lo hi ≤ 19 := by unfold wid; omega
theorem agC_n {g : Nat → Nat → Bool} {s : Nat × Option (Nat × Nat)} {i : Nat} : ∀ j, (agC g s i j).1 ≤ s.1 + j
  | 0 => Nat.le_refl _
  | j + 1 => by
    have := agC_n (g := g) (s := s) (i := i) j
    show (agN (agC g s i j) i j (g i j)).1 ≤ _
    cases g i j with
    | true => show (agC g s i j).1 + 1 ≤ _; omega
    | false => show (agC g s i j).1 ≤ _; omega
theorem agC_s {g : Nat → Nat → Bool} {s : Nat × Option (Nat × Nat)} {i j : Nat} : agC g s i (j + 1) = agN (agC g s i j) i j (g i j) := rfl