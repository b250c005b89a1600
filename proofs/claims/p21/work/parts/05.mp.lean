/-! READING, as a function of the text; and the reference's small readers -/
abbrev isL (c : Int32) : Prop := 97 ≤ c.toInt ∧ c.toInt ≤ 102
abbrev isDg (c : Int32) : Prop := 48 ≤ c.toInt ∧ c.toInt ≤ 57
def hr (t : Nat → Int32) (n a : Nat) : Int32 := ch t n (skp t n a)
def ceF (t : Nat → Int32) (n a : Nat) : Bool × Nat × Nat := if isL (hr t n a) then (true, skp t n a + 1, ix (hr t n a) - 97) else (false, skp t n a, 0)
def nuF (t : Nat → Int32) (n : Nat) : Nat → Nat → Nat → Nat × Nat
  | 0, a, v => (a, v)
  | g + 1, a, v => if a < n ∧ isDg (t a) then nuF t n g (a + 1) (10 * v + (ix (t a) - 48)) else (a, v)
def teF (t : Nat → Int32) (n a : Nat) : Bool × Nat × Nat := if isL (hr t n a) then (true, skp t n a + 1, ix (hr t n a) - 97) else if isDg (hr t n a) then (true, (nuF t n (if hr t n a = nI 48 then 1 else 3) (skp t n a) 0).1, 10 + (nuF t n (if hr t n a = nI 48 then 1 else 3) (skp t n a) 0).2) else (false, skp t n a, 0)
theorem hr_lt {t : Nat → Int32} {n a : Nat} (h : ¬ hr t n a = nI 0) : skp t n a < n := ch_lt h
theorem n0_i {c : Int32} {k : Nat} (h : (k : Int) ≤ c.toInt) (hk : 0 < k) : ¬ c = nI 0 := fun e => by rw [e, nt 0 (by omega)] at h; omega
theorem ix_i {c : Int32} (h : 0 ≤ c.toInt) : c = nI (ix c) ∧ ((ix c : Nat) : Int) = c.toInt := by
  obtain ⟨k, hk, rfl⟩ := k_of h
  rw [ix_n hk]
  exact ⟨rfl, (nt _ hk).symm⟩
theorem ix_sub {c : Int32} {k : Nat} (h : (k : Int) ≤ c.toInt) : c - nI k = nI (ix c - k) := by
  obtain ⟨e1, e2⟩ := ix_i (c := c) (by omega)
  have hb := i_rng c
  have hk : (nI k).toInt = k := nt _ (by omega)
  rw [i_eq, nt _ (by omega), i_sub (by omega) (by omega), hk]
  omega
theorem nuF_le (t : Nat → Int32) (n : Nat) : ∀ g a v, a ≤ n → a ≤ (nuF t n g a v).1 ∧ (nuF t n g a v).1 ≤ n ∧ (nuF t n g a v).2 + 1 ≤ 10 ^ g * (v + 1)
  | 0, a, v, h => ⟨Nat.le_refl _, h, by show v + 1 ≤ 10 ^ 0 * (v + 1); omega⟩
  | g + 1, a, v, h => by
    unfold nuF
    split
    · rename_i hc
      obtain ⟨h1, h2, h3⟩ := nuF_le t n g (a + 1) (10 * v + (ix (t a) - 48)) (by omega)
      have e2 := (ix_i (c := t a) (by omega)).2
      refine ⟨by omega, h2, Nat.le_trans h3 ?_⟩
      rw [Nat.pow_succ, Nat.mul_assoc]
      exact Nat.mul_le_mul_left _ (by omega)
    · refine ⟨Nat.le_refl _, h, ?_⟩
      show v + 1 ≤ _
      have : 1 ≤ 10 ^ (g + 1) := Nat.one_le_pow _ _ (by omega)
      calc v + 1 = 1 * (v + 1) := by omega
        _ ≤ 10 ^ (g + 1) * (v + 1) := Nat.mul_le_mul_right _ this
theorem nuF_gt (t : Nat → Int32) (n : Nat) (g a v : Nat) (h : a < n) (hd : isDg (t a)) : a < (nuF t n (g + 1) a v).1 := by
  unfold nuF
  rw [if_pos ⟨h, hd⟩]
  have := (nuF_le t n g (a + 1) (10 * v + (ix (t a) - 48)) (by omega)).1
  omega
theorem ceF_b {t : Nat → Int32} {n a : Nat} (h : a ≤ n) : (ceF t n a).2.1 ≤ n ∧ a ≤ (ceF t n a).2.1 ∧ (ceF t n a).2.2 < 6 ∧ ((ceF t n a).1 = true → a < (ceF t n a).2.1) := by
  have h1 := (skp_ge t n _ a rfl)
  have h2 := h1.2 h
  unfold ceF
  split
  · rename_i hl
    have h3 := hr_lt (n0_i (k := 97) hl.1 (by omega))
    have h4 := (ix_i (c := hr t n a) (by omega)).2
    refine ⟨?_, ?_, ?_, fun _ => ?_⟩
    · show skp t n a + 1 ≤ n; omega
    · show a ≤ skp t n a + 1; omega
    · show ix (hr t n a) - 97 < 6; omega
    · show a < skp t n a + 1; omega
  · exact ⟨h2, h1.1, by show 0 < 6; omega, fun q => by cases q⟩
theorem teF_b {t : Nat → Int32} {n a : Nat} (h : a ≤ n) : (teF t n a).2.1 ≤ n ∧ a ≤ (teF t n a).2.1 ∧ ((teF t n a).1 = true → okT (teF t n a).2.2) := by
  have h1 := (skp_ge t n _ a rfl)
  have h2 := h1.2 h
  unfold teF
  split
  · rename_i hl
    have h3 := hr_lt (n0_i (k := 97) hl.1 (by omega))
    have h4 := (ix_i (c := hr t n a) (by omega)).2
    refine ⟨?_, ?_, fun _ => Or.inl ?_⟩
    · show skp t n a + 1 ≤ n; omega
    · show a ≤ skp t n a + 1; omega
    · show ix (hr t n a) - 97 < 6; omega
  · split
    · rename_i hl
      obtain ⟨h5, h6, h7⟩ := nuF_le t n (if hr t n a = nI 48 then 1 else 3) (skp t n a) 0 h2
      have h8 : 10 ^ (if hr t n a = nI 48 then 1 else 3) ≤ 1000 := by split <;> decide
      refine ⟨h6, Nat.le_trans h1.1 h5, fun _ => Or.inr ⟨?_, ?_⟩⟩
      · show 10 ≤ 10 + _; omega
      · show 10 + _ ≤ 1009; omega
    · exact ⟨h2, h1.1, fun q => by cases q⟩
def rdP (μ ν : xS) (n : Nat) (F : Bool × Nat × Nat) (j : Nat) : Prop := (∀ w, w ≠ 5 → w ≠ 6 → ν w = μ w) ∧ pst ν n F.2.1 ∧ (F.1 = true → ν 5 = upd (μ 5) j (nI F.2.2)) ∧ (F.1 = false → ν 5 = μ 5)
theorem btr {b : Bool} : b2i (b = true) = b2i (b = true) := rfl
theorem b2b {p : Prop} [Decidable p] {b : Bool} (h : p ↔ b = true) : b2i p = b2i (b = true) := b2i_iff h
theorem digit_a {c : Int32} {v : Nat} (h : 0 ≤ c.toInt) : nI v + c = nI (v + ix c) := by
  rw [← nI_add, ← (ix_i h).1]
theorem digit_s {v x : Nat} (h : 48 ≤ x) : nI (v + x) - nI 48 = nI (v + (x - 48)) := by
  rw [show v + x = (v + (x - 48)) + 48 from by omega, ← nI_add, Int32.add_sub_cancel]