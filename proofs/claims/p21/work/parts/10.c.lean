/-! SETS AS BITS (its first rows began from the kit's rows to paste), and what holds of the numbers of a program -/
def bt (x : Int32) (i : Nat) : Bool := x.toBitVec.getLsbD i
theorem b_ext {x y : Int32} (h : ∀ i, i < 32 → bt x i = bt y i) : x = y := Int32.toBitVec_inj.mp (BitVec.eq_of_getLsbD_eq (fun i hi => h i hi))
theorem b_or (x y : Int32) (i : Nat) : bt (x ||| y) i = (bt x i || bt y i) := by unfold bt; rw [Int32.toBitVec_or, BitVec.getLsbD_or]
theorem b_and (x y : Int32) (i : Nat) : bt (x &&& y) i = (bt x i && bt y i) := by unfold bt; rw [Int32.toBitVec_and, BitVec.getLsbD_and]
theorem b_xor (x y : Int32) (i : Nat) : bt (x ^^^ y) i = (bt x i ^^ bt y i) := by unfold bt; rw [Int32.toBitVec_xor, BitVec.getLsbD_xor]
theorem b_m1 : ∀ i, i < 32 → bt (-1) i = true := by decide +kernel
theorem b_0 (i : Nat) : bt 0 i = false := BitVec.getLsbD_zero
theorem s_l : ∀ n, n < 32 → ((nI n &&& 31).toBitVec.smod 32).toNat = n := by decide +kernel
theorem b_shl (n : Nat) (hn : n < 32) (x : Int32) {i : Nat} (hi : i < 32) : bt (x <<< (nI n &&& 31)) i = (decide (n ≤ i) && bt x (i - n)) := by
  unfold bt
  rw [Int32.toBitVec_shiftLeft]
  show (x.toBitVec <<< ((nI n &&& 31).toBitVec.smod 32).toNat).getLsbD i = _
  rw [s_l n hn, BitVec.getLsbD_shiftLeft]
  rcases Nat.lt_or_ge i n with h | h
  · simp [h, Nat.not_le.mpr h]
  · simp [hi, h, Nat.not_lt.mpr h]
theorem b_sshr (n : Nat) (hn : n < 32) (x : Int32) {i : Nat} (hi : i < 32) : bt (x >>> (nI n &&& 31)) i = if n + i < 32 then bt x (n + i) else bt x 31 := by
  unfold bt
  rw [Int32.toBitVec_shiftRight]
  show (x.toBitVec.sshiftRight ((nI n &&& 31).toBitVec.smod 32).toNat).getLsbD i = _
  rw [s_l n hn, BitVec.getLsbD_sshiftRight, BitVec.msb_eq_getLsbD_last]
  simp [hi]
theorem b_1 : ∀ i, i < 32 → bt (nI 1) i = decide (i = 0) := by decide +kernel
theorem b_n0 (i : Nat) : bt (nI 0) i = false := b_0 i
/-- one bit alone -/
theorem b_one {c i : Nat} (hc : c < 32) (hi : i < 32) : bt (nI 1 <<< (nI c &&& 31)) i = decide (i = c) := by
  rw [b_shl c hc _ hi, b_1 _ (by omega)]
  by_cases h : c ≤ i
  · rw [decide_eq_true h, Bool.true_and]
    exact decide_eq_decide.mpr (by omega)
  · rw [decide_eq_false h, Bool.false_and, decide_eq_false (by omega)]
/-- a bit asked for -/
theorem b_get (x : Int32) {c : Nat} (hc : c < 31) : (x >>> (nI c &&& 31)) &&& nI 1 = if bt x c = true then nI 1 else nI 0 := by
  refine b_ext (fun i hi => ?_)
  rw [b_and, b_1 _ hi]
  by_cases h0 : i = 0
  · subst h0
    rw [decide_eq_true rfl, Bool.and_true, b_sshr c (by omega) x hi, if_pos (by omega), Nat.add_zero]
    split
    · rename_i h; rw [h, b_1 0 (by omega)]; rfl
    · rename_i h; rw [Bool.eq_false_iff.mpr h, b_n0]
  · rw [decide_eq_false h0, Bool.and_false]
    split
    · rw [b_1 _ hi, decide_eq_false h0]
    · rw [b_n0]
theorem setb_bt {P : Nat → Nat → Nat} {i : Nat} (hi : i < 32) : ∀ n, (∀ s, s < n → P s 1 < 6) → (bt (setb P n) i = true ↔ ∃ s, s < n ∧ P s 0 = 0 ∧ P s 1 = i)
  | 0, _ => by
    rw [show setb P 0 = nI 0 from rfl, b_n0]
    exact ⟨fun h => Bool.noConfusion h, fun ⟨s, h, _⟩ => absurd h (Nat.not_lt_zero s)⟩
  | n + 1, h => by
    have ih := setb_bt hi n (fun s hs => h s (by omega))
    have hc := h n (by omega)
    rw [setb_s, b_or, Bool.or_eq_true, ih]
    by_cases h0 : P n 0 = 0
    · rw [if_pos h0, b_one (by omega) hi, decide_eq_true_eq]
      refine ⟨fun q => ?_, fun ⟨s, h1, h2, h3⟩ => ?_⟩
      · rcases q with ⟨s, h1, h2, h3⟩ | q
        · exact ⟨s, by omega, h2, h3⟩
        · exact ⟨n, by omega, h0, q.symm⟩
      · by_cases e : s = n
        · subst e; exact Or.inr h3.symm
        · exact Or.inl ⟨s, by omega, h2, h3⟩
    · rw [if_neg h0, b_n0]
      refine ⟨fun q => ?_, fun ⟨s, h1, h2, h3⟩ => ?_⟩
      · rcases q with ⟨s, h1, h2, h3⟩ | q
        · exact ⟨s, by omega, h2, h3⟩
        · cases q
      · by_cases e : s = n
        · subst e; exact absurd h2 h0
        · exact Or.inl ⟨s, by omega, h2, h3⟩
theorem cntk_pos {P : Nat → Nat → Nat} {k : Nat} : ∀ n, 0 < cntk P k n ↔ ∃ s, s < n ∧ P s 0 = k
  | 0 => ⟨fun h => absurd h (Nat.lt_irrefl 0), fun ⟨s, h, _⟩ => absurd h (Nat.not_lt_zero s)⟩
  | n + 1 => by
    have ih := cntk_pos (P := P) (k := k) n
    by_cases h0 : P n 0 = k
    · rw [cntk_t h0]
      exact ⟨fun _ => ⟨n, by omega, h0⟩, fun _ => by omega⟩
    · rw [cntk_f h0, Nat.add_zero, ih]
      refine ⟨fun ⟨s, h1, h2⟩ => ⟨s, by omega, h2⟩, fun ⟨s, h1, h2⟩ => ⟨s, ?_, h2⟩⟩
      have : s ≠ n := fun e => h0 (e ▸ h2)
      omega
theorem setb_0 {P : Nat → Nat → Nat} {n : Nat} (h : ∀ s, s < n → P s 1 < 6) : setb P n = nI 0 ↔ cntk P 0 n = 0 := by
  refine ⟨fun e => ?_, fun e => b_ext (fun i hi => ?_)⟩
  · rcases Nat.eq_zero_or_pos (cntk P 0 n) with h0 | h0
    · exact h0
    · obtain ⟨s, h1, h2⟩ := (cntk_pos n).mp h0
      have h3 := (setb_bt (i := P s 1) (by have := h s h1; omega) n h).mpr ⟨s, h1, h2, rfl⟩
      rw [e, b_n0] at h3
      cases h3
  · rw [b_n0]
    refine Bool.eq_false_iff.mpr (fun h3 => ?_)
    obtain ⟨s, h1, h2, -⟩ := (setb_bt hi n h).mp h3
    have := (cntk_pos n).mpr ⟨s, h1, h2⟩
    omega
/-- statements are counted by their kinds -/
theorem cntk_sum {P : Nat → Nat → Nat} : ∀ n, (∀ s, s < n → P s 0 ≤ 4) → cntk P 0 n + cntk P 1 n + cntk P 2 n + cntk P 3 n + cntk P 4 n = n
  | 0, _ => rfl
  | n + 1, h => by
    have ih := cntk_sum n (fun s hs => h s (by omega))
    have h4 := h n (by omega)
    unfold cntk
    rcases (show P n 0 = 0 ∨ P n 0 = 1 ∨ P n 0 = 2 ∨ P n 0 = 3 ∨ P n 0 = 4 by omega) with e | e | e | e | e <;> rw [e] <;> simp <;> omega
/-- how many nest among the first ones -/
def nst (P : Nat → Nat → Nat) (n : Nat) : Nat := cntk P 3 n + cntk P 4 n
theorem nst_s {P : Nat → Nat → Nat} {k : Nat} (h : 3 ≤ P k 0) (h4 : P k 0 ≤ 4) : nst P (k + 1) = nst P k + 1 := by
  unfold nst
  rcases (show P k 0 = 3 ∨ P k 0 = 4 by omega) with e | e
  · rw [cntk_t e, cntk_f (by omega)]; omega
  · rw [cntk_f (by omega), cntk_t e]; omega
theorem nst_m {P : Nat → Nat → Nat} {j : Nat} : ∀ k, j ≤ k → nst P j ≤ nst P k
  | 0, h => by rw [show j = 0 from by omega]; exact Nat.le_refl _
  | k + 1, h => by
    by_cases e : j = k + 1
    · rw [e]; exact Nat.le_refl _
    · have := nst_m (P := P) (j := j) k (by omega)
      have h1 : nst P k ≤ nst P (k + 1) := by
        show cntk P 3 k + cntk P 4 k ≤ (cntk P 3 k + _) + (cntk P 4 k + _)
        omega
      omega
theorem dep_nst {n : Nat} {P : Nat → Nat → Nat} (hO : okP n P) : ∀ s, s ≤ n → dep P s s ≤ nst P s := by
  intro s
  induction s using Nat.strongRecOn with
  | _ s ih =>
    intro hs
    cases h : outr P s s with
    | zero => rw [dep_0 h]; exact Nat.zero_le _
    | succ k =>
      obtain ⟨h1, h2, -, -⟩ := outr_k h
      have := ih k h1 (by omega)
      rw [dep_k h]
      have h3 := nst_s (P := P) (k := k) h2 (hO.2 k (by omega)).1
      have h4 := nst_m (P := P) s (show k + 1 ≤ s by omega)
      omega
/-- how deep a program is nested -/
theorem dpm_b {n : Nat} {P : Nat → Nat → Nat} (hW : wfP n P) : ∀ k, k ≤ n → dpm P k ≤ 5 ∧ dpm P k ≤ nst P k ∧ (0 < nst P k → 0 < dpm P k)
  | 0, _ => ⟨Nat.zero_le _, Nat.zero_le _, fun h => absurd h (Nat.lt_irrefl 0)⟩
  | k + 1, hk => by
    obtain ⟨a, b, c⟩ := dpm_b hW k (by omega)
    by_cases h3 : 3 ≤ P k 0
    · have h4 := (hW.1.2 k (by omega)).1
      have e := nst_s h3 h4
      have hd := dep_nst hW.1 k (by omega)
      have hd4 := hW.2.2 k (by omega) h3
      rw [dpm_t hW.1 hW.2.1 (by omega) h3, e]
      split <;> omega
    · have e : nst P (k + 1) = nst P k := by
        unfold nst
        rw [cntk_f (by omega), cntk_f (by omega)]
        rfl
      rw [dpm_f h3, e]
      exact ⟨a, b, c⟩
