/-! RUNS, as numbers: the statement around, what follows, one step, a run -/
def outr (P : Nat → Nat → Nat) (s : Nat) : Nat → Nat
  | 0 => 0
  | j + 1 => if 3 ≤ P j 0 ∧ s < P j 6 then j + 1 else outr P s j
theorem outr_s (P : Nat → Nat → Nat) (s j : Nat) : outr P s (j + 1) = if 3 ≤ P j 0 ∧ s < P j 6 then j + 1 else outr P s j := rfl
theorem outr_le (P : Nat → Nat → Nat) (s : Nat) : ∀ j, outr P s j ≤ j
  | 0 => Nat.le_refl _
  | j + 1 => by
    rw [outr_s]
    have := outr_le P s j
    split <;> omega
/-- the innermost of those below j: it goes round s, and none between does -/
theorem outr_k {P : Nat → Nat → Nat} {s k : Nat} : ∀ {j : Nat}, outr P s j = k + 1 → k < j ∧ 3 ≤ P k 0 ∧ s < P k 6 ∧ ∀ i, k < i → i < j → ¬ (3 ≤ P i 0 ∧ s < P i 6)
  | 0, h => by cases h
  | j + 1, h => by
    rw [outr_s] at h
    by_cases e : 3 ≤ P j 0 ∧ s < P j 6
    · rw [if_pos e] at h
      have : j = k := by omega
      subst this
      exact ⟨by omega, e.1, e.2, fun i h1 h2 => by omega⟩
    · rw [if_neg e] at h
      obtain ⟨h1, h2, h3, h4⟩ := outr_k h
      refine ⟨by omega, h2, h3, fun i g1 g2 => ?_⟩
      by_cases e2 : i = j
      · subst e2; exact e
      · exact h4 i g1 (by omega)
theorem outr_0 {P : Nat → Nat → Nat} {s : Nat} : ∀ {j : Nat}, outr P s j = 0 → ∀ i, i < j → ¬ (3 ≤ P i 0 ∧ s < P i 6)
  | 0, _, i, hi => by omega
  | j + 1, h, i, hi => by
    rw [outr_s] at h
    by_cases e : 3 ≤ P j 0 ∧ s < P j 6
    · rw [if_pos e] at h; omega
    · rw [if_neg e] at h
      by_cases e2 : i = j
      · subst e2; exact e
      · exact outr_0 h i (by omega)
theorem outr_is {P : Nat → Nat → Nat} {s k : Nat} : ∀ {j : Nat}, k < j → 3 ≤ P k 0 → s < P k 6 → (∀ i, k < i → i < j → ¬ (3 ≤ P i 0 ∧ s < P i 6)) → outr P s j = k + 1
  | 0, h, _, _, _ => by omega
  | j + 1, h, h2, h3, h4 => by
    rw [outr_s]
    by_cases e : j = k
    · subst e; rw [if_pos ⟨h2, h3⟩]
    · rw [if_neg (h4 j (by omega) (by omega))]
      exact outr_is (by omega) h2 h3 (fun i g1 g2 => h4 i g1 (by omega))
theorem outr_is0 {P : Nat → Nat → Nat} {s : Nat} : ∀ {j : Nat}, (∀ i, i < j → ¬ (3 ≤ P i 0 ∧ s < P i 6)) → outr P s j = 0
  | 0, _ => rfl
  | j + 1, h => by
    rw [outr_s, if_neg (h j (by omega))]
    exact outr_is0 (fun i g => h i (by omega))
def amid (P : Nat → Nat → Nat) (k : Nat) : Nat := if P k 0 = 3 then P k 6 else P k 5
def folF (P : Nat → Nat → Nat) : Nat → Nat → Nat
  | 0, s => pend P s
  | g + 1, s => match outr P s s with
    | 0 => pend P s
    | k + 1 => if pend P s < (if s < amid P k then amid P k else P k 6) then pend P s else if P k 0 = 3 then k else folF P g k
def fol (P : Nat → Nat → Nat) (s : Nat) : Nat := folF P s s
theorem folF_s (P : Nat → Nat → Nat) (g s : Nat) : folF P (g + 1) s = match outr P s s with
    | 0 => pend P s
    | k + 1 => if pend P s < (if s < amid P k then amid P k else P k 6) then pend P s else if P k 0 = 3 then k else folF P g k := rfl
theorem folF_any (P : Nat → Nat → Nat) : ∀ g s, s ≤ g → folF P g s = fol P s := by
  intro g
  induction g using Nat.strongRecOn with
  | _ g ih =>
    intro s hs
    by_cases e : g = s
    · subst e; rfl
    · cases g with
      | zero => omega
      | succ g =>
        rw [folF_s]
        unfold fol
        cases s with
        | zero =>
          rw [show outr P 0 0 = 0 from rfl]
          rfl
        | succ s =>
          rw [folF_s]
          cases h : outr P (s + 1) (s + 1) with
          | zero => rfl
          | succ k =>
            have hk := (outr_k h).1
            simp only
            rw [ih g (by omega) k (by omega), ih s (by omega) k (by omega)]
theorem fol_0 {P : Nat → Nat → Nat} {s : Nat} (h : outr P s s = 0) : fol P s = pend P s := by
  unfold fol
  cases s with
  | zero => rfl
  | succ s => rw [folF_s, h]
theorem fol_k {P : Nat → Nat → Nat} {s k : Nat} (h : outr P s s = k + 1) : fol P s = if pend P s < (if s < amid P k then amid P k else P k 6) then pend P s else if P k 0 = 3 then k else fol P k := by
  have hk := (outr_k h).1
  unfold fol
  cases s with
  | zero => omega
  | succ s =>
    rw [folF_s, h]
    simp only
    rw [folF_any P s k (by omega)]
    rfl
/-- a stack of d frames (loop or choice, end of its part), and s a place at its level -/
def topB (n : Nat) (fr : Nat → Nat × Nat) : Nat → Nat
  | 0 => n
  | d + 1 => (fr d).2
def stk (n : Nat) (P : Nat → Nat → Nat) (fr : Nat → Nat × Nat) : Nat → Nat → Prop
  | 0, s => s ≤ n ∧ (s < n → outr P s s = 0)
  | d + 1, s => stk n P fr d (fr d).1 ∧ (fr d).1 < topB n fr d ∧ ((P (fr d).1 0 = 3 ∧ (fr d).2 = P (fr d).1 6 ∧ (fr d).1 < s) ∨ (P (fr d).1 0 = 4 ∧ (fr d).2 = P (fr d).1 5 ∧ (fr d).1 < s) ∨ (P (fr d).1 0 = 4 ∧ (fr d).2 = P (fr d).1 6 ∧ P (fr d).1 5 ≤ s)) ∧ s ≤ (fr d).2 ∧ (s < (fr d).2 → outr P s s = (fr d).1 + 1)
def resP (P : Nat → Nat → Nat) (fr : Nat → Nat × Nat) : Nat → Nat → Nat
  | 0, s => s
  | d + 1, s => if s = (fr d).2 then (if P (fr d).1 0 = 3 then (fr d).1 else resP P fr d (P (fr d).1 6)) else s
def dep (P : Nat → Nat → Nat) : Nat → Nat → Nat
  | 0, _ => 0
  | g + 1, s => match outr P s s with
    | 0 => 0
    | k + 1 => dep P g k + 1
def wfP (n : Nat) (P : Nat → Nat → Nat) : Prop := okP n P ∧ lam n P ∧ ∀ s, s < n → 3 ≤ P s 0 → dep P s s ≤ 4
theorem dep_any (P : Nat → Nat → Nat) : ∀ g s, s ≤ g → dep P g s = dep P s s := by
  intro g
  induction g using Nat.strongRecOn with
  | _ g ih =>
    intro s hs
    by_cases e : g = s
    · subst e; rfl
    · cases g with
      | zero => omega
      | succ g =>
        cases s with
        | zero =>
          show (match outr P 0 0 with | 0 => 0 | k + 1 => dep P g k + 1) = 0
          rfl
        | succ s =>
          show (match outr P (s + 1) (s + 1) with | 0 => 0 | k + 1 => dep P g k + 1) = (match outr P (s + 1) (s + 1) with | 0 => 0 | k + 1 => dep P s k + 1)
          cases h : outr P (s + 1) (s + 1) with
          | zero => rfl
          | succ k =>
            have hk := (outr_k h).1
            simp only
            rw [ih g (by omega) k (by omega), ih s (by omega) k (by omega)]
theorem dep_0 {P : Nat → Nat → Nat} {s : Nat} (h : outr P s s = 0) : dep P s s = 0 := by
  cases s with
  | zero => rfl
  | succ s =>
    show (match outr P (s + 1) (s + 1) with | 0 => 0 | k + 1 => dep P s k + 1) = 0
    rw [h]
theorem dep_k {P : Nat → Nat → Nat} {s k : Nat} (h : outr P s s = k + 1) : dep P s s = dep P k k + 1 := by
  have hk := (outr_k h).1
  cases s with
  | zero => omega
  | succ s =>
    show (match outr P (s + 1) (s + 1) with | 0 => 0 | k + 1 => dep P s k + 1) = _
    rw [h]
    show dep P s k + 1 = _
    rw [dep_any P s k (by omega)]
theorem pend_gt {n s : Nat} {P : Nat → Nat → Nat} (hO : okP n P) (hs : s < n) : s < pend P s ∧ pend P s ≤ n := by
  have := psz_bd hO hs
  omega
theorem stk_le {n : Nat} {P : Nat → Nat → Nat} {fr : Nat → Nat × Nat} (hO : okP n P) : ∀ {d s : Nat}, stk n P fr d s → s ≤ topB n fr d ∧ topB n fr d ≤ n
  | 0, s, h => ⟨h.1, Nat.le_refl _⟩
  | d + 1, s, h => by
    obtain ⟨h1, h2, h3, h4, h5⟩ := h
    have h6 := stk_le hO h1
    have hk : (fr d).1 < n := by omega
    obtain ⟨-, -, -, -, -, o6, o5⟩ := hO.2 _ hk
    refine ⟨h4, ?_⟩
    show (fr d).2 ≤ n
    rcases h3 with ⟨a, b, c⟩ | ⟨a, b, c⟩ | ⟨a, b, c⟩
    · have := o6 (by omega); omega
    · have := o6 (by omega); have := o5 a; omega
    · have := o6 (by omega); omega
theorem stk_lt {n : Nat} {P : Nat → Nat → Nat} {fr : Nat → Nat × Nat} (hO : okP n P) {d s : Nat} (h : stk n P fr d s) (hs : s < topB n fr d) : s < n := by
  have := stk_le hO h
  omega
/-- what follows a statement is where its end leads -/
theorem fol_res {n : Nat} {P : Nat → Nat → Nat} {fr : Nat → Nat × Nat} (hO : okP n P) (hL : lam n P) : ∀ {d x : Nat}, stk n P fr d x → x < topB n fr d → fol P x = resP P fr d (pend P x)
  | 0, x, h, hx => fol_0 (h.2 hx)
  | d + 1, x, h, hx => by
    obtain ⟨h1, h2, h3, h4, h5⟩ := id h
    have hxn := stk_lt hO h hx
    have hx : x < (fr d).2 := hx
    have ho := h5 hx
    obtain ⟨q1, q2, q3, q4⟩ := outr_k ho
    have hk : (fr d).1 < n := by omega
    have hlam := hL _ _ q1 hxn q2
    have hpart : (if x < amid P (fr d).1 then amid P (fr d).1 else P (fr d).1 6) = (fr d).2 := by
      rcases h3 with ⟨a, b, c⟩ | ⟨a, b, c⟩ | ⟨a, b, c⟩
      · rw [show amid P (fr d).1 = P (fr d).1 6 from if_pos a, if_pos (by omega), b]
      · rw [show amid P (fr d).1 = P (fr d).1 5 from if_neg (by omega), if_pos (by omega), b]
      · rw [show amid P (fr d).1 = P (fr d).1 5 from if_neg (by omega), if_neg (by omega), b]
    have hle : pend P x ≤ (fr d).2 := by
      rcases h3 with ⟨a, b, c⟩ | ⟨a, b, c⟩ | ⟨a, b, c⟩
      · rw [b]; exact hlam.1 (by omega)
      · rw [b]; exact hlam.2 a (by omega)
      · rw [b]; exact hlam.1 (by omega)
    rw [fol_k ho, hpart]
    show _ = if pend P x = (fr d).2 then (if P (fr d).1 0 = 3 then (fr d).1 else resP P fr d (P (fr d).1 6)) else pend P x
    by_cases e : pend P x = (fr d).2
    · rw [if_neg (by omega), if_pos e]
      by_cases e3 : P (fr d).1 0 = 3
      · rw [if_pos e3, if_pos e3]
      · rw [if_neg e3, if_neg e3, fol_res hO hL h1 h2, show pend P (fr d).1 = P (fr d).1 6 from if_pos q2]
    · rw [if_pos (by omega), if_neg e]
/-- the next one beside it has the same around it -/
theorem outr_sib {n x : Nat} {P : Nat → Nat → Nat} (hO : okP n P) (hL : lam n P) (hx : x < n) : (outr P x x = 0 → outr P (pend P x) (pend P x) = 0) ∧ ∀ k, outr P x x = k + 1 → pend P x < P k 6 → outr P (pend P x) (pend P x) = k + 1 := by
  have hp := pend_gt hO hx
  have key : ∀ i, x ≤ i → i < pend P x → ¬ (3 ≤ P i 0 ∧ pend P x < P i 6) := by
    intro i h1 h2 h3
    by_cases e : i = x
    · subst e
      rw [show pend P i = P i 6 from if_pos h3.1] at h3
      omega
    · by_cases e3 : 3 ≤ P x 0
      · have := (hL x i (by omega) (by omega) e3).1 (by rw [show pend P x = P x 6 from if_pos e3] at h2; exact h2)
        rw [show pend P i = P i 6 from if_pos h3.1] at this
        rw [show pend P x = P x 6 from if_pos e3] at h3
        omega
      · rw [show pend P x = x + 1 from if_neg e3] at h2
        omega
  refine ⟨fun h => outr_is0 fun i hi h3 => ?_, fun k h hk => ?_⟩
  · by_cases e : i < x
    · exact outr_0 h i e ⟨h3.1, by omega⟩
    · exact key i (by omega) hi h3
  · obtain ⟨q1, q2, q3, q4⟩ := outr_k h
    refine outr_is (by omega) q2 hk (fun i g1 g2 h3 => ?_)
    by_cases e : i < x
    · exact q4 i g1 e ⟨h3.1, by omega⟩
    · exact key i (by omega) g2 h3
theorem stk_sib {n : Nat} {P : Nat → Nat → Nat} {fr : Nat → Nat × Nat} (hO : okP n P) (hL : lam n P) {d x : Nat} (h : stk n P fr d x) (hx : x < topB n fr d) : stk n P fr d (pend P x) := by
  have hxn := stk_lt hO h hx
  have hp := pend_gt hO hxn
  have hsib := outr_sib hO hL hxn
  cases d with
  | zero => exact ⟨hp.2, fun _ => hsib.1 (h.2 hx)⟩
  | succ d =>
    obtain ⟨h1, h2, h3, h4, h5⟩ := id h
    have hx : x < (fr d).2 := hx
    have ho := h5 hx
    obtain ⟨q1, q2, q3, q4⟩ := outr_k ho
    have hlam := hL _ _ q1 hxn q2
    have hk : (fr d).1 < n := by omega
    obtain ⟨-, -, -, -, -, o6, o5⟩ := hO.2 _ hk
    have hle : pend P x ≤ (fr d).2 ∧ (fr d).2 ≤ P (fr d).1 6 := by
      rcases h3 with ⟨a, b, c⟩ | ⟨a, b, c⟩ | ⟨a, b, c⟩
      · rw [b]; exact ⟨hlam.1 (by omega), Nat.le_refl _⟩
      · rw [b]; exact ⟨hlam.2 a (by omega), (o5 a).2⟩
      · rw [b]; exact ⟨hlam.1 (by omega), Nat.le_refl _⟩
    refine ⟨h1, h2, ?_, hle.1, fun h6 => hsib.2 _ ho (by omega)⟩
    rcases h3 with ⟨a, b, c⟩ | ⟨a, b, c⟩ | ⟨a, b, c⟩
    · exact Or.inl ⟨a, b, by omega⟩
    · exact Or.inr (Or.inl ⟨a, b, by omega⟩)
    · exact Or.inr (Or.inr ⟨a, b, by omega⟩)
/-- into a loop, into the first part of a choice, into the second one -/
theorem stk_in {n : Nat} {P : Nat → Nat → Nat} {fr : Nat → Nat × Nat} (hO : okP n P) (hL : lam n P) {d x u p : Nat} (h : stk n P fr d x) (hx : x < topB n fr d) (hf : fr d = (x, u)) (hp : (P x 0 = 3 ∧ u = P x 6 ∧ p = x + 1) ∨ (P x 0 = 4 ∧ u = P x 5 ∧ p = x + 1) ∨ (P x 0 = 4 ∧ u = P x 6 ∧ p = P x 5)) : stk n P fr (d + 1) p := by
  have hxn := stk_lt hO h hx
  obtain ⟨-, -, -, -, -, o6, o5⟩ := hO.2 _ hxn
  have e1 : (fr d).1 = x := by rw [hf]
  have e2 : (fr d).2 = u := by rw [hf]
  show stk n P fr d (fr d).1 ∧ _
  rw [e1, e2]
  refine ⟨h, hx, ?_, ?_, ?_⟩
  · rcases hp with ⟨a, b, c⟩ | ⟨a, b, c⟩ | ⟨a, b, c⟩
    · exact Or.inl ⟨a, b, by omega⟩
    · exact Or.inr (Or.inl ⟨a, b, by omega⟩)
    · exact Or.inr (Or.inr ⟨a, b, by omega⟩)
  · rcases hp with ⟨a, b, c⟩ | ⟨a, b, c⟩ | ⟨a, b, c⟩
    · have := o6 (by omega); omega
    · have := o5 a; omega
    · have := o5 a; omega
  · intro hlt
    rcases hp with ⟨a, b, c⟩ | ⟨a, b, c⟩ | ⟨a, b, c⟩
    · have := o6 (by omega)
      subst c
      exact outr_is (by omega) (by omega) (by omega) (fun i g1 g2 => by omega)
    · have := o5 a
      subst c
      exact outr_is (by omega) (by omega) (by omega) (fun i g1 g2 => by omega)
    · have := o5 a
      subst c
      refine outr_is (by omega) (by omega) (by omega) (fun i g1 g2 h3 => ?_)
      have h4 := (hL x i g1 (by have := o6 (by omega); omega) (by omega)).2 a g2
      rw [show pend P i = P i 6 from if_pos h3.1] at h4
      omega
theorem stk_dep {n : Nat} {P : Nat → Nat → Nat} {fr : Nat → Nat × Nat} : ∀ {d s : Nat}, stk n P fr d s → s < topB n fr d → dep P s s = d
  | 0, s, h, hs => dep_0 (h.2 hs)
  | d + 1, s, h, hs => by
    obtain ⟨h1, h2, h3, h4, h5⟩ := h
    rw [dep_k (h5 hs), stk_dep h1 h2]
