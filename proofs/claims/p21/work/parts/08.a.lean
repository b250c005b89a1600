/-! BOTH SIDES in numbers: the reference's state, and what each call makes of it -/
section
variable {μ ν : xS} {t : Nat → Int32} {n sv : Nat} {N : Nat → Nat} {P : Nat → Nat → Nat → Nat} {HN : Nat → Nat → Nat} {HP : Nat → Nat → Nat → Nat → Nat}
theorem AI.app {c : Int32} (h : AI t n sv N P HN HP) (hn : n < 120) (hc : 1 ≤ c.toInt) : AI (upd t n c) (n + 1) sv N P HN HP := ⟨by omega, fun i hi => by
    unfold upd
    split
    · omega
    · exact h.2.1 i (by omega), h.2.2⟩
theorem AI.clr (h : AI t n sv N P HN HP) : AI t 0 sv N P HN HP := ⟨by omega, fun i hi => by omega, h.2.2⟩
theorem AI.save (h : AI t n sv N P HN HP) : AI t n (spu sv) N P (hpu HN sv N) (hpu HP sv P) := by
  have h5 := h.2.2.1
  refine ⟨h.1, h.2.1, by unfold spu; split <;> omega, h.2.2.2.1, fun k hk i hi => ?_⟩
  unfold spu at hk
  unfold hpu
  by_cases e : sv = 5
  · rw [if_pos e] at hk ⊢
    by_cases ek : k = 4
    · rw [if_pos ek, if_pos ek]; exact h.2.2.2.1 i hi
    · rw [if_neg ek, if_pos e, if_neg ek]; exact h.2.2.2.2 _ (by omega) i hi
  · rw [if_neg e] at hk ⊢
    by_cases ek : k = sv
    · rw [if_pos ek, if_pos ek]; exact h.2.2.2.1 i hi
    · rw [if_neg ek, if_neg e, if_neg ek]; exact h.2.2.2.2 _ (by omega) i hi
theorem AI.set {p n' : Nat} {P' : Nat → Nat → Nat} (h : AI t n sv N P HN HP) (hw : wfP n' P') : AI t n sv (set1 N p n') (set1 P p P') HN HP := ⟨h.1, h.2.1, h.2.2.1, fun i hi => by
    unfold set1
    by_cases e : i = p
    · rw [if_pos e, if_pos e]; exact hw
    · rw [if_neg e, if_neg e]; exact h.2.2.2.1 i hi, h.2.2.2.2⟩
theorem AI.sw (h : AI t n sv N P HN HP) : AI t n sv (fun i => N (psw i)) (fun i => P (psw i)) HN HP := ⟨h.1, h.2.1, h.2.2.1, fun i hi => h.2.2.2.1 (psw i) (by rcases (show i = 0 ∨ i = 1 by omega) with rfl | rfl <;> decide), h.2.2.2.2⟩
theorem AI.ba {k : Nat} (h : AI t n (k + 1) N P HN HP) : AI t n k (HN k) (HP k) HN HP := ⟨h.1, h.2.1, by have := h.2.2.1; omega, fun i hi => h.2.2.2.2 k (by omega) i hi, fun j hj i hi => h.2.2.2.2 j (by omega) i hi⟩
end
