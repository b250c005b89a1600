theorem xX.drop {G : xG} {d : Nat} {y : xY} {r0 lim : Nat × Nat} {Φ : xF} {ls : List (Nat × Value)} {st : List Value} {M : xM} {pc : Nat} (i : Nat) (k : xX G d y r0 lim Φ pc (ls.filter (fun q => !(Nat.beq q.1 i))) st M) : xX G d y r0 lim Φ pc ls st M := by
  intro p e R s m args below meth c Zf H locs lo hΦ hC hw hS hl hb
  exact k p e R s m args below meth c Zf H locs lo hΦ hC hw hS ⟨⟨hl.1.1, hl.1.2.1, fun q hq => hl.1.2.2 q (List.mem_filter.mp hq).1⟩, fun q hq => hl.2 q (List.mem_filter.mp hq).1⟩ hb
theorem isPg.congr {row : Nat → Int32} {n : Nat} {P P' : Nat → Nat → Nat} (h : ∀ s w, s < n → w < 7 → P s w = P' s w) (hP : isPg row n P) : isPg row n P' := ⟨hP.1, fun s w hs hw => by rw [hP.2 s w hs hw, h s w hs hw]⟩
theorem isPg.up {row : Nat → Int32} {n s w v : Nat} {P : Nat → Nat → Nat} (hP : isPg row n P) (hw : w < 7) : isPg (upd row (1 + 7 * s + w) (nI v)) n (fun j u => if j = s ∧ u = w then v else P j u) := by
  refine ⟨?_, fun j u hj hu => ?_⟩
  · unfold upd
    rw [if_neg (by omega)]
    exact hP.1
  · unfold upd
    show _ = nI (if j = s ∧ u = w then v else P j u)
    by_cases e : j = s ∧ u = w
    · rw [if_pos e, if_pos (by obtain ⟨rfl, rfl⟩ := e; rfl)]
    · rw [if_neg e, if_neg (by omega)]
      exact hP.2 j u hj hu
def pend (P : Nat → Nat → Nat) (s : Nat) : Nat := if 3 ≤ P s 0 then P s 6 else s + 1
def psz (P : Nat → Nat → Nat) (s : Nat) : Nat := if 3 ≤ P s 0 then P s 6 - s else 1
/-- what is nested lies within -/
def lam (n : Nat) (P : Nat → Nat → Nat) : Prop := ∀ j k, j < k → k < n → 3 ≤ P j 0 → (k < P j 6 → pend P k ≤ P j 6) ∧ (P j 0 = 4 → k < P j 5 → pend P k ≤ P j 5)
def pc0 (P : Nat → Nat → Nat) (s z j w : Nat) : Nat := if w = 6 ∧ (3 ≤ P j 0 ∧ (j < s ∨ s + z ≤ j)) ∧ s < P j 6 then P j 6 - z else if w = 5 ∧ (3 ≤ P j 0 ∧ (j < s ∨ s + z ≤ j)) ∧ P j 0 = 4 ∧ s < P j 5 then P j 5 - z else P j w
def pc1 (P : Nat → Nat → Nat) (s z k : Nat) : Nat → Nat → Nat := fun j w => if j < k then pc0 P s z j w else P j w
def pc2 (P : Nat → Nat → Nat) (s z k : Nat) : Nat → Nat → Nat := fun j w => if s ≤ j ∧ j < k then pc0 P s z (j + z) w else pc0 P s z j w
def pc3 (P : Nat → Nat → Nat) (s z k c : Nat) : Nat → Nat → Nat := fun j w => if j = k ∧ w < c then pc0 P s z (j + z) w else pc2 P s z k j w
/-- the program without its statement s and what is in it -/
def pcut (P : Nat → Nat → Nat) (s : Nat) : Nat → Nat → Nat := fun j w => if j < s then pc0 P s (psz P s) j w else pc0 P s (psz P s) (j + psz P s) w
theorem up2_5 {μ ν : xS} {i : Nat} {v : Int32} (h : ∀ j, j ≠ 5 → ν j = μ j) : ∀ j, j ≠ 5 → up2 ν 5 i v j = μ j := fun j hj => by rw [up2_n _ _ _ hj]; exact h j hj
theorem psz_bd {n s : Nat} {P : Nat → Nat → Nat} (hO : okP n P) (hs : s < n) : 0 < psz P s ∧ s + psz P s ≤ n ∧ pend P s = s + psz P s := by
  unfold psz pend
  by_cases h : 3 ≤ P s 0
  · rw [if_pos h, if_pos h]
    have := (hO.2 s hs).2.2.2.2.2.1 h
    omega
  · rw [if_neg h, if_neg h]
    omega
theorem cut_b6 {n s j : Nat} {P : Nat → Nat → Nat} (hO : okP n P) (hL : lam n P) (hs : s < n) (hj : j < n) (h3 : 3 ≤ P j 0) (ho : j < s ∨ s + psz P s ≤ j) (h6 : s < P j 6) : s + psz P s ≤ P j 6 := by
  rcases ho with h | h
  · have h1 := (hL j s h hs h3).1 h6
    rw [(psz_bd hO hs).2.2] at h1
    exact h1
  · have := (hO.2 j hj).2.2.2.2.2.1 h3
    omega
theorem cut_b5 {n s j : Nat} {P : Nat → Nat → Nat} (hO : okP n P) (hL : lam n P) (hs : s < n) (hj : j < n) (h3 : P j 0 = 4) (ho : j < s ∨ s + psz P s ≤ j) (h6 : s < P j 5) : s + psz P s ≤ P j 5 := by
  rcases ho with h | h
  · have h1 := (hL j s h hs (by omega)).2 h3 h6
    rw [(psz_bd hO hs).2.2] at h1
    exact h1
  · have := (hO.2 j hj).2.2.2.2.2.2 h3
    omega