/-! BOTH SIDES in numbers: the reference's state, and what each call makes of it -/
theorem isPg.cgr {row row' : Nat → Int32} {n : Nat} {P : Nat → Nat → Nat} (h : isPg row n P) (hn : n ≤ 60) (e : ∀ j, j < 421 → row' j = row j) : isPg row' n P := ⟨(e 0 (by omega)).trans h.1, fun s w hs hw => (e _ (by omega)).trans (h.2 s w hs hw)⟩
def prw (row : Nat → Int32) (o : Nat) : Nat → Int32 := fun j => row (o + j)
def MI (μ : xS) (t : Nat → Int32) (n sv : Nat) (N : Nat → Nat) (P : Nat → Nat → Nat → Nat) (HN : Nat → Nat → Nat) (HP : Nat → Nat → Nat → Nat → Nat) : Prop := μ 3 = t ∧ μ 4 0 = nI n ∧ μ 2 0 = nI sv ∧ (∀ q, q ≤ 1 → isPg (prw (μ 0) (421 * q)) (N q) (P q)) ∧ ∀ k, k < sv → ∀ q, q ≤ 1 → isPg (prw (μ 1) (842 * k + 421 * q)) (HN k q) (HP k q)
section
variable {μ ν : xS} {t : Nat → Int32} {n sv : Nat} {N : Nat → Nat} {P : Nat → Nat → Nat → Nat} {HN : Nat → Nat → Nat} {HP : Nat → Nat → Nat → Nat → Nat}
theorem MI.cg (h : MI μ t n sv N P HN HP) (e : ∀ w, w ≤ 4 → ν w = μ w) : MI ν t n sv N P HN HP := by
  unfold MI
  rw [e 0 (by omega), e 1 (by omega), e 2 (by omega), e 3 (by omega), e 4 (by omega)]
  exact h
theorem MI.fr (h : MI μ t n sv N P HN HP) (e : frm μ ν) : MI ν t n sv N P HN HP := h.cg (fun w hw => e w (by omega))
theorem MI.s8 (h : MI μ t n sv N P HN HP) (e : sam8 μ ν) : MI ν t n sv N P HN HP := h.cg (fun w hw => e w (by omega) (by omega) (by omega) (by omega))
theorem MI.ms (h : MI μ t n sv N P HN HP) (hA : AI t n sv N P HN HP) : msP μ N P := fun q hq => ⟨(h.2.2.2.1 q hq).cgr (hA.2.2.2.1 q hq).1.1 (fun j hj => by
    show mtake μ q 5 j = prw (μ 0) (421 * q) j
    unfold mtake prw
    rw [ur_s, fo_in (by omega) (by omega), Nat.sub_zero]), hA.2.2.2.1 q hq⟩
theorem MI.ext {N' : Nat → Nat} {P' : Nat → Nat → Nat → Nat} (h : MI μ t n sv N P HN HP) (e1 : ∀ q, q ≤ 1 → N' q = N q) (e2 : ∀ q, q ≤ 1 → P' q = P q) : MI μ t n sv N' P' HN HP := ⟨h.1, h.2.1, h.2.2.1, fun q hq => by rw [e1 q hq, e2 q hq]; exact h.2.2.2.1 q hq, h.2.2.2.2⟩
theorem MI.app {c : Int32} (h : MI μ t n sv N P HN HP) : MI (up2 (up2 μ 3 n c) 4 0 (nI (n + 1))) (upd t n c) (n + 1) sv N P HN HP := by
  unfold MI
  rw [up2_n _ _ _ (show (3 : Nat) ≠ 4 by omega), up2_s, h.1, up2_ss]
  refine ⟨rfl, rfl, ?_, ?_, ?_⟩
  · rw [up2_n _ _ _ (by omega), up2_n _ _ _ (by omega)]; exact h.2.2.1
  · rw [up2_n _ _ _ (by omega), up2_n _ _ _ (by omega)]; exact h.2.2.2.1
  · rw [up2_n _ _ _ (by omega), up2_n _ _ _ (by omega)]; exact h.2.2.2.2
theorem MI.clr (h : MI μ t n sv N P HN HP) : MI (up2 μ 4 0 (nI 0)) t 0 sv N P HN HP := by
  unfold MI
  rw [up2_ss, up2_n _ _ _ (show (3 : Nat) ≠ 4 by omega), up2_n _ _ _ (show (2 : Nat) ≠ 4 by omega), up2_n _ _ _ (show (0 : Nat) ≠ 4 by omega), up2_n _ _ _ (show (1 : Nat) ≠ 4 by omega)]
  exact ⟨h.1, rfl, h.2.2⟩
theorem MI.put1 {q : Nat} (h : MI μ t n q N P HN HP) (hA : ∀ i, i ≤ 1 → N i ≤ 60) (hH : ∀ k, k < q → ∀ i, i ≤ 1 → HN k i ≤ 60) : MI (mput1 μ q) t n (q + 1) N P (fun k i => if k = q then N i else HN k i) (fun k i => if k = q then P i else HP k i) := by
  unfold mput1
  refine ⟨?_, ?_, up2_ss _ _ _ _, ?_, fun k hk i hi => ?_⟩
  · rw [up2_n _ _ _ (by omega), ur_n _ _ (by omega)]; exact h.1
  · rw [up2_n _ _ _ (by omega), ur_n _ _ (by omega)]; exact h.2.1
  · rw [up2_n _ _ _ (by omega), ur_n _ _ (by omega)]; exact h.2.2.2.1
  · rw [up2_n _ _ _ (by omega), ur_s]
    dsimp only
    by_cases e : k = q
    · subst e
      rw [if_pos rfl, if_pos rfl]
      refine (h.2.2.2.1 i hi).cgr (hA i hi) (fun j hj => ?_)
      show fo _ _ _ _ (842 * k + 421 * i + j) = μ 0 (421 * i + j)
      rw [fo_in (by omega) (by omega)]
      congr 1
      omega
    · rw [if_neg e, if_neg e]
      refine (h.2.2.2.2 k (by omega) i hi).cgr (hH k (by omega) i hi) (fun j hj => ?_)
      show fo _ _ _ _ (842 * k + 421 * i + j) = μ 1 (842 * k + 421 * i + j)
      rw [fo_out (by omega)]
theorem MI.shift (h : MI μ t n 5 N P HN HP) (hH : ∀ k, k < 5 → ∀ i, i ≤ 1 → HN k i ≤ 60) : MI (mshift μ) t n 4 N P (fun k i => HN (k + 1) i) (fun k i => HP (k + 1) i) := by
  unfold mshift
  refine ⟨?_, ?_, up2_ss _ _ _ _, ?_, fun k hk i hi => ?_⟩
  · rw [up2_n _ _ _ (by omega), ur_n _ _ (by omega)]; exact h.1
  · rw [up2_n _ _ _ (by omega), ur_n _ _ (by omega)]; exact h.2.1
  · rw [up2_n _ _ _ (by omega), ur_n _ _ (by omega)]; exact h.2.2.2.1
  · rw [up2_n _ _ _ (by omega), ur_s]
    refine (h.2.2.2.2 (k + 1) (by omega) i hi).cgr (hH (k + 1) (by omega) i hi) (fun j hj => ?_)
    show fo _ _ _ _ (842 * k + 421 * i + j) = μ 1 (842 * (k + 1) + 421 * i + j)
    rw [fo_in (by omega) (by omega)]
    show μ 1 _ = μ 1 _
    congr 1
    omega
theorem MI.save (h : MI μ t n sv N P HN HP) (hA : AI t n sv N P HN HP) : MI (msave μ sv) t n (spu sv) N P (hpu HN sv N) (hpu HP sv P) := by
  have h60 : ∀ i, i ≤ 1 → N i ≤ 60 := fun i hi => (hA.2.2.2.1 i hi).1.1
  have hh : ∀ k, k < sv → ∀ i, i ≤ 1 → HN k i ≤ 60 := fun k hk i hi => (hA.2.2.2.2 k hk i hi).1.1
  unfold msave spu
  by_cases e : sv = 5
  · subst e
    rw [if_pos rfl, if_pos rfl]
    exact (h.shift hh).put1 h60 (fun k hk i hi => hh _ (by omega) i hi)
  · rw [if_neg e, if_neg e]
    have := h.put1 h60 hh
    have e1 : (hpu HN sv N) = fun k i => if k = sv then N i else HN k i := by
      funext k i
      unfold hpu
      rw [if_neg e, if_neg e, Nat.add_zero]
    have e2 : (hpu HP sv P) = fun k i => if k = sv then P i else HP k i := by
      funext k i
      unfold hpu
      rw [if_neg e, if_neg e, Nat.add_zero]
    rw [e1, e2]
    exact this
theorem MI.lay {p n' : Nat} {P' : Nat → Nat → Nat} (h : MI μ t n sv N P HN HP) (hp : p ≤ 1) (h60 : ∀ i, i ≤ 1 → N i ≤ 60) (h5 : isPg (μ 5) n' P') (hn : n' ≤ 60) : MI (mlay μ p) t n sv (set1 N p n') (set1 P p P') HN HP := by
  unfold mlay
  refine ⟨?_, ?_, ?_, fun q hq => ?_, ?_⟩
  · rw [ur_n _ _ (by omega)]; exact h.1
  · rw [ur_n _ _ (by omega)]; exact h.2.1
  · rw [ur_n _ _ (by omega)]; exact h.2.2.1
  · rw [ur_s]
    unfold set1
    by_cases e : q = p
    · subst e
      rw [if_pos rfl, if_pos rfl]
      refine h5.cgr hn (fun j hj => ?_)
      show fo _ _ _ _ (421 * q + j) = _
      rw [fo_in (by omega) (by omega)]
      congr 1
      omega
    · rw [if_neg e, if_neg e]
      refine (h.2.2.2.1 q hq).cgr (h60 q hq) (fun j hj => ?_)
      show fo _ _ _ _ (421 * q + j) = μ 0 (421 * q + j)
      rw [fo_out (by omega)]
  · rw [ur_n _ _ (by omega)]; exact h.2.2.2.2
theorem mtake_5 {q n' : Nat} {P' : Nat → Nat → Nat} (h : isPg (prw (μ 0) (421 * q)) n' P') (hn : n' ≤ 60) : isPg (mtake μ q 5) n' P' := h.cgr hn (fun j hj => by
    unfold mtake prw
    rw [ur_s, fo_in (by omega) (by omega), Nat.sub_zero])
theorem mtake_w {q w : Nat} (h : w ≠ 5) : mtake μ q w = μ w := ur_n _ _ h
theorem MI.copy (h : MI μ t n sv N P HN HP) (hA : AI t n sv N P HN HP) : MI (mcopy μ sv) t n (spu sv) (set1 N 1 (N 0)) (set1 P 1 (P 0)) (hpu HN sv N) (hpu HP sv P) ∧ mcopy μ sv 5 0 = nI (N 0) := by
  have h60 : ∀ i, i ≤ 1 → N i ≤ 60 := fun i hi => (hA.2.2.2.1 i hi).1.1
  have hs := h.save hA
  have h5 := mtake_5 (hs.2.2.2.1 0 (by omega)) (h60 0 (by omega))
  unfold mcopy
  refine ⟨(hs.cg (fun w hw => mtake_w (by omega))).lay (by omega) h60 h5 (h60 0 (by omega)), ?_⟩
  unfold mlay
  rw [ur_n _ _ (by omega)]
  exact h5.1
theorem MI.exch (h : MI μ t n sv N P HN HP) (hA : AI t n sv N P HN HP) : MI (mexch μ sv) t n (spu sv) (fun i => N (psw i)) (fun i => P (psw i)) (hpu HN sv N) (hpu HP sv P) ∧ mexch μ sv 0 0 = nI (N 1) := by
  have h60 : ∀ i, i ≤ 1 → N i ≤ 60 := fun i hi => (hA.2.2.2.1 i hi).1.1
  have hs := h.save hA
  have h5 := mtake_5 (hs.2.2.2.1 0 (by omega)) (h60 0 (by omega))
  have hs2 := hs.cg (ν := mtake (msave μ sv) 0) (fun w hw => mtake_w (by omega))
  have h0 : isPg (prw (mswap (mtake (msave μ sv) 0) 0) (421 * 0)) (N 1) (P 1) := by
    refine (hs2.2.2.2.1 1 (by omega)).cgr (h60 1 (by omega)) (fun j hj => ?_)
    unfold mswap prw
    rw [ur_s, fo_in (by omega) (by omega)]
    congr 1
    omega
  have hm : MI (mswap (mtake (msave μ sv) 0)) t n (spu sv) (fun _ => N 1) (fun _ => P 1) (hpu HN sv N) (hpu HP sv P) := by
    refine ⟨?_, ?_, ?_, fun q hq => ?_, ?_⟩
    · unfold mswap; rw [ur_n _ _ (by omega)]; exact hs2.1
    · unfold mswap; rw [ur_n _ _ (by omega)]; exact hs2.2.1
    · unfold mswap; rw [ur_n _ _ (by omega)]; exact hs2.2.2.1
    · rcases (show q = 0 ∨ q = 1 by omega) with rfl | rfl
      · exact h0
      · refine (hs2.2.2.2.1 1 (by omega)).cgr (h60 1 (by omega)) (fun j hj => ?_)
        unfold mswap prw
        rw [ur_s, fo_out (by omega)]
    · unfold mswap; rw [ur_n _ _ (by omega)]; exact hs2.2.2.2.2
  have h55 : isPg (mswap (mtake (msave μ sv) 0) 5) (N 0) (P 0) := by
    unfold mswap
    rw [ur_n _ _ (by omega)]
    exact h5
  unfold mexch
  have hl := hm.lay (p := 1) (by omega) (fun i hi => h60 1 (by omega)) h55 (h60 0 (by omega))
  refine ⟨hl.ext (fun q hq => ?_) (fun q hq => ?_), (hl.2.2.2.1 0 (by omega)).1⟩
  · rcases (show q = 0 ∨ q = 1 by omega) with rfl | rfl <;> rfl
  · rcases (show q = 0 ∨ q = 1 by omega) with rfl | rfl <;> rfl
theorem MI.back {k : Nat} (h : MI μ t n (k + 1) N P HN HP) (hA : AI t n (k + 1) N P HN HP) : MI (mback μ k) t n k (HN k) (HP k) HN HP := by
  unfold mback
  refine ⟨?_, ?_, ?_, fun q hq => ?_, fun j hj q hq => ?_⟩
  · rw [ur_n _ _ (by omega), up2_n _ _ _ (by omega)]; exact h.1
  · rw [ur_n _ _ (by omega), up2_n _ _ _ (by omega)]; exact h.2.1
  · rw [ur_n _ _ (by omega), up2_ss]
  · rw [ur_s]
    refine (h.2.2.2.2 k (by omega) q hq).cgr (hA.2.2.2.2 k (by omega) q hq).1.1 (fun j hj => ?_)
    show fo _ _ _ _ (421 * q + j) = μ 1 (842 * k + 421 * q + j)
    rw [fo_in (by omega) (by omega)]
    congr 1
    omega
  · rw [ur_n _ _ (by omega), up2_n _ _ _ (by omega)]
    exact h.2.2.2.2 j (by omega) q hq
theorem AI.app {c : Int32} (h : AI t n sv N P HN HP) (hn : n < 120) (hc : 1 ≤ c.toInt) : AI (upd t n c) (n + 1) sv N P HN HP := ⟨by omega, fun i hi => by
    unfold upd
    split
    · omega
    · exact h.2.1 i (by omega), h.2.2⟩
theorem AI.clr (h : AI t n sv N P HN HP) : AI t 0 sv N P HN HP := ⟨by omega, fun i hi => by omega, h.2.2⟩
theorem AI.save (h : AI t n sv N P HN HP) : AI t n (spu sv) N P (hpu HN sv N) (hpu HP sv P) := by
  have h5 := h.2.2.1
  refine ⟨h.1, h.2.1, by unfold spu; split <;> omega, h.2.2.2.1, fun k hk i hi => ?_⟩
  unfold spu at hk
  unfold hpu
  by_cases e : sv = 5
  · rw [if_pos e] at hk ⊢
    by_cases ek : k = 4
    · rw [if_pos ek, if_pos ek]; exact h.2.2.2.1 i hi
    · rw [if_neg ek, if_pos e, if_neg ek]; exact h.2.2.2.2 _ (by omega) i hi
  · rw [if_neg e] at hk ⊢
    by_cases ek : k = sv
    · rw [if_pos ek, if_pos ek]; exact h.2.2.2.1 i hi
    · rw [if_neg ek, if_neg e, if_neg ek]; exact h.2.2.2.2 _ (by omega) i hi
theorem AI.set {p n' : Nat} {P' : Nat → Nat → Nat} (h : AI t n sv N P HN HP) (hw : wfP n' P') : AI t n sv (set1 N p n') (set1 P p P') HN HP := ⟨h.1, h.2.1, h.2.2.1, fun i hi => by
    unfold set1
    by_cases e : i = p
    · rw [if_pos e, if_pos e]; exact hw
    · rw [if_neg e, if_neg e]; exact h.2.2.2.1 i hi, h.2.2.2.2⟩
theorem AI.sw (h : AI t n sv N P HN HP) : AI t n sv (fun i => N (psw i)) (fun i => P (psw i)) HN HP := ⟨h.1, h.2.1, h.2.2.1, fun i hi => h.2.2.2.1 (psw i) (by rcases (show i = 0 ∨ i = 1 by omega) with rfl | rfl <;> decide), h.2.2.2.2⟩
theorem AI.ba {k : Nat} (h : AI t n (k + 1) N P HN HP) : AI t n k (HN k) (HP k) HN HP := ⟨h.1, h.2.1, by have := h.2.2.1; omega, fun i hi => h.2.2.2.2 k (by omega) i hi, fun j hj i hi => h.2.2.2.2 j (by omega) i hi⟩
end
