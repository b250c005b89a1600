/-! both programs of the reference -/
def msP (μ : xS) (N : Nat → Nat) (P : Nat → Nat → Nat → Nat) : Prop := ∀ q, q ≤ 1 → isPg (mtake μ q 5) (N q) (P q) ∧ wfP (N q) (P q)
theorem msP.ofr {μ ν : xS} {N : Nat → Nat} {P : Nat → Nat → Nat → Nat} (hN : msP μ N P) (h : frm μ ν) : msP ν N P := fun q hq => ⟨(hN q hq).1.ofr h (hN q hq).2.1.1, (hN q hq).2⟩
def RP (N : Nat → Nat) (P : Nat → Nat → Nat → Nat) (a b : Int32) (q : Nat) : Nat × xS := runD (N q) (P q) a b
def inpt (a b : Int32) : Prop := (-999 ≤ a.toInt ∧ a.toInt ≤ 999) ∧ (-999 ≤ b.toInt ∧ b.toInt ≤ 999)
theorem dv4 : ∀ k : Nat, k < 16 → nI k / nI 4 = nI (k / 4) ∧ nI k - nI k / nI 4 * nI 4 = nI (k % 4) := by decide +kernel
theorem inp4 {k : Nat} (h : k < 16) : inpt (nI (k / 4)) (nI (k % 4)) := by
  unfold inpt
  rw [nt _ (by omega), nt _ (by omega)]
  omega
def algv (N : Nat → Nat) (P : Nat → Nat → Nat → Nat) (c : Nat) : Nat → Int32
  | 0 => nI 63
  | k + 1 => algv N P c k &&& eqv (RP N P (nI (k / 4)) (nI (k % 4)) 0) (RP N P (nI (k / 4)) (nI (k % 4)) 1) c 6
theorem algv_s (N : Nat → Nat) (P : Nat → Nat → Nat → Nat) (c k : Nat) : algv N P c (k + 1) = algv N P c k &&& eqv (RP N P (nI (k / 4)) (nI (k % 4)) 0) (RP N P (nI (k / 4)) (nI (k % 4)) 1) c 6 := rfl
def prV (A B : Nat × xS) (w : Nat) : Int32 := if w = 0 then nI (pmA A B) else if w = 3 then nI (aev A B (pmA A B)) else if pmA A B = 0 then (-10009) else if w = 1 then glv A B (pmA A B) else ldv A B (pmA A B - 1)
def av (lo : Int32) (i : Nat) : Int32 := Int32.ofInt (lo.toInt + i)
theorem av_i {lo : Int32} {i : Nat} (h : -9 ≤ lo.toInt) (h2 : lo.toInt ≤ 9) (hi : i ≤ 20) : (av lo i).toInt = lo.toInt + i := by
  unfold av
  rw [Int32.toInt_ofInt, i_bmod (by omega) (by omega)]
theorem av_0 (lo : Int32) : av lo 0 = lo := by
  unfold av
  rw [show lo.toInt + ((0 : Nat) : Int) = lo.toInt from by omega, Int32.ofInt_toInt]
theorem av_s {lo : Int32} {i : Nat} (h : -9 ≤ lo.toInt) (h2 : lo.toInt ≤ 9) (hi : i < 20) : av lo i + nI 1 = av lo (i + 1) := by
  have h1 : (nI 1).toInt = 1 := nt 1 (by omega)
  have e := av_i h h2 (i := i) (by omega)
  rw [i_eq, i_add (by omega) (by omega), e, h1, av_i h h2 (by omega)]
  omega
def agB (N : Nat → Nat) (P : Nat → Nat → Nat → Nat) (lo : Int32) (i j : Nat) : Bool := decide (agP (N 0) (N 1) (RP N P (av lo i) (av lo j) 0) (RP N P (av lo i) (av lo j) 1))
def agN (t : Nat × Option (Nat × Nat)) (i j : Nat) (b : Bool) : Nat × Option (Nat × Nat) := match b with
  | true => (t.1 + 1, t.2)
  | false => (t.1, match t.2 with | none => some (i, j) | some q => some q)
def agC (g : Nat → Nat → Bool) (s : Nat × Option (Nat × Nat)) (i : Nat) : Nat → Nat × Option (Nat × Nat)
  | 0 => s
  | j + 1 => agN (agC g s i j) i j (g i j)
def agR (g : Nat → Nat → Bool) (w : Nat) : Nat → Nat × Option (Nat × Nat)
  | 0 => (0, none)
  | i + 1 => agC g (agR g w i) i w
def agF (lo : Int32) (t : Option (Nat × Nat)) : Int32 := match t with | none => (-10009) | some q => av lo q.1
def agS (lo : Int32) (t : Option (Nat × Nat)) : Int32 := match t with | none => (-10009) | some q => av lo q.2
def wid (lo hi : Int32) : Nat := (hi.toInt - lo.toInt + 1).toNat
def agV (N : Nat → Nat) (P : Nat → Nat → Nat → Nat) (lo hi : Int32) (w : Nat) : Int32 := if w = 0 then nI (agR (agB N P lo) (wid lo hi) (wid lo hi)).1 else if w = 1 then agF lo (agR (agB N P lo) (wid lo hi) (wid lo hi)).2 else agS lo (agR (agB N P lo) (wid lo hi) (wid lo hi)).2
def agOk (t : Nat × Option (Nat × Nat)) : Prop := ∀ q, t.2 = some q → q.1 < 19 ∧ q.2 < 19
theorem agN_ok {t : Nat × Option (Nat × Nat)} {i j : Nat} (hi : i < 19) (hj : j < 19) (h : agOk t) (b : Bool) : agOk (agN t i j b) := by
  cases b with
  | true => exact h
  | false =>
    intro q hq
    obtain ⟨c, o⟩ := t
    cases o with
    | none =>
      have e : (i, j) = q := Option.some.inj hq
      rw [← e]
      exact ⟨hi, hj⟩
    | some u => exact h q hq
theorem agC_ok {g : Nat → Nat → Bool} {s : Nat × Option (Nat × Nat)} {i : Nat} (hi : i < 19) (h : agOk s) : ∀ j, j ≤ 19 → agOk (agC g s i j)
  | 0, _ => h
  | j + 1, hj => agN_ok hi (by omega) (agC_ok hi h j (by omega)) _
theorem agR_ok {g : Nat → Nat → Bool} {w : Nat} (hw : w ≤ 19) : ∀ i, i ≤ 19 → agOk (agR g w i)
  | 0, _ => fun q hq => by cases hq
  | i + 1, hi => agC_ok (by omega) (agR_ok hw i (by omega)) w hw
theorem agF_none {lo : Int32} {t : Nat × Option (Nat × Nat)} (h : -9 ≤ lo.toInt) (h2 : lo.toInt ≤ 9) (ho : agOk t) : agF lo t.2 = (-10009) ↔ t.2 = none := by
  obtain ⟨c, o⟩ := t
  cases o with
  | none => exact ⟨fun _ => rfl, fun _ => rfl⟩
  | some q =>
    refine ⟨fun e => ?_, fun e => by cases e⟩
    exfalso
    have e1 : av lo q.1 = (-10009) := e
    have e2 : (-10009 : Int32).toInt = -10009 := by decide +kernel
    have e3 := av_i h h2 (i := q.1) (by have := (ho q rfl).1; omega)
    rw [e1, e2] at e3
    omega
/-- what all runs put out is kept -/
def kpS (ν : xS) (n : Nat) (P : Nat → Nat → Nat) (K : Nat) : Prop := ∀ k, k < K → ν 18 k = (runD n P (nI (k / 4)) (nI (k % 4))).2 9 0 ∧ ν 19 k = cutD n (runD n P (nI (k / 4)) (nI (k % 4))) ∧ ∀ i, i < 40 → i < ix ((runD n P (nI (k / 4)) (nI (k % 4))).2 9 0) → ν 17 (40 * k + i) = (runD n P (nI (k / 4)) (nI (k % 4))).2 0 i
theorem kpS.cg {ν κ : xS} {n K : Nat} {P : Nat → Nat → Nat} (h : kpS ν n P K) (e : ∀ w, 16 < w → κ w = ν w) : kpS κ n P K := fun k hk => by
  rw [e 17 (by omega), e 18 (by omega), e 19 (by omega)]
  exact h k hk
/-- two runs put out the same -/
abbrev smo (n : Nat) (A : Nat × xS) (n' : Nat) (B : Nat × xS) : Prop := B.2 9 0 = A.2 9 0 ∧ cutD n' B = cutD n A ∧ ∀ i, i < 40 → i < ix (A.2 9 0) → A.2 0 i = B.2 0 i
abbrev idl (n : Nat) (P : Nat → Nat → Nat) (s : Nat) : Prop := ∀ k, k < 16 → smo n (runD n P (nI (k / 4)) (nI (k % 4))) (n - psz P s) (runD (n - psz P s) (pcut P s) (nI (k / 4)) (nI (k % 4)))