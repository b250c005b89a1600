/-- a program of n statements in a row of code: kind, cell, operator, one, other, middle, end -/
def isPg (row : Nat → Int32) (n : Nat) (P : Nat → Nat → Nat) : Prop := row 0 = nI n ∧ ∀ s w, s < n → w < 7 → row (1 + 7 * s + w) = nI (P s w)
def okT (t : Nat) : Prop := t < 6 ∨ (10 ≤ t ∧ t ≤ 1009)
/-- what each statement's numbers keep to -/
def okP (n : Nat) (P : Nat → Nat → Nat) : Prop := n ≤ 60 ∧ ∀ s, s < n → P s 0 ≤ 4 ∧ P s 1 < 6 ∧ (P s 2 = 0 ∨ P s 2 = 42 ∨ P s 2 = 43 ∨ P s 2 = 45) ∧ okT (P s 3) ∧ okT (P s 4) ∧ (3 ≤ P s 0 → s < P s 6 ∧ P s 6 ≤ n) ∧ (P s 0 = 4 → s < P s 5 ∧ P s 5 ≤ P s 6)
theorem isPg.g {row : Nat → Int32} {n : Nat} {P : Nat → Nat → Nat} (h : isPg row n P) {s w : Nat} (hs : s < n) (hw : w < 7) : row (1 + 7 * s + w) = nI (P s w) := h.2 s w hs hw
def mterm (μ : xS) (sd t : Nat) : Int32 := if t < 10 then μ 9 (6 * sd + t) else nI (t - 10)
def mval (a b : Int32) (op : Nat) : Int32 := if op = 0 then a else if op = 43 then a + b else if op = 45 then a - b else a * b
def msets (μ : xS) (sd c op one oth : Nat) : xS := up2 μ 9 (6 * sd + c) (mheld (mval (mterm μ sd one) (mterm μ sd oth) op))
def mtells (μ : xS) (sd n c : Nat) : xS := up2 (if n < 40 then up2 μ 10 (40 * sd + n) (μ 9 (6 * sd + c)) else μ) 13 (6 * sd + 2) (nI (n + 1))
def mmark1 (μ : xS) (sd n st k : Nat) : xS := ur (up2 μ 11 (40 * sd + n) (nI st)) 12 (fo (fun c => μ 9 (6 * sd + c)) (μ 12) (240 * sd + 6 * n) k)
def mmarks (μ : xS) (sd n st : Nat) : xS := up2 (if n < 40 then mmark1 μ sd n st 6 else μ) 13 (6 * sd + 3) (nI (n + 1))
def mround (μ : xS) (sd dp a b e : Nat) : xS := up2 (up2 (up2 μ 16 dp (nI (a + 1))) 13 (6 * sd + 4) (nI (b + 1))) 13 (6 * sd + 5) (nI (if e < a + 1 then a + 1 else e))