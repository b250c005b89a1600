theorem oi1 : Int32.ofInt 1 = nI 1 := by decide +kernel
theorem oi6 : Int32.ofInt 6 = nI 6 := by decide +kernel
theorem nneg {n : Nat} (h : n < 2 ^ 31) : ¬ (nI n).toInt < 0 := by rw [nt n h]; omega
def mheld (v : Int32) : Int32 := if v < (-999) then (-999) else if nI 999 < v then nI 999 else v
def mtake (μ : xS) (p : Nat) : xS := ur μ 5 (fo (fun j => μ 0 (421 * p + j)) (μ 5) 0 421)
def mlay (μ : xS) (p : Nat) : xS := ur μ 0 (fo (fun j => μ 5 j) (μ 0) (421 * p) 421)
def mshift (μ : xS) : xS := up2 (ur μ 1 (fo (fun j => μ 1 (j + 842)) (μ 1) 0 3368)) 2 0 (nI 4)
def mput1 (μ : xS) (sv : Nat) : xS := up2 (ur μ 1 (fo (fun j => μ 0 j) (μ 1) (842 * sv) 842)) 2 0 (nI (sv + 1))
def msave (μ : xS) (sv : Nat) : xS := if sv = 5 then mput1 (mshift μ) 4 else mput1 μ sv
def mback (μ : xS) (sv : Nat) : xS := ur (up2 μ 2 0 (nI sv)) 0 (fo (fun j => μ 1 (842 * sv + j)) (μ 0) 0 842)
def mswap (μ : xS) : xS := ur μ 0 (fo (fun j => μ 0 (421 + j)) (μ 0) 0 421)
def pas (t : Nat → Int32) (n a : Nat) (c : Int32) : Nat := if ch t n (skp t n a) = c then skp t n a + 1 else skp t n a
theorem pas_t {t : Nat → Int32} {n a : Nat} {c : Int32} (h : ch t n (skp t n a) = c) : pas t n a c = skp t n a + 1 := if_pos h
theorem pas_f {t : Nat → Int32} {n a : Nat} {c : Int32} (h : ¬ ch t n (skp t n a) = c) : pas t n a c = skp t n a := if_neg h
def pst (μ : xS) (n a : Nat) : Prop := μ 4 0 = nI n ∧ μ 6 0 = nI a ∧ a ≤ n ∧ n ≤ 120
theorem pst.at {μ : xS} {n a b : Nat} (h : pst μ n a) (hb : b ≤ n) : pst (up2 μ 6 0 (nI b)) n b := ⟨h.1, up2_ss _ _ _ _, hb, h.2.2.2⟩
theorem skp_le {t : Nat → Int32} {n a : Nat} (h : a ≤ n) : skp t n a ≤ n := (skp_ge t n _ a rfl).2 h
theorem ch_lt {t : Nat → Int32} {n a : Nat} (h : ¬ ch t n a = nI 0) : a < n := by
  unfold ch at h
  by_cases h2 : a < n
  · exact h2
  · rw [if_neg h2] at h; exact absurd rfl h
theorem pas_le {t : Nat → Int32} {n a : Nat} {c : Int32} (h : a ≤ n) (hc : ¬ c = nI 0) : pas t n a c ≤ n := by
  unfold pas
  have := skp_le (t := t) h
  split
  · rename_i h2
    have := ch_lt (t := t) (n := n) (a := skp t n a) (by rw [h2]; exact hc)
    omega
  · exact this