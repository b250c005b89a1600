/-! the class: a setting -/
def lset (σ : xS) (k : Nat) (z : Nat → Nat) (u : Int32) : xS := up2 (up2 (up2 (ladd σ k (nI 1) (nI (z 1)) u) 2 k (nI (tmv (z 3)))) 3 k (nI (z 2))) 4 k (if z 2 = 0 then nI 0 else nI (tmv (z 4)))
theorem s_X1_setTerms_r {G : xG} {d : Nat} {f : Nat → xC} {r : Nat × Nat} {Q : Option Value → xM → Prop} {q x e n : Nat} {ρ σ : xS} {l p t : Int32} (hde : e + 10 ≤ q ∨ q + 3 ≤ e) (hn : σ 9 0 = nI (n + 1)) (hn2 : n + 1 ≤ 60) (hq : Q none (qput (lput f e (up2 (up2 (up2 σ 2 n l) 3 n p) 4 n t)) q x e ρ, r)) : xMet G (d + 2) mX1_setTerms [.ref e, .int l, .int p, .int t] (qput (lput f e σ) q x e ρ, r) r Q := by
  have h := s_X1_setTerms (G := G) (d := d) (r := r) (f := qput f q x e ρ) (a := e) (σ := σ) (l := l) (p := p) (t := t) (Q := Q) hn hn2 (by
    rw [← rmem_c hde]
    exact hq)
  rw [← rmem_c hde] at h
  exact h
theorem tmv_lt {u : Nat} (h : okT u) : tmv u < 2000 := by
  unfold tmv
  unfold okT at h
  split <;> omega
theorem opt_t {b : Bool} {v : Nat} (hv : v < 2000) (h : ¬ (if b = true then nI v else (-1)) = (-1)) : b = true := by
  cases b with
  | true => rfl
  | false => exact absurd rfl h
theorem opt_f {b : Bool} {v : Nat} (hv : b = true → v < 2000) (h : (if b = true then nI v else (-1)) = (-1)) : ¬ b = true := fun z => by
  have := hv z
  rw [if_pos z, i_eq, i_m1, nt _ (by omega)] at h
  omega