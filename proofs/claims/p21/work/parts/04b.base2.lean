section XQ2
variable {G : xG} {d : Nat} {y : xY} {r0 lim : Nat × Nat} {Φ : xF} {ls : List (Nat × Value)} {st : List Value} {M : xM} {pc n : Nat}
theorem xq_istore_n {k4 : Fin 4} {x : Int32} (i : Nat) (hd : decode y.2.1 pc = .ok (.istore_n k4, 1)) (hk : k4.val = i) (hi : xhi ls i y.2.2.1 = true) (hn : pc + 1 = n) (k : xX G d y r0 lim Φ n (xst ls i (.int x)) st M) : xX G d y r0 lim Φ pc ls (.int x :: st) M := by
  subst hk
  exact xr_istore_n hd hi hn k
theorem xq_astore_n {k4 : Fin 4} {x : Nat} (i : Nat) (hd : decode y.2.1 pc = .ok (.astore_n k4, 1)) (hk : k4.val = i) (hi : xhi ls i y.2.2.1 = true) (hn : pc + 1 = n) (k : xX G d y r0 lim Φ n (xst ls i (.ref x)) st M) : xX G d y r0 lim Φ pc ls (.ref x :: st) M := by
  subst hk
  exact xr_astore_n hd hi hn k
end XQ2
