/-! the class: runs on any memory; the answers of two alike states -/
def trR (δ : xS) (n : Nat) (P : Nat → Nat → Nat) (u v : Int32) : Prop := tsim δ (runD n P u v).2 ∧ δ 10 0 = cutD n (runD n P u v)
theorem tsim_10 {τ δ : xS} {v : Int32} (h : tsim τ δ) : tsim (up2 τ 10 0 v) δ := by
  obtain ⟨h1, h4, ⟨h5, h6, h7, h8, h9⟩, h0, h3⟩ := h
  refine ⟨fun i hi => ?_, fun i hi => ?_, ⟨?_, ?_, ?_, ?_, ?_⟩, fun i hi hi2 => ?_, fun i hi hi2 => ?_⟩
  · rw [up2_n _ _ _ (by omega)]; exact h1 i hi
  · rw [up2_n _ _ _ (by omega)]; exact h4 i hi
  · rw [up2_n _ _ _ (by omega)]; exact h5
  · rw [up2_n _ _ _ (by omega)]; exact h6
  · rw [up2_n _ _ _ (by omega)]; exact h7
  · rw [up2_n _ _ _ (by omega)]; exact h8
  · rw [up2_n _ _ _ (by omega)]; exact h9
  · rw [up2_n _ _ _ (by omega)]; exact h0 i hi hi2
  · rw [up2_n _ _ _ (by omega), up2_n _ _ _ (by omega)]; exact h3 i hi hi2
theorem s_X6_follow_f {G : xG} {d : Nat} {f : Nat → xC} {r : Nat × Nat} {Q : Option Value → xM → Prop} {a b n : Nat} {σ δ : xS} {P : Nat → Nat → Nat} {u v : Int32} (hT : tat f a δ) (hL : lat f b σ) (hd : b + 10 ≤ a ∨ a + 7 ≤ b) (hP : LsP σ n P) (hO : okP n P) (hi : inpt u v) (hq : ∀ τ, trR τ n P u v → Q none (tput f a τ, r)) : xMet G (d + 7) mX6_follow [.ref a, .ref b, .int u, .int v] (f, r) r Q := by
  have h := s_X6_follow (G := G) (d := d) (f := f) (r := r) (Q := Q) (a := a) (δ := δ) hL hd hP hO hi (fun τ hτ => by
    obtain ⟨e1, e2, -⟩ := trace_sim hO hτ hi
    refine hq _ ⟨tsim_10 e2, ?_⟩
    rw [up2_ss]
    unfold cutD
    rw [e1])
  rw [tat_put hT] at h
  exact h
theorem s_X4_follow {G : xG} {d : Nat} {f : Nat → xC} {r : Nat × Nat} {Q : Option Value → xM → Prop} {y t0 t1 b c n n1 : Nat} {σ ς δ ε : xS} {P P1 : Nat → Nat → Nat} {u v : Int32} (hS : f y = ob 4 [.ref t0, .ref t1]) (hy : (y < t0 ∨ t0 + 7 ≤ y) ∧ (y < t1 ∨ t1 + 7 ≤ y)) (hT : tat f t0 δ) (hT2 : tat f t1 ε) (htt : t0 + 7 ≤ t1 ∨ t1 + 7 ≤ t0) (hL : lat f b σ) (hL2 : lat f c ς) (hd : b + 10 ≤ t0 ∨ t0 + 7 ≤ b) (hd2 : c + 10 ≤ t0 ∨ t0 + 7 ≤ c) (hd3 : c + 10 ≤ t1 ∨ t1 + 7 ≤ c) (hP : LsP σ n P) (hO : okP n P) (hP1 : LsP ς n1 P1) (hO1 : okP n1 P1) (hi : inpt u v) (hq : ∀ τ κ, trR τ n P u v → trR κ n1 P1 u v → Q none (tput (tput f t0 τ) t1 κ, r)) : xMet G (d + 8) mX4_follow [.ref y, .ref b, .ref c, .int u, .int v] (f, r) r Q := by
  refine xMet_0 (by decide +kernel) rfl (Nat.le_of_ble_eq_true rfl) ?_
  show xX G (d + 8) mX4_follow r r (xΦ G r r Q) 0 [(0, .ref y), (1, .ref b), (2, .ref c), (3, .int u), (4, .int v)] [] (f, r)
  refine xr_aload_n (n := 1) dX4_follow_0 rfl rfl ?_
  refine xr_get (n := 4) dX4_follow_1 fl_X4_12 (by first | exact hS | exact tat_0 hT | exact tat_0 hT2 | exact Eq.trans (bput_out (a := t0) (n := 7) (by omega)) hS | exact tat_0 (bat_out hT2 (by omega))) (by rfl) rfl ?_
  refine xr_aload_n (n := 5) dX4_follow_4 rfl rfl ?_
  refine xr_iload_n (n := 6) dX4_follow_5 rfl rfl ?_
  refine xr_iload (n := 8) dX4_follow_6 rfl rfl ?_
  refine xr_callV (y2 := mX6_follow) (As := [_, _, _]) (n := 11) dX4_follow_8 lm_X4_21 pm_X6_follow pi_X6_follow (by first | exact hS | exact tat_0 hT | exact tat_0 hT2 | exact Eq.trans (bput_out (a := t0) (n := 7) (by omega)) hS | exact tat_0 (bat_out hT2 (by omega))) rfl rfl rfl (by simp [Value.category]) rfl ⟨Nat.le_refl _, Nat.le_refl _⟩ ?_
  refine s_X6_follow_f hT hL hd hP hO hi (fun τ hτ => ?_)
  dsimp only [xK, xps]
  refine xr_aload_n (n := 12) dX4_follow_11 rfl rfl ?_
  refine xr_get (n := 15) dX4_follow_12 fl_X4_18 (by first | exact hS | exact tat_0 hT | exact tat_0 hT2 | exact Eq.trans (bput_out (a := t0) (n := 7) (by omega)) hS | exact tat_0 (bat_out hT2 (by omega))) (by rfl) rfl ?_
  refine xr_aload_n (n := 16) dX4_follow_15 rfl rfl ?_
  refine xr_iload_n (n := 17) dX4_follow_16 rfl rfl ?_
  refine xr_iload (n := 19) dX4_follow_17 rfl rfl ?_
  refine xr_callV (y2 := mX6_follow) (As := [_, _, _]) (n := 22) dX4_follow_19 lm_X4_21 pm_X6_follow pi_X6_follow (by first | exact hS | exact tat_0 hT | exact tat_0 hT2 | exact Eq.trans (bput_out (a := t0) (n := 7) (by omega)) hS | exact tat_0 (bat_out hT2 (by omega))) rfl rfl rfl (by simp [Value.category]) rfl ⟨Nat.le_refl _, Nat.le_refl _⟩ ?_
  refine s_X6_follow_f (bat_out hT2 (by omega)) (lat_t hL2 hd2) hd3 hP1 hO1 hi (fun κ hκ => ?_)
  dsimp only [xK, xps]
  refine xr_return dX4_follow_22 rfl rfl ?_
  exact hq τ κ hτ hκ
section
variable {δ ε : xS} {A B : Nat × xS}
theorem pm_sim (h : tsim δ A.2) (h2 : tsim ε B.2) (a b : Nat) : pmA (a, δ) (b, ε) = pmA A B := by
  unfold pmA
  rw [show ((a, δ) : Nat × xS).2 = δ from rfl, show ((b, ε) : Nat × xS).2 = ε from rfl, h.2.2.1.2.1, h2.2.2.1.2.1]
theorem pmA_b {k : Nat} (h : k < pmA A B) : k < 40 ∧ k < ix (A.2 6 0) ∧ k < ix (B.2 6 0) := by
  have := pmn_le (ix (A.2 6 0)) (ix (B.2 6 0))
  have h2 : k < pmn (ix (A.2 6 0)) (ix (B.2 6 0)) := h
  omega
theorem ld_sim (h : tsim δ A.2) (h2 : tsim ε B.2) (a b : Nat) {k : Nat} (hk : k < pmA A B) : ldv (a, δ) (b, ε) k = ldv A B k := by
  have hb := pmA_b hk
  unfold ldv
  rw [show ((a, δ) : Nat × xS).2 = δ from rfl, show ((b, ε) : Nat × xS).2 = ε from rfl, (h.2.2.2.2 k hb.1 hb.2.1).1, (h2.2.2.2.2 k hb.1 hb.2.2).1]
theorem gl_sim (h : tsim δ A.2) (h2 : tsim ε B.2) (a b : Nat) : ∀ k, k ≤ pmA A B → glv (a, δ) (b, ε) k = glv A B k
  | 0, _ => rfl
  | k + 1, hk => by rw [glv_s, glv_s, gl_sim h h2 a b k (by omega), ld_sim h h2 a b (by omega)]
theorem cel_sim (h : tsim δ A.2) {k c : Nat} (hk : k < 40 ∧ k < ix (A.2 6 0)) (hc : c < 6) : δ 2 (6 * k + c) = A.2 2 (6 * k + c) := (h.2.2.2.2 k hk.1 hk.2).2 c hc
theorem ep_sim (h : tsim δ A.2) (h2 : tsim ε B.2) (a b : Nat) {k : Nat} (hk : k < pmA A B) : eqp (a, δ) (b, ε) k 6 ↔ eqp A B k 6 := by
  have hb := pmA_b hk
  refine ⟨fun q j hj => ?_, fun q j hj => ?_⟩
  · rw [← cel_sim h ⟨hb.1, hb.2.1⟩ hj, ← cel_sim h2 ⟨hb.1, hb.2.2⟩ hj]; exact q j hj
  · show δ 2 (6 * k + j) = ε 2 (6 * k + j)
    rw [cel_sim h ⟨hb.1, hb.2.1⟩ hj, cel_sim h2 ⟨hb.1, hb.2.2⟩ hj]; exact q j hj
theorem ae_sim (h : tsim δ A.2) (h2 : tsim ε B.2) (a b : Nat) : ∀ k, k ≤ pmA A B → aev (a, δ) (b, ε) k = aev A B k
  | 0, _ => rfl
  | k + 1, hk => by
    have e := ep_sim h h2 a b (k := k) (by omega)
    by_cases q : eqp A B k 6
    · rw [aev_t q, aev_t (e.mpr q), ae_sim h h2 a b k (by omega)]
    · rw [aev_f q, aev_f (fun z => q (e.mp z)), ae_sim h h2 a b k (by omega)]
theorem ex_sim (h : tsim δ A.2) (h2 : tsim ε B.2) (a b : Nat) {x0 y0 : Nat} (hx : x0 < 6) (hy : y0 < 6) : eqx (a, δ) (b, ε) x0 y0 (pmA A B) ↔ eqx A B x0 y0 (pmA A B) := by
  refine ⟨fun q k hk => ?_, fun q k hk => ?_⟩
  · have hb := pmA_b hk
    rw [← cel_sim h ⟨hb.1, hb.2.1⟩ hx, ← cel_sim h2 ⟨hb.1, hb.2.2⟩ hy]; exact q k hk
  · have hb := pmA_b hk
    show δ 2 (6 * k + x0) = ε 2 (6 * k + y0)
    rw [cel_sim h ⟨hb.1, hb.2.1⟩ hx, cel_sim h2 ⟨hb.1, hb.2.2⟩ hy]; exact q k hk
theorem ev_sim (h : tsim δ A.2) (h2 : tsim ε B.2) (a b : Nat) {x0 : Nat} (hx : x0 < 6) : ∀ y0, y0 ≤ 6 → eqv (a, δ) (b, ε) x0 y0 = eqv A B x0 y0
  | 0, _ => rfl
  | y0 + 1, hy => by
    have e := ex_sim h h2 a b hx (y0 := y0) (by omega)
    rw [eqv_s, eqv_s, ev_sim h h2 a b hx y0 (by omega), pm_sim h h2 a b]
    by_cases q : eqx A B x0 y0 (pmA A B)
    · rw [if_pos q, if_pos (e.mpr q)]
    · rw [if_neg q, if_neg (fun z => q (e.mp z))]
theorem va_sim (h : tsim δ A.2) (a k : Nat) : valA (a, δ) k = valA A k := by
  unfold valA
  rw [show ((a, δ) : Nat × xS).2 = δ from rfl, h.2.2.1.2.2.2.2]
  by_cases e : k < 40 ∧ k < ix (A.2 9 0)
  · rw [if_pos e, if_pos e, h.2.2.2.1 k e.1 e.2]
  · rw [if_neg e, if_neg e]
theorem ce_sim (h : tsim δ A.2) (a k : Nat) {c : Nat} (hc : c < 6) : celA (a, δ) k c = celA A k c := by
  unfold celA
  rw [show ((a, δ) : Nat × xS).2 = δ from rfl, h.2.2.1.2.1]
  by_cases e : k < 40 ∧ k < ix (A.2 6 0)
  · rw [if_pos e, if_pos e, cel_sim h e hc]
  · rw [if_neg e, if_neg e]
theorem fdF_sim (h : tsim δ A.2) (h2 : tsim ε B.2) (a b : Nat) : ∀ g k, fdF (a, δ) (b, ε) g k = fdF A B g k
  | 0, _ => rfl
  | g + 1, k => by
    show (if valA (a, δ) k = valA (b, ε) k then fdF (a, δ) (b, ε) g (k + 1) else nI k) = (if valA A k = valA B k then fdF A B g (k + 1) else nI k)
    rw [va_sim h a k, va_sim h2 b k, fdF_sim h h2 a b g (k + 1)]
theorem fd_sim (h : tsim δ A.2) (h2 : tsim ε B.2) (a b : Nat) : fdv (a, δ) (b, ε) = fdv A B := fdF_sim h h2 a b 40 0
end