/-! constructors, fourth: the whole class -/
def agr (z e : Nat) (F G : Nat → xC) : Prop := ∀ q, z < q → q < e → G q = F q
theorem agr.tr {z e e' : Nat} {F G H : Nat → xC} (h : agr z e F G) (h2 : agr z e' G H) (he : e ≤ e') : agr z e F H := fun q a b => (h2 q a (by omega)).trans (h q a b)
theorem bat_ag {f f' : Nat → xC} {z a n e : Nat} {c : Nat → xC} (h : bat f a n c) (g : agr z e f f') (h1 : z < a) (h2 : a + n ≤ e) : bat f' a n c := fun i hi => (g _ (by omega) (by omega)).trans (h i hi)
def rl0 (z i : Nat) : Nat := if i = 0 then z + 167 else if i = 1 then z + 177 else if i < 7 then z + 19 + 20 * (i - 2) else z + 29 + 20 * (i - 7)
def S00 : Nat → xS := fun i => if i = 14 then r0s else s0
theorem rl0_a (z k : Nat) (h : k < 5) : rl0 z (2 + k) = z + 19 + 20 * k := by
  unfold rl0
  rw [if_neg (by omega), if_neg (by omega), if_pos (by omega)]
  omega
theorem rl0_b (z k : Nat) (h : k < 5) : rl0 z (7 + k) = z + 29 + 20 * k := by
  unfold rl0
  rw [if_neg (by omega), if_neg (by omega), if_neg (by omega)]
  omega
theorem rl0_c (z : Nat) {i : Nat} (h : i < 12) : (i = 0 ∧ rl0 z i = z + 167) ∨ (i = 1 ∧ rl0 z i = z + 177) ∨ (∃ k, k < 5 ∧ i = 2 + k ∧ rl0 z i = z + 19 + 20 * k) ∨ (∃ k, k < 5 ∧ i = 7 + k ∧ rl0 z i = z + 29 + 20 * k) := by
  by_cases h0 : i = 0
  · subst h0; exact Or.inl ⟨rfl, rfl⟩
  · by_cases h1 : i = 1
    · subst h1; exact Or.inr (Or.inl ⟨rfl, rfl⟩)
    · by_cases h2 : i < 7
      · have e : i = 2 + (i - 2) := by omega
        refine Or.inr (Or.inr (Or.inl ⟨i - 2, by omega, e, ?_⟩))
        have := rl0_a z (i - 2) (by omega)
        rw [← e] at this
        exact this
      · have e : i = 7 + (i - 7) := by omega
        refine Or.inr (Or.inr (Or.inr ⟨i - 7, by omega, e, ?_⟩))
        have := rl0_b z (i - 7) (by omega)
        rw [← e] at this
        exact this
theorem rl0_R (z : Nat) : RLo z (rl0 z) := by
  refine ⟨fun i hi => ?_, fun i j hi hj hij => ?_⟩
  · unfold LB
    rcases rl0_c z hi with ⟨-, e⟩ | ⟨-, e⟩ | ⟨k, hk, -, e⟩ | ⟨k, hk, -, e⟩ <;> omega
  · rcases rl0_c z hi with ⟨a, e⟩ | ⟨a, e⟩ | ⟨k, hk, a, e⟩ | ⟨k, hk, a, e⟩ <;> rcases rl0_c z hj with ⟨a', e'⟩ | ⟨a', e'⟩ | ⟨k', hk', a', e'⟩ | ⟨k', hk', a', e'⟩ <;> omega
theorem s_X7_init {G : xG} {d : Nat} {f : Nat → xC} {Q : Option Value → xM → Prop} {z k : Nat} (h : f z = ob 7 [.null, .null, .null, .null, .null, .null, .null, .null]) (hq : ∀ F, CW F z (rl0 z) 0 S00 → Q none (F, (z + 187, k + 8805))) : xMet G (d + 4) mX7_init [.ref z] (f, (z + 1, k)) (z + 187, k + 8805) Q := by
  refine xMet_of (by decide +kernel) ⟨by dsimp only; omega, by dsimp only; omega⟩ rfl (Nat.le_of_ble_eq_true rfl) ?_
  show xX G (d + 4) mX7_init (z + 1, k) (z + 187, k + 8805) (xΦ G (z + 1, k) (z + 187, k + 8805) Q) 0 [(0, .ref z)] [] (f, (z + 1, k))
  refine xr_aload_n (n := 1) dX7_init_0 rfl rfl ?_
  refine xr_objInit (n := 4) dX7_init_1 km_X7_3 (by simp [Value.category]) rfl ?_
  refine xr_aload_n (n := 5) dX7_init_4 rfl rfl ?_
  refine xq_new (n := 8) (ci := 5) (fs := [.null, .int 0]) dX7_init_5 kc_X7_9 rfl (by decide) (by (try dsimp only); omega) rfl ?_
  simp only [Nat.add_assoc, Nat.reduceAdd]
  refine xr_dup (n := 9) dX7_init_8 rfl rfl ?_
  refine xr_callI (y2 := mX5_init) (As := []) (n := 12) (lim2 := (z + 3, k + 122)) dX7_init_9 lm_X7_11 pm_X5_init rfl rfl kp_instanceMethod_yX5_init rfl rfl (by simp [Value.category]) rfl ⟨by (try dsimp only); omega, by (try dsimp only); omega⟩ ?_
  refine s_X5_init (xu_s _ _ _) ?_
  dsimp only [xK, xps]
  simp only [Nat.add_assoc, Nat.reduceAdd]
  refine xq_putF (n := 15) dX7_init_12 fl_X7_12 rfl rfl rfl (by first | assumption | exact xu_s _ _ _ | exact (xu_n _ _ (by omega)).trans h | exact (bput_out (by omega)).trans ((xu_n _ _ (by omega)).trans h) | exact (plo z (by omega)).trans ((xu_n _ _ (by omega)).trans h) | exact (xu_n _ _ (by omega)).trans hZ1 | exact (bput_out (by omega)).trans ((xu_n _ _ (by omega)).trans hZ1) | exact (plo z (by omega)).trans ((xu_n _ _ (by omega)).trans hZ1) | exact (xu_n _ _ (by omega)).trans hZ2 | exact (bput_out (by omega)).trans ((xu_n _ _ (by omega)).trans hZ2) | exact (plo z (by omega)).trans ((xu_n _ _ (by omega)).trans hZ2) | exact (xu_n _ _ (by omega)).trans hZ3 | exact (bput_out (by omega)).trans ((xu_n _ _ (by omega)).trans hZ3) | exact (plo z (by omega)).trans ((xu_n _ _ (by omega)).trans hZ3) | exact (xu_n _ _ (by omega)).trans hZ4 | exact (bput_out (by omega)).trans ((xu_n _ _ (by omega)).trans hZ4) | exact (plo z (by omega)).trans ((xu_n _ _ (by omega)).trans hZ4) | exact (xu_n _ _ (by omega)).trans hZ5 | exact (bput_out (by omega)).trans ((xu_n _ _ (by omega)).trans hZ5) | exact (plo z (by omega)).trans ((xu_n _ _ (by omega)).trans hZ5) | exact (xu_n _ _ (by omega)).trans hZ6 | exact (bput_out (by omega)).trans ((xu_n _ _ (by omega)).trans hZ6) | exact (plo z (by omega)).trans ((xu_n _ _ (by omega)).trans hZ6) | exact (xu_n _ _ (by omega)).trans hZ | exact (bput_out (by omega)).trans ((xu_n _ _ (by omega)).trans hZ) | exact (plo z (by omega)).trans ((xu_n _ _ (by omega)).trans hZ) | exact (xu_n _ _ (by omega)).trans hZ8 | exact (bput_out (by omega)).trans ((xu_n _ _ (by omega)).trans hZ8) | exact (plo z (by omega)).trans ((xu_n _ _ (by omega)).trans hZ8)) (by rfl) (by rfl) (by rfl) rfl ?_
  dsimp only [List.set]
  generalize hG1 : xu _ z (ob 7 _) = F1
  have hZ1 : F1 z = ob 7 [.ref (z + 1), .null, .null, .null, .null, .null, .null, .null] := by rw [← hG1]; exact xu_s _ _ _
  have V1 : agr z (z + 1) f F1 := fun q h1 h2 => by rw [← hG1]; exact (xu_n _ _ (by omega)).trans ((bput_out (by omega)).trans (xu_n _ _ (by omega)))
  have B1 : xat F1 (z + 1) s0 := fun i hi => by rw [← hG1]; exact (xu_n _ _ (by omega)).trans (xput_at _ _ _ i hi)
  refine xr_aload_n (n := 16) dX7_init_15 rfl rfl ?_
  refine xq_new (n := 19) (ci := 1) (fs := [.int 0, .null, .null, .null, .null, .null, .null, .null, .null, .null]) dX7_init_16 kc_X7_16 rfl (by decide) (by (try dsimp only); omega) rfl ?_
  simp only [Nat.add_assoc, Nat.reduceAdd]
  refine xr_dup (n := 20) dX7_init_19 rfl rfl ?_
  refine xr_callI (y2 := mX1_init) (As := []) (n := 23) (lim2 := (z + 13, k + 672)) dX7_init_20 lm_X7_18 pm_X1_init rfl rfl kp_instanceMethod_yX1_init rfl rfl (by simp [Value.category]) rfl ⟨by (try dsimp only); omega, by (try dsimp only); omega⟩ ?_
  refine s_X1_init (xu_s _ _ _) ?_
  dsimp only [xK, xps]
  simp only [Nat.add_assoc, Nat.reduceAdd]
  refine xq_putF (n := 26) dX7_init_23 fl_X7_19 rfl rfl rfl (by first | assumption | exact xu_s _ _ _ | exact (xu_n _ _ (by omega)).trans h | exact (bput_out (by omega)).trans ((xu_n _ _ (by omega)).trans h) | exact (plo z (by omega)).trans ((xu_n _ _ (by omega)).trans h) | exact (xu_n _ _ (by omega)).trans hZ1 | exact (bput_out (by omega)).trans ((xu_n _ _ (by omega)).trans hZ1) | exact (plo z (by omega)).trans ((xu_n _ _ (by omega)).trans hZ1) | exact (xu_n _ _ (by omega)).trans hZ2 | exact (bput_out (by omega)).trans ((xu_n _ _ (by omega)).trans hZ2) | exact (plo z (by omega)).trans ((xu_n _ _ (by omega)).trans hZ2) | exact (xu_n _ _ (by omega)).trans hZ3 | exact (bput_out (by omega)).trans ((xu_n _ _ (by omega)).trans hZ3) | exact (plo z (by omega)).trans ((xu_n _ _ (by omega)).trans hZ3) | exact (xu_n _ _ (by omega)).trans hZ4 | exact (bput_out (by omega)).trans ((xu_n _ _ (by omega)).trans hZ4) | exact (plo z (by omega)).trans ((xu_n _ _ (by omega)).trans hZ4) | exact (xu_n _ _ (by omega)).trans hZ5 | exact (bput_out (by omega)).trans ((xu_n _ _ (by omega)).trans hZ5) | exact (plo z (by omega)).trans ((xu_n _ _ (by omega)).trans hZ5) | exact (xu_n _ _ (by omega)).trans hZ6 | exact (bput_out (by omega)).trans ((xu_n _ _ (by omega)).trans hZ6) | exact (plo z (by omega)).trans ((xu_n _ _ (by omega)).trans hZ6) | exact (xu_n _ _ (by omega)).trans hZ | exact (bput_out (by omega)).trans ((xu_n _ _ (by omega)).trans hZ) | exact (plo z (by omega)).trans ((xu_n _ _ (by omega)).trans hZ) | exact (xu_n _ _ (by omega)).trans hZ8 | exact (bput_out (by omega)).trans ((xu_n _ _ (by omega)).trans hZ8) | exact (plo z (by omega)).trans ((xu_n _ _ (by omega)).trans hZ8)) (by rfl) (by rfl) (by rfl) rfl ?_
  dsimp only [List.set]
  generalize hG2 : xu _ z (ob 7 _) = F2
  have hZ2 : F2 z = ob 7 [.ref (z + 1), .ref (z + 3), .null, .null, .null, .null, .null, .null] := by rw [← hG2]; exact xu_s _ _ _
  have V2 : agr z (z + 3) F1 F2 := fun q h1 h2 => by rw [← hG2]; exact (xu_n _ _ (by omega)).trans ((bput_out (by omega)).trans (xu_n _ _ (by omega)))
  have B2 : lat F2 (z + 3) s0 := fun i hi => by rw [← hG2]; exact (xu_n _ _ (by omega)).trans (lput_at _ _ _ i hi)
  refine xr_aload_n (n := 27) dX7_init_26 rfl rfl ?_
  refine xq_new (n := 30) (ci := 3) (fs := [.null, .null, .null, .null, .int 0, .int 0]) dX7_init_27 kc_X7_23 rfl (by decide) (by (try dsimp only); omega) rfl ?_
  simp only [Nat.add_assoc, Nat.reduceAdd]
  refine xr_dup (n := 31) dX7_init_30 rfl rfl ?_
  refine xr_aload_n (n := 32) dX7_init_31 rfl rfl ?_
  refine xr_get (n := 35) dX7_init_32 fl_X7_12 (by first | assumption | exact xu_s _ _ _ | exact (xu_n _ _ (by omega)).trans h | exact (bput_out (by omega)).trans ((xu_n _ _ (by omega)).trans h) | exact (plo z (by omega)).trans ((xu_n _ _ (by omega)).trans h) | exact (xu_n _ _ (by omega)).trans hZ1 | exact (bput_out (by omega)).trans ((xu_n _ _ (by omega)).trans hZ1) | exact (plo z (by omega)).trans ((xu_n _ _ (by omega)).trans hZ1) | exact (xu_n _ _ (by omega)).trans hZ2 | exact (bput_out (by omega)).trans ((xu_n _ _ (by omega)).trans hZ2) | exact (plo z (by omega)).trans ((xu_n _ _ (by omega)).trans hZ2) | exact (xu_n _ _ (by omega)).trans hZ3 | exact (bput_out (by omega)).trans ((xu_n _ _ (by omega)).trans hZ3) | exact (plo z (by omega)).trans ((xu_n _ _ (by omega)).trans hZ3) | exact (xu_n _ _ (by omega)).trans hZ4 | exact (bput_out (by omega)).trans ((xu_n _ _ (by omega)).trans hZ4) | exact (plo z (by omega)).trans ((xu_n _ _ (by omega)).trans hZ4) | exact (xu_n _ _ (by omega)).trans hZ5 | exact (bput_out (by omega)).trans ((xu_n _ _ (by omega)).trans hZ5) | exact (plo z (by omega)).trans ((xu_n _ _ (by omega)).trans hZ5) | exact (xu_n _ _ (by omega)).trans hZ6 | exact (bput_out (by omega)).trans ((xu_n _ _ (by omega)).trans hZ6) | exact (plo z (by omega)).trans ((xu_n _ _ (by omega)).trans hZ6) | exact (xu_n _ _ (by omega)).trans hZ | exact (bput_out (by omega)).trans ((xu_n _ _ (by omega)).trans hZ) | exact (plo z (by omega)).trans ((xu_n _ _ (by omega)).trans hZ) | exact (xu_n _ _ (by omega)).trans hZ8 | exact (bput_out (by omega)).trans ((xu_n _ _ (by omega)).trans hZ8) | exact (plo z (by omega)).trans ((xu_n _ _ (by omega)).trans hZ8)) (by rfl) rfl ?_
  refine xr_aload_n (n := 36) dX7_init_35 rfl rfl ?_
  refine xr_get (n := 39) dX7_init_36 fl_X7_19 (by first | assumption | exact xu_s _ _ _ | exact (xu_n _ _ (by omega)).trans h | exact (bput_out (by omega)).trans ((xu_n _ _ (by omega)).trans h) | exact (plo z (by omega)).trans ((xu_n _ _ (by omega)).trans h) | exact (xu_n _ _ (by omega)).trans hZ1 | exact (bput_out (by omega)).trans ((xu_n _ _ (by omega)).trans hZ1) | exact (plo z (by omega)).trans ((xu_n _ _ (by omega)).trans hZ1) | exact (xu_n _ _ (by omega)).trans hZ2 | exact (bput_out (by omega)).trans ((xu_n _ _ (by omega)).trans hZ2) | exact (plo z (by omega)).trans ((xu_n _ _ (by omega)).trans hZ2) | exact (xu_n _ _ (by omega)).trans hZ3 | exact (bput_out (by omega)).trans ((xu_n _ _ (by omega)).trans hZ3) | exact (plo z (by omega)).trans ((xu_n _ _ (by omega)).trans hZ3) | exact (xu_n _ _ (by omega)).trans hZ4 | exact (bput_out (by omega)).trans ((xu_n _ _ (by omega)).trans hZ4) | exact (plo z (by omega)).trans ((xu_n _ _ (by omega)).trans hZ4) | exact (xu_n _ _ (by omega)).trans hZ5 | exact (bput_out (by omega)).trans ((xu_n _ _ (by omega)).trans hZ5) | exact (plo z (by omega)).trans ((xu_n _ _ (by omega)).trans hZ5) | exact (xu_n _ _ (by omega)).trans hZ6 | exact (bput_out (by omega)).trans ((xu_n _ _ (by omega)).trans hZ6) | exact (plo z (by omega)).trans ((xu_n _ _ (by omega)).trans hZ6) | exact (xu_n _ _ (by omega)).trans hZ | exact (bput_out (by omega)).trans ((xu_n _ _ (by omega)).trans hZ) | exact (plo z (by omega)).trans ((xu_n _ _ (by omega)).trans hZ) | exact (xu_n _ _ (by omega)).trans hZ8 | exact (bput_out (by omega)).trans ((xu_n _ _ (by omega)).trans hZ8) | exact (plo z (by omega)).trans ((xu_n _ _ (by omega)).trans hZ8)) (by rfl) rfl ?_
  refine xr_callI (y2 := mX3_init) (As := [_, _]) (n := 42) (lim2 := (z + 16, k + 690)) dX7_init_39 lm_X7_25 pm_X3_init rfl rfl kp_instanceMethod_yX3_init rfl rfl (by simp [Value.category]) rfl ⟨by (try dsimp only); omega, by (try dsimp only); omega⟩ ?_
  refine s_X3_init (xu_s _ _ _) ?_
  dsimp only [xK, xps]
  simp only [Nat.add_assoc, Nat.reduceAdd]
  refine xq_putF (n := 45) dX7_init_42 fl_X7_28 rfl rfl rfl (by first | assumption | exact xu_s _ _ _ | exact (xu_n _ _ (by omega)).trans h | exact (bput_out (by omega)).trans ((xu_n _ _ (by omega)).trans h) | exact (plo z (by omega)).trans ((xu_n _ _ (by omega)).trans h) | exact (xu_n _ _ (by omega)).trans hZ1 | exact (bput_out (by omega)).trans ((xu_n _ _ (by omega)).trans hZ1) | exact (plo z (by omega)).trans ((xu_n _ _ (by omega)).trans hZ1) | exact (xu_n _ _ (by omega)).trans hZ2 | exact (bput_out (by omega)).trans ((xu_n _ _ (by omega)).trans hZ2) | exact (plo z (by omega)).trans ((xu_n _ _ (by omega)).trans hZ2) | exact (xu_n _ _ (by omega)).trans hZ3 | exact (bput_out (by omega)).trans ((xu_n _ _ (by omega)).trans hZ3) | exact (plo z (by omega)).trans ((xu_n _ _ (by omega)).trans hZ3) | exact (xu_n _ _ (by omega)).trans hZ4 | exact (bput_out (by omega)).trans ((xu_n _ _ (by omega)).trans hZ4) | exact (plo z (by omega)).trans ((xu_n _ _ (by omega)).trans hZ4) | exact (xu_n _ _ (by omega)).trans hZ5 | exact (bput_out (by omega)).trans ((xu_n _ _ (by omega)).trans hZ5) | exact (plo z (by omega)).trans ((xu_n _ _ (by omega)).trans hZ5) | exact (xu_n _ _ (by omega)).trans hZ6 | exact (bput_out (by omega)).trans ((xu_n _ _ (by omega)).trans hZ6) | exact (plo z (by omega)).trans ((xu_n _ _ (by omega)).trans hZ6) | exact (xu_n _ _ (by omega)).trans hZ | exact (bput_out (by omega)).trans ((xu_n _ _ (by omega)).trans hZ) | exact (plo z (by omega)).trans ((xu_n _ _ (by omega)).trans hZ) | exact (xu_n _ _ (by omega)).trans hZ8 | exact (bput_out (by omega)).trans ((xu_n _ _ (by omega)).trans hZ8) | exact (plo z (by omega)).trans ((xu_n _ _ (by omega)).trans hZ8)) (by rfl) (by rfl) (by rfl) rfl ?_
  dsimp only [List.set]
  generalize hG3 : xu _ z (ob 7 _) = F3
  have hZ3 : F3 z = ob 7 [.ref (z + 1), .ref (z + 3), .ref (z + 13), .null, .null, .null, .null, .null] := by rw [← hG3]; exact xu_s _ _ _
  have V3 : agr z (z + 13) F2 F3 := fun q h1 h2 => by rw [← hG3]; exact (xu_n _ _ (by omega)).trans ((bput_out (by omega)).trans (xu_n _ _ (by omega)))
  have B3 : qat F3 (z + 13) (z + 1) (z + 3) r0s := fun i hi => by rw [← hG3]; exact (xu_n _ _ (by omega)).trans (qput_at _ _ _ _ _ i hi)
  refine xr_aload_n (n := 46) dX7_init_45 rfl rfl ?_
  refine xq_new (n := 49) (ci := 0) (fs := [.null, .null, .int 0]) dX7_init_46 kc_X7_32 rfl (by decide) (by (try dsimp only); omega) rfl ?_
  simp only [Nat.add_assoc, Nat.reduceAdd]
  refine xr_dup (n := 50) dX7_init_49 rfl rfl ?_
  refine xr_callI (y2 := mX0_init) (As := []) (n := 53) (lim2 := (z + 119, k + 6203)) dX7_init_50 lm_X7_34 pm_X0_init rfl rfl kp_instanceMethod_yX0_init rfl rfl (by simp [Value.category]) rfl ⟨by (try dsimp only); omega, by (try dsimp only); omega⟩ ?_
  refine s_X0_init (xu_s _ _ _) (fun E g0 g1 p1 p2 p3 p4 p5 p6 plo => ?_)
  dsimp only [xK, xps]
  simp only [Nat.add_assoc, Nat.reduceAdd]
  refine xq_putF (n := 56) dX7_init_53 fl_X7_35 rfl rfl rfl (by first | assumption | exact xu_s _ _ _ | exact (xu_n _ _ (by omega)).trans h | exact (bput_out (by omega)).trans ((xu_n _ _ (by omega)).trans h) | exact (plo z (by omega)).trans ((xu_n _ _ (by omega)).trans h) | exact (xu_n _ _ (by omega)).trans hZ1 | exact (bput_out (by omega)).trans ((xu_n _ _ (by omega)).trans hZ1) | exact (plo z (by omega)).trans ((xu_n _ _ (by omega)).trans hZ1) | exact (xu_n _ _ (by omega)).trans hZ2 | exact (bput_out (by omega)).trans ((xu_n _ _ (by omega)).trans hZ2) | exact (plo z (by omega)).trans ((xu_n _ _ (by omega)).trans hZ2) | exact (xu_n _ _ (by omega)).trans hZ3 | exact (bput_out (by omega)).trans ((xu_n _ _ (by omega)).trans hZ3) | exact (plo z (by omega)).trans ((xu_n _ _ (by omega)).trans hZ3) | exact (xu_n _ _ (by omega)).trans hZ4 | exact (bput_out (by omega)).trans ((xu_n _ _ (by omega)).trans hZ4) | exact (plo z (by omega)).trans ((xu_n _ _ (by omega)).trans hZ4) | exact (xu_n _ _ (by omega)).trans hZ5 | exact (bput_out (by omega)).trans ((xu_n _ _ (by omega)).trans hZ5) | exact (plo z (by omega)).trans ((xu_n _ _ (by omega)).trans hZ5) | exact (xu_n _ _ (by omega)).trans hZ6 | exact (bput_out (by omega)).trans ((xu_n _ _ (by omega)).trans hZ6) | exact (plo z (by omega)).trans ((xu_n _ _ (by omega)).trans hZ6) | exact (xu_n _ _ (by omega)).trans hZ | exact (bput_out (by omega)).trans ((xu_n _ _ (by omega)).trans hZ) | exact (plo z (by omega)).trans ((xu_n _ _ (by omega)).trans hZ) | exact (xu_n _ _ (by omega)).trans hZ8 | exact (bput_out (by omega)).trans ((xu_n _ _ (by omega)).trans hZ8) | exact (plo z (by omega)).trans ((xu_n _ _ (by omega)).trans hZ8)) (by rfl) (by rfl) (by rfl) rfl ?_
  dsimp only [List.set]
  generalize hG4 : xu _ z (ob 7 _) = F4
  have hZ4 : F4 z = ob 7 [.ref (z + 1), .ref (z + 3), .ref (z + 13), .ref (z + 16), .null, .null, .null, .null] := by rw [← hG4]; exact xu_s _ _ _
  have V4 : agr z (z + 16) F3 F4 := fun q h1 h2 => by rw [← hG4]; exact (xu_n _ _ (by omega)).trans ((plo q (by omega)).trans (xu_n _ _ (by omega)))
  have E4 : ∀ q, q ≠ z → F4 q = E q := fun q hq => by rw [← hG4]; exact xu_n _ _ hq
  clear plo
  refine xr_aload_n (n := 57) dX7_init_56 rfl rfl ?_
  refine xq_new (n := 60) (ci := 4) (fs := [.null, .null]) dX7_init_57 kc_X7_39 rfl (by decide) (by (try dsimp only); omega) rfl ?_
  simp only [Nat.add_assoc, Nat.reduceAdd]
  refine xr_dup (n := 61) dX7_init_60 rfl rfl ?_
  refine xr_callI (y2 := mX4_init) (As := []) (n := 64) (lim2 := (z + 134, k + 7001)) dX7_init_61 lm_X7_41 pm_X4_init rfl rfl kp_instanceMethod_yX4_init rfl rfl (by simp [Value.category]) rfl ⟨by (try dsimp only); omega, by (try dsimp only); omega⟩ ?_
  refine s_X4_init (xu_s _ _ _) (fun E2 q1 q2 q3 plo => ?_)
  dsimp only [xK, xps]
  simp only [Nat.add_assoc, Nat.reduceAdd]
  refine xq_putF (n := 67) dX7_init_64 fl_X7_42 rfl rfl rfl (by first | assumption | exact xu_s _ _ _ | exact (xu_n _ _ (by omega)).trans h | exact (bput_out (by omega)).trans ((xu_n _ _ (by omega)).trans h) | exact (plo z (by omega)).trans ((xu_n _ _ (by omega)).trans h) | exact (xu_n _ _ (by omega)).trans hZ1 | exact (bput_out (by omega)).trans ((xu_n _ _ (by omega)).trans hZ1) | exact (plo z (by omega)).trans ((xu_n _ _ (by omega)).trans hZ1) | exact (xu_n _ _ (by omega)).trans hZ2 | exact (bput_out (by omega)).trans ((xu_n _ _ (by omega)).trans hZ2) | exact (plo z (by omega)).trans ((xu_n _ _ (by omega)).trans hZ2) | exact (xu_n _ _ (by omega)).trans hZ3 | exact (bput_out (by omega)).trans ((xu_n _ _ (by omega)).trans hZ3) | exact (plo z (by omega)).trans ((xu_n _ _ (by omega)).trans hZ3) | exact (xu_n _ _ (by omega)).trans hZ4 | exact (bput_out (by omega)).trans ((xu_n _ _ (by omega)).trans hZ4) | exact (plo z (by omega)).trans ((xu_n _ _ (by omega)).trans hZ4) | exact (xu_n _ _ (by omega)).trans hZ5 | exact (bput_out (by omega)).trans ((xu_n _ _ (by omega)).trans hZ5) | exact (plo z (by omega)).trans ((xu_n _ _ (by omega)).trans hZ5) | exact (xu_n _ _ (by omega)).trans hZ6 | exact (bput_out (by omega)).trans ((xu_n _ _ (by omega)).trans hZ6) | exact (plo z (by omega)).trans ((xu_n _ _ (by omega)).trans hZ6) | exact (xu_n _ _ (by omega)).trans hZ | exact (bput_out (by omega)).trans ((xu_n _ _ (by omega)).trans hZ) | exact (plo z (by omega)).trans ((xu_n _ _ (by omega)).trans hZ) | exact (xu_n _ _ (by omega)).trans hZ8 | exact (bput_out (by omega)).trans ((xu_n _ _ (by omega)).trans hZ8) | exact (plo z (by omega)).trans ((xu_n _ _ (by omega)).trans hZ8)) (by rfl) (by rfl) (by rfl) rfl ?_
  dsimp only [List.set]
  generalize hG5 : xu _ z (ob 7 _) = F5
  have hZ5 : F5 z = ob 7 [.ref (z + 1), .ref (z + 3), .ref (z + 13), .ref (z + 16), .ref (z + 119), .null, .null, .null] := by rw [← hG5]; exact xu_s _ _ _
  have V5 : agr z (z + 119) F4 F5 := fun q h1 h2 => by rw [← hG5]; exact (xu_n _ _ (by omega)).trans ((plo q (by omega)).trans (xu_n _ _ (by omega)))
  have E5 : ∀ q, q ≠ z → F5 q = E2 q := fun q hq => by rw [← hG5]; exact xu_n _ _ hq
  clear plo
  refine xr_aload_n (n := 68) dX7_init_67 rfl rfl ?_
  refine xr_bipush (v := nI 16) (n := 70) dX7_init_68 (by decide) rfl ?_
  refine xq_anewarray (n := 73) (t := 3) (N := 16) dX7_init_70 kc_X7_46 (by simp) (by decide) (nI_clamp (by omega)) (by decide) (by (try dsimp only); omega) rfl ?_
  simp only [Nat.add_assoc, Nat.reduceAdd]
  refine xq_putF (n := 76) dX7_init_73 fl_X7_48 rfl rfl rfl (by first | assumption | exact xu_s _ _ _ | exact (xu_n _ _ (by omega)).trans h | exact (bput_out (by omega)).trans ((xu_n _ _ (by omega)).trans h) | exact (plo z (by omega)).trans ((xu_n _ _ (by omega)).trans h) | exact (xu_n _ _ (by omega)).trans hZ1 | exact (bput_out (by omega)).trans ((xu_n _ _ (by omega)).trans hZ1) | exact (plo z (by omega)).trans ((xu_n _ _ (by omega)).trans hZ1) | exact (xu_n _ _ (by omega)).trans hZ2 | exact (bput_out (by omega)).trans ((xu_n _ _ (by omega)).trans hZ2) | exact (plo z (by omega)).trans ((xu_n _ _ (by omega)).trans hZ2) | exact (xu_n _ _ (by omega)).trans hZ3 | exact (bput_out (by omega)).trans ((xu_n _ _ (by omega)).trans hZ3) | exact (plo z (by omega)).trans ((xu_n _ _ (by omega)).trans hZ3) | exact (xu_n _ _ (by omega)).trans hZ4 | exact (bput_out (by omega)).trans ((xu_n _ _ (by omega)).trans hZ4) | exact (plo z (by omega)).trans ((xu_n _ _ (by omega)).trans hZ4) | exact (xu_n _ _ (by omega)).trans hZ5 | exact (bput_out (by omega)).trans ((xu_n _ _ (by omega)).trans hZ5) | exact (plo z (by omega)).trans ((xu_n _ _ (by omega)).trans hZ5) | exact (xu_n _ _ (by omega)).trans hZ6 | exact (bput_out (by omega)).trans ((xu_n _ _ (by omega)).trans hZ6) | exact (plo z (by omega)).trans ((xu_n _ _ (by omega)).trans hZ6) | exact (xu_n _ _ (by omega)).trans hZ | exact (bput_out (by omega)).trans ((xu_n _ _ (by omega)).trans hZ) | exact (plo z (by omega)).trans ((xu_n _ _ (by omega)).trans hZ) | exact (xu_n _ _ (by omega)).trans hZ8 | exact (bput_out (by omega)).trans ((xu_n _ _ (by omega)).trans hZ8) | exact (plo z (by omega)).trans ((xu_n _ _ (by omega)).trans hZ8)) (by rfl) (by rfl) (by rfl) rfl ?_
  dsimp only [List.set]
  generalize hG6 : xu _ z (ob 7 _) = F6
  have hZ6 : F6 z = ob 7 [.ref (z + 1), .ref (z + 3), .ref (z + 13), .ref (z + 16), .ref (z + 119), .ref (z + 134), .null, .null] := by rw [← hG6]; exact xu_s _ _ _
  have V6 : agr z (z + 134) F5 F6 := fun q h1 h2 => by rw [← hG6]; exact (xu_n _ _ (by omega)).trans (xu_n _ _ (by omega))
  have A6 : F6 (z + 134) = aR 3 16 (fun _ => none) := by rw [← hG6]; exact (xu_n _ _ (by omega)).trans (xu_s _ _ _)
  refine xr_iconst (v := nI 0) (n := 77) dX7_init_76 (by decide) rfl ?_
  refine xq_istore_n 1 (n := 78) dX7_init_77 rfl rfl rfl ?_
  simp only [xst, Nat.beq, List.filter, Bool.not_true, Bool.not_false]
  have key : ∀ i, i ≤ 16 → ∀ F g, F z = ob 7 [.ref (z + 1), .ref (z + 3), .ref (z + 13), .ref (z + 16), .ref (z + 119), .ref (z + 134), .null, .null] → agr z (z + 134) F6 F → F (z + 134) = aR 3 16 g → (∀ j, j < i → g j = some (z + 135 + 2 * j)) → (∀ j, j < i → oat F (z + 135 + 2 * j) s0) → xX G (d + 4) mX7_init (z + 1, k) (z + 187, k + 8805) (xΦ G (z + 1, k) (z + 187, k + 8805) Q) 78 [(0, .ref z), (1, .int (nI i))] [] (F, (z + 135 + 2 * i, k + 7017 + 43 * i)) := by
    refine nat_down (P := fun i => ∀ F g, F z = ob 7 [.ref (z + 1), .ref (z + 3), .ref (z + 13), .ref (z + 16), .ref (z + 119), .ref (z + 134), .null, .null] → agr z (z + 134) F6 F → F (z + 134) = aR 3 16 g → (∀ j, j < i → g j = some (z + 135 + 2 * j)) → (∀ j, j < i → oat F (z + 135 + 2 * j) s0) → xX G (d + 4) mX7_init (z + 1, k) (z + 187, k + 8805) (xΦ G (z + 1, k) (z + 187, k + 8805) Q) 78 [(0, .ref z), (1, .int (nI i))] [] (F, (z + 135 + 2 * i, k + 7017 + 43 * i))) (N := 16) ?_ ?_
    · intro F g hZ hag hA hgs ho
      refine xr_iload_n (n := 79) dX7_init_78 rfl rfl ?_
      refine xr_bipush (v := nI 16) (n := 81) dX7_init_79 (by decide) rfl ?_
      refine xr_icmp_ge (tgt := 103) (n := 84) dX7_init_81 (by decide) rfl (fun h81 => ?_) (fun h81 => by (exfalso; ((try simp (disch := omega) only [i_lt, i_le, i_eq, nt, i_m1, Int32.toInt_zero] at *); omega)))
      refine xr_aload_n (n := 104) dX7_init_103 rfl rfl ?_
      show xX G (d + 4) mX7_init (z + 1, k) (z + 187, k + 8805) (xΦ G (z + 1, k) (z + 187, k + 8805) Q) 104 [(0, .ref z), (1, .int (nI 16))] [.ref z] (F, (z + 167, k + 7705))
      refine xq_new (n := 107) (ci := 1) (fs := [.int 0, .null, .null, .null, .null, .null, .null, .null, .null, .null]) dX7_init_104 kc_X7_16 rfl (by decide) (by (try dsimp only); omega) rfl ?_
      simp only [Nat.add_assoc, Nat.reduceAdd]
      refine xr_dup (n := 108) dX7_init_107 rfl rfl ?_
      refine xr_callI (y2 := mX1_init) (As := []) (n := 111) (lim2 := (z + 177, k + 8255)) dX7_init_108 lm_X7_18 pm_X1_init rfl rfl kp_instanceMethod_yX1_init rfl rfl (by simp [Value.category]) rfl ⟨by (try dsimp only); omega, by (try dsimp only); omega⟩ ?_
      refine s_X1_init (xu_s _ _ _) ?_
      dsimp only [xK, xps]
      simp only [Nat.add_assoc, Nat.reduceAdd]
      refine xq_put (n := 114) dX7_init_111 fl_X7_53 rfl (by first | assumption | exact xu_s _ _ _ | exact (xu_n _ _ (by omega)).trans h | exact (bput_out (by omega)).trans ((xu_n _ _ (by omega)).trans h) | exact (plo z (by omega)).trans ((xu_n _ _ (by omega)).trans h) | exact (xu_n _ _ (by omega)).trans hZ1 | exact (bput_out (by omega)).trans ((xu_n _ _ (by omega)).trans hZ1) | exact (plo z (by omega)).trans ((xu_n _ _ (by omega)).trans hZ1) | exact (xu_n _ _ (by omega)).trans hZ2 | exact (bput_out (by omega)).trans ((xu_n _ _ (by omega)).trans hZ2) | exact (plo z (by omega)).trans ((xu_n _ _ (by omega)).trans hZ2) | exact (xu_n _ _ (by omega)).trans hZ3 | exact (bput_out (by omega)).trans ((xu_n _ _ (by omega)).trans hZ3) | exact (plo z (by omega)).trans ((xu_n _ _ (by omega)).trans hZ3) | exact (xu_n _ _ (by omega)).trans hZ4 | exact (bput_out (by omega)).trans ((xu_n _ _ (by omega)).trans hZ4) | exact (plo z (by omega)).trans ((xu_n _ _ (by omega)).trans hZ4) | exact (xu_n _ _ (by omega)).trans hZ5 | exact (bput_out (by omega)).trans ((xu_n _ _ (by omega)).trans hZ5) | exact (plo z (by omega)).trans ((xu_n _ _ (by omega)).trans hZ5) | exact (xu_n _ _ (by omega)).trans hZ6 | exact (bput_out (by omega)).trans ((xu_n _ _ (by omega)).trans hZ6) | exact (plo z (by omega)).trans ((xu_n _ _ (by omega)).trans hZ6) | exact (xu_n _ _ (by omega)).trans hZ | exact (bput_out (by omega)).trans ((xu_n _ _ (by omega)).trans hZ) | exact (plo z (by omega)).trans ((xu_n _ _ (by omega)).trans hZ) | exact (xu_n _ _ (by omega)).trans hZ8 | exact (bput_out (by omega)).trans ((xu_n _ _ (by omega)).trans hZ8) | exact (plo z (by omega)).trans ((xu_n _ _ (by omega)).trans hZ8)) (by rfl) (by rfl) (by rfl) rfl ?_
      dsimp only [List.set]
      generalize hG8 : xu _ z (ob 7 _) = F8
      have hZ8 : F8 z = ob 7 [.ref (z + 1), .ref (z + 3), .ref (z + 13), .ref (z + 16), .ref (z + 119), .ref (z + 134), .ref (z + 167), .null] := by rw [← hG8]; exact xu_s _ _ _
      have V8 : agr z (z + 167) F F8 := fun q h1 h2 => by rw [← hG8]; exact (xu_n _ _ (by omega)).trans ((bput_out (by omega)).trans (xu_n _ _ (by omega)))
      have B8 : lat F8 (z + 167) s0 := fun i hi => by rw [← hG8]; exact (xu_n _ _ (by omega)).trans (lput_at _ _ _ i hi)
      refine xr_aload_n (n := 115) dX7_init_114 rfl rfl ?_
      refine xq_new (n := 118) (ci := 1) (fs := [.int 0, .null, .null, .null, .null, .null, .null, .null, .null, .null]) dX7_init_115 kc_X7_16 rfl (by decide) (by (try dsimp only); omega) rfl ?_
      simp only [Nat.add_assoc, Nat.reduceAdd]
      refine xr_dup (n := 119) dX7_init_118 rfl rfl ?_
      refine xr_callI (y2 := mX1_init) (As := []) (n := 122) (lim2 := (z + 187, k + 8805)) dX7_init_119 lm_X7_18 pm_X1_init rfl rfl kp_instanceMethod_yX1_init rfl rfl (by simp [Value.category]) rfl ⟨by (try dsimp only); omega, by (try dsimp only); omega⟩ ?_
      refine s_X1_init (xu_s _ _ _) ?_
      dsimp only [xK, xps]
      simp only [Nat.add_assoc, Nat.reduceAdd]
      refine xq_put (n := 125) dX7_init_122 fl_X7_56 rfl (by first | assumption | exact xu_s _ _ _ | exact (xu_n _ _ (by omega)).trans h | exact (bput_out (by omega)).trans ((xu_n _ _ (by omega)).trans h) | exact (plo z (by omega)).trans ((xu_n _ _ (by omega)).trans h) | exact (xu_n _ _ (by omega)).trans hZ1 | exact (bput_out (by omega)).trans ((xu_n _ _ (by omega)).trans hZ1) | exact (plo z (by omega)).trans ((xu_n _ _ (by omega)).trans hZ1) | exact (xu_n _ _ (by omega)).trans hZ2 | exact (bput_out (by omega)).trans ((xu_n _ _ (by omega)).trans hZ2) | exact (plo z (by omega)).trans ((xu_n _ _ (by omega)).trans hZ2) | exact (xu_n _ _ (by omega)).trans hZ3 | exact (bput_out (by omega)).trans ((xu_n _ _ (by omega)).trans hZ3) | exact (plo z (by omega)).trans ((xu_n _ _ (by omega)).trans hZ3) | exact (xu_n _ _ (by omega)).trans hZ4 | exact (bput_out (by omega)).trans ((xu_n _ _ (by omega)).trans hZ4) | exact (plo z (by omega)).trans ((xu_n _ _ (by omega)).trans hZ4) | exact (xu_n _ _ (by omega)).trans hZ5 | exact (bput_out (by omega)).trans ((xu_n _ _ (by omega)).trans hZ5) | exact (plo z (by omega)).trans ((xu_n _ _ (by omega)).trans hZ5) | exact (xu_n _ _ (by omega)).trans hZ6 | exact (bput_out (by omega)).trans ((xu_n _ _ (by omega)).trans hZ6) | exact (plo z (by omega)).trans ((xu_n _ _ (by omega)).trans hZ6) | exact (xu_n _ _ (by omega)).trans hZ | exact (bput_out (by omega)).trans ((xu_n _ _ (by omega)).trans hZ) | exact (plo z (by omega)).trans ((xu_n _ _ (by omega)).trans hZ) | exact (xu_n _ _ (by omega)).trans hZ8 | exact (bput_out (by omega)).trans ((xu_n _ _ (by omega)).trans hZ8) | exact (plo z (by omega)).trans ((xu_n _ _ (by omega)).trans hZ8)) (by rfl) (by rfl) (by rfl) rfl ?_
      dsimp only [List.set]
      generalize hG9 : xu _ z (ob 7 _) = F9
      have hZ9 : F9 z = ob 7 [.ref (z + 1), .ref (z + 3), .ref (z + 13), .ref (z + 16), .ref (z + 119), .ref (z + 134), .ref (z + 167), .ref (z + 177)] := by rw [← hG9]; exact xu_s _ _ _
      have V9 : agr z (z + 177) F8 F9 := fun q h1 h2 => by rw [← hG9]; exact (xu_n _ _ (by omega)).trans ((bput_out (by omega)).trans (xu_n _ _ (by omega)))
      have B9 : lat F9 (z + 177) s0 := fun i hi => by rw [← hG9]; exact (xu_n _ _ (by omega)).trans (lput_at _ _ _ i hi)
      refine xr_return dX7_init_125 rfl rfl ?_
      have W8 := V9
      have W7 := V8.tr W8 (by omega)
      have W6 := hag.tr W7 (by omega)
      have W5 := V6.tr W6 (by omega)
      have W4 := V5.tr W5 (by omega)
      have W3 := V4.tr W4 (by omega)
      have W2 := V3.tr W3 (by omega)
      have W1 := V2.tr W2 (by omega)
      have l0 : ∀ j, j < 5 → lat F9 (z + 19 + 20 * j) s0 ∧ lat F9 (z + 29 + 20 * j) s0 := fun j hj => by
        obtain ⟨x1, x2⟩ := p6 j hj
        exact ⟨bat_ag (f := F4) (fun i hi => (E4 _ (by omega)).trans (x1 i hi)) W4 (by omega) (by omega), bat_ag (f := F4) (fun i hi => (E4 _ (by omega)).trans (x2 i hi)) W4 (by omega) (by omega)⟩
      have t0 : tat F9 (z + 120) s0 := bat_ag (f := F5) (fun i hi => (E5 _ (by omega)).trans (q2 i hi)) W5 (by omega) (by omega)
      have t1 : tat F9 (z + 127) s0 := bat_ag (f := F5) (fun i hi => (E5 _ (by omega)).trans (q3 i hi)) W5 (by omega) (by omega)
      have c1 : F9 (z + 119) = ob 4 [.ref (z + 120), .ref (z + 127)] := (W5 _ (by omega) (by omega)).trans ((E5 _ (by omega)).trans q1)
      have c2 : F9 (z + 16) = ob 0 [.ref (z + 17), .ref (z + 18), .int (nI 0)] := (W4 _ (by omega) (by omega)).trans ((E4 _ (by omega)).trans p1)
      have c3 : F9 (z + 17) = aR 2 5 g0 := (W4 _ (by omega) (by omega)).trans ((E4 _ (by omega)).trans p2)
      have c4 : F9 (z + 18) = aR 2 5 g1 := (W4 _ (by omega) (by omega)).trans ((E4 _ (by omega)).trans p4)
      have c5 : F9 (z + 134) = aR 3 16 g := (W7 _ (by omega) (by omega)).trans hA
      refine hq F9 ⟨rl0_R z, ⟨hZ9, c1, g, c5, fun j hj => hgs j hj⟩, ⟨c2, ⟨g0, c3, fun j hj => ?_⟩, g1, c4, fun j hj => ?_⟩, fun i hi => ?_⟩
      · rw [rl0_a z j hj]; exact p3 j hj
      · rw [rl0_b z j hj]
        refine (p5 j hj).trans ?_
        congr 1
      · by_cases hl : i < 12
        · rw [ba_l hl, bn_l hl, bc_l hl]
          have hs : S00 i = s0 := if_neg (by omega)
          rw [hs]
          rcases rl0_c z hl with ⟨_, e⟩ | ⟨_, e⟩ | ⟨j, hj, _, e⟩ | ⟨j, hj, _, e⟩ <;> rw [e]
          · exact bat_ag B8 W8 (by omega) (by omega)
          · exact B9
          · exact (l0 j hj).1
          · exact (l0 j hj).2
        · rcases (show i = 12 ∨ i = 13 ∨ i = 14 ∨ i = 15 ∨ i = 16 ∨ ∃ j, j < 16 ∧ i = 17 + j from by
            rcases (show i = 12 ∨ i = 13 ∨ i = 14 ∨ i = 15 ∨ i = 16 ∨ 17 ≤ i by omega) with e | e | e | e | e | e
            · exact Or.inl e
            · exact Or.inr (Or.inl e)
            · exact Or.inr (Or.inr (Or.inl e))
            · exact Or.inr (Or.inr (Or.inr (Or.inl e)))
            · exact Or.inr (Or.inr (Or.inr (Or.inr (Or.inl e))))
            · exact Or.inr (Or.inr (Or.inr (Or.inr (Or.inr ⟨i - 17, by omega, by omega⟩))))) with rfl | rfl | rfl | rfl | rfl | ⟨j, hj, rfl⟩
          · exact bat_ag (a := z + 3) (n := 10) B2 W2 (by omega) (by omega)
          · exact bat_ag (a := z + 1) (n := 2) B1 W1 (by omega) (by omega)
          · exact bat_ag (a := z + 13) (n := 3) B3 W3 (by omega) (by omega)
          · exact t0
          · exact t1
          · rw [ba_o, bn_o, bc_o (by omega), show S00 (17 + j) = s0 from if_neg (by omega)]
            exact bat_ag (ho j hj) W7 (by omega) (by omega)
    · intro i hi ih F g hZ hag hA hgs ho
      refine xr_iload_n (n := 79) dX7_init_78 rfl rfl ?_
      refine xr_bipush (v := nI 16) (n := 81) dX7_init_79 (by decide) rfl ?_
      refine xr_icmp_ge (tgt := 103) (n := 84) dX7_init_81 (by decide) rfl (fun h81 => by (exfalso; ((try simp (disch := omega) only [i_lt, i_le, i_eq, nt, i_m1, Int32.toInt_zero] at *); omega))) (fun h81 => ?_)
      refine xr_aload_n (n := 85) dX7_init_84 rfl rfl ?_
      refine xr_get (n := 88) dX7_init_85 fl_X7_48 (by first | assumption | exact xu_s _ _ _ | exact (xu_n _ _ (by omega)).trans h | exact (bput_out (by omega)).trans ((xu_n _ _ (by omega)).trans h) | exact (plo z (by omega)).trans ((xu_n _ _ (by omega)).trans h) | exact (xu_n _ _ (by omega)).trans hZ1 | exact (bput_out (by omega)).trans ((xu_n _ _ (by omega)).trans hZ1) | exact (plo z (by omega)).trans ((xu_n _ _ (by omega)).trans hZ1) | exact (xu_n _ _ (by omega)).trans hZ2 | exact (bput_out (by omega)).trans ((xu_n _ _ (by omega)).trans hZ2) | exact (plo z (by omega)).trans ((xu_n _ _ (by omega)).trans hZ2) | exact (xu_n _ _ (by omega)).trans hZ3 | exact (bput_out (by omega)).trans ((xu_n _ _ (by omega)).trans hZ3) | exact (plo z (by omega)).trans ((xu_n _ _ (by omega)).trans hZ3) | exact (xu_n _ _ (by omega)).trans hZ4 | exact (bput_out (by omega)).trans ((xu_n _ _ (by omega)).trans hZ4) | exact (plo z (by omega)).trans ((xu_n _ _ (by omega)).trans hZ4) | exact (xu_n _ _ (by omega)).trans hZ5 | exact (bput_out (by omega)).trans ((xu_n _ _ (by omega)).trans hZ5) | exact (plo z (by omega)).trans ((xu_n _ _ (by omega)).trans hZ5) | exact (xu_n _ _ (by omega)).trans hZ6 | exact (bput_out (by omega)).trans ((xu_n _ _ (by omega)).trans hZ6) | exact (plo z (by omega)).trans ((xu_n _ _ (by omega)).trans hZ6) | exact (xu_n _ _ (by omega)).trans hZ | exact (bput_out (by omega)).trans ((xu_n _ _ (by omega)).trans hZ) | exact (plo z (by omega)).trans ((xu_n _ _ (by omega)).trans hZ) | exact (xu_n _ _ (by omega)).trans hZ8 | exact (bput_out (by omega)).trans ((xu_n _ _ (by omega)).trans hZ8) | exact (plo z (by omega)).trans ((xu_n _ _ (by omega)).trans hZ8) | exact oat_0 n1) (by rfl) rfl ?_
      refine xr_iload_n (n := 89) dX7_init_88 rfl rfl ?_
      refine xq_new (n := 92) (ci := 2) (fs := [.null, .int 0, .int 0]) dX7_init_89 kc_X7_46 rfl (by decide) (by (try dsimp only); omega) rfl ?_
      refine xr_dup (n := 93) dX7_init_92 rfl rfl ?_
      refine xr_callI (y2 := mX2_init) (As := []) (n := 96) (lim2 := (z + 135 + 2 * i + 2, k + 7017 + 43 * i + 3 + 40)) dX7_init_93 lm_X7_52 pm_X2_init rfl rfl kp_instanceMethod_yX2_init rfl rfl (by simp [Value.category]) rfl ⟨by (try dsimp only); omega, by (try dsimp only); omega⟩ ?_
      refine s_X2_init (xu_s _ _ _) ?_
      generalize hH1 : oput (xu F (z + 135 + 2 * i) (ob 2 [.null, .int 0, .int 0])) (z + 135 + 2 * i) s0 = H1
      have n1 : oat H1 (z + 135 + 2 * i) s0 := by rw [← hH1]; exact oput_at _ _ _
      have n2 : ∀ q, q < z + 135 + 2 * i → H1 q = F q := fun q hq => by rw [← hH1]; exact (bput_out (by omega)).trans (xu_n _ _ (by omega))
      have n3 := (n2 (z + 134) (by omega)).trans hA
      dsimp only [xK, xps]
      refine xq_aastore (n := 97) dX7_init_96 (by first | assumption | exact xu_s _ _ _ | exact (xu_n _ _ (by omega)).trans h | exact (bput_out (by omega)).trans ((xu_n _ _ (by omega)).trans h) | exact (plo z (by omega)).trans ((xu_n _ _ (by omega)).trans h) | exact (xu_n _ _ (by omega)).trans hZ1 | exact (bput_out (by omega)).trans ((xu_n _ _ (by omega)).trans hZ1) | exact (plo z (by omega)).trans ((xu_n _ _ (by omega)).trans hZ1) | exact (xu_n _ _ (by omega)).trans hZ2 | exact (bput_out (by omega)).trans ((xu_n _ _ (by omega)).trans hZ2) | exact (plo z (by omega)).trans ((xu_n _ _ (by omega)).trans hZ2) | exact (xu_n _ _ (by omega)).trans hZ3 | exact (bput_out (by omega)).trans ((xu_n _ _ (by omega)).trans hZ3) | exact (plo z (by omega)).trans ((xu_n _ _ (by omega)).trans hZ3) | exact (xu_n _ _ (by omega)).trans hZ4 | exact (bput_out (by omega)).trans ((xu_n _ _ (by omega)).trans hZ4) | exact (plo z (by omega)).trans ((xu_n _ _ (by omega)).trans hZ4) | exact (xu_n _ _ (by omega)).trans hZ5 | exact (bput_out (by omega)).trans ((xu_n _ _ (by omega)).trans hZ5) | exact (plo z (by omega)).trans ((xu_n _ _ (by omega)).trans hZ5) | exact (xu_n _ _ (by omega)).trans hZ6 | exact (bput_out (by omega)).trans ((xu_n _ _ (by omega)).trans hZ6) | exact (plo z (by omega)).trans ((xu_n _ _ (by omega)).trans hZ6) | exact (xu_n _ _ (by omega)).trans hZ | exact (bput_out (by omega)).trans ((xu_n _ _ (by omega)).trans hZ) | exact (plo z (by omega)).trans ((xu_n _ _ (by omega)).trans hZ) | exact (xu_n _ _ (by omega)).trans hZ8 | exact (bput_out (by omega)).trans ((xu_n _ _ (by omega)).trans hZ8) | exact (plo z (by omega)).trans ((xu_n _ _ (by omega)).trans hZ8) | exact oat_0 n1) (by first | assumption | exact xu_s _ _ _ | exact (xu_n _ _ (by omega)).trans h | exact (bput_out (by omega)).trans ((xu_n _ _ (by omega)).trans h) | exact (plo z (by omega)).trans ((xu_n _ _ (by omega)).trans h) | exact (xu_n _ _ (by omega)).trans hZ1 | exact (bput_out (by omega)).trans ((xu_n _ _ (by omega)).trans hZ1) | exact (plo z (by omega)).trans ((xu_n _ _ (by omega)).trans hZ1) | exact (xu_n _ _ (by omega)).trans hZ2 | exact (bput_out (by omega)).trans ((xu_n _ _ (by omega)).trans hZ2) | exact (plo z (by omega)).trans ((xu_n _ _ (by omega)).trans hZ2) | exact (xu_n _ _ (by omega)).trans hZ3 | exact (bput_out (by omega)).trans ((xu_n _ _ (by omega)).trans hZ3) | exact (plo z (by omega)).trans ((xu_n _ _ (by omega)).trans hZ3) | exact (xu_n _ _ (by omega)).trans hZ4 | exact (bput_out (by omega)).trans ((xu_n _ _ (by omega)).trans hZ4) | exact (plo z (by omega)).trans ((xu_n _ _ (by omega)).trans hZ4) | exact (xu_n _ _ (by omega)).trans hZ5 | exact (bput_out (by omega)).trans ((xu_n _ _ (by omega)).trans hZ5) | exact (plo z (by omega)).trans ((xu_n _ _ (by omega)).trans hZ5) | exact (xu_n _ _ (by omega)).trans hZ6 | exact (bput_out (by omega)).trans ((xu_n _ _ (by omega)).trans hZ6) | exact (plo z (by omega)).trans ((xu_n _ _ (by omega)).trans hZ6) | exact (xu_n _ _ (by omega)).trans hZ | exact (bput_out (by omega)).trans ((xu_n _ _ (by omega)).trans hZ) | exact (plo z (by omega)).trans ((xu_n _ _ (by omega)).trans hZ) | exact (xu_n _ _ (by omega)).trans hZ8 | exact (bput_out (by omega)).trans ((xu_n _ _ (by omega)).trans hZ8) | exact (plo z (by omega)).trans ((xu_n _ _ (by omega)).trans hZ8) | exact oat_0 n1) (by simp) (by first | exact vp_in_nI (by omega) (by omega)) rfl ?_
      rw [nI_clamp (by omega)]
      generalize hH2 : xu H1 (z + 134) (aR 3 16 (va_up g i (some (z + 135 + 2 * i)))) = H2
      have m1 : ∀ q, q ≠ z + 134 → H2 q = H1 q := fun q hq => by rw [← hH2]; exact xu_n _ _ hq
      have m2 : H2 (z + 134) = aR 3 16 (va_up g i (some (z + 135 + 2 * i))) := by rw [← hH2]; exact xu_s _ _ _
      refine xr_iinc (n := 100) dX7_init_97 rfl rfl (rfl) rfl ?_
      simp only [xst, Nat.beq, List.filter, Bool.not_true, Bool.not_false]
      rw [show (Int32.ofInt 1) = nI 1 from rfl, nI_add]
      refine xr_goto (n := 78) dX7_init_100 (by decide) ?_
      refine xX.eq rfl rfl rfl (by rw [show z + 135 + 2 * (i + 1) = z + 135 + 2 * i + 2 by omega, show k + 7017 + 43 * (i + 1) = k + 7017 + 43 * i + 3 + 40 by omega]) (ih H2 (va_up g i (some (z + 135 + 2 * i))) ?_ ?_ m2 ?_ ?_)
      · rw [m1 _ (by omega), n2 _ (by omega)]; exact hZ
      · intro q h1 h2
        rw [m1 _ (by omega), n2 _ (by omega)]
        exact hag q h1 h2
      · intro j hj
        show (if j = i then some (z + 135 + 2 * i) else g j) = _
        by_cases e : j = i
        · rw [if_pos e, e]
        · rw [if_neg e]; exact hgs j (by omega)
      · intro j hj
        by_cases e : j = i
        · subst e
          intro q hq
          rw [m1 _ (by omega)]
          exact n1 q hq
        · intro q hq
          rw [m1 _ (by omega), n2 _ (by omega)]
          exact ho j (by omega) q hq
  exact key 0 (Nat.zero_le _) F6 (fun _ => none) hZ6 (fun _ _ _ => rfl) A6 (fun j hj => by omega) (fun j hj => by omega)

