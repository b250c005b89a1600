/-! constructors, second -/
def r0s : xS := up2 (up2 s0 0 0 (-1)) 1 0 (nI 0)
theorem s_X3_init {G : xG} {d : Nat} {f : Nat → xC} {Q : Option Value → xM → Prop} {a k : Nat} {x e : Nat} (h : f a = ob 3 [.null, .null, .null, .null, .int 0, .int 0]) (hq : Q none (qput f a x e r0s, (a + 3, k + 12))) : xMet G (d + 1) mX3_init [.ref a, .ref x, .ref e] (f, (a + 1, k)) (a + 3, k + 12) Q := by
  refine xMet_of (by decide +kernel) ⟨by dsimp only; omega, by dsimp only; omega⟩ rfl (Nat.le_of_ble_eq_true rfl) ?_
  show xX G (d + 1) mX3_init (a + 1, k) (a + 3, k + 12) (xΦ G (a + 1, k) (a + 3, k + 12) Q) 0 [(0, .ref a), (1, .ref x), (2, .ref e)] [] (f, (a + 1, k))
  refine xr_aload_n (n := 1) dX3_init_0 rfl rfl ?_
  refine xr_objInit (n := 4) dX3_init_1 km_X3_3 (by simp [Value.category]) rfl ?_
  refine xr_aload_n (n := 5) dX3_init_4 rfl rfl ?_
  refine xr_bipush (v := nI 6) (n := 7) dX3_init_5 (by decide) rfl ?_
  refine xq_newarray (n := 9) (t := 0) (N := 6) dX3_init_7 (by simp) (by decide) (nI_clamp (by omega)) (by decide) (by (try dsimp only); omega) rfl ?_
  simp only [Nat.add_assoc, Nat.reduceAdd]
  refine xq_putF (n := 12) dX3_init_9 fl_X3_9 rfl rfl rfl (by first | exact h | assumption | exact xu_s _ _ _ | exact (xu_n _ _ (by omega)).trans h | exact (xu_n _ _ (by omega)).trans (by assumption) | exact (xu_n _ _ (by omega)).trans (xu_s _ _ _) | simp (disch := omega) only [xu_s, xu_n, *]) (by rfl) (by rfl) (by rfl) rfl ?_
  dsimp only [List.set]
  refine xr_aload_n (n := 13) dX3_init_12 rfl rfl ?_
  refine xr_bipush (v := nI 6) (n := 15) dX3_init_13 (by decide) rfl ?_
  refine xq_newarray (n := 17) (t := 0) (N := 6) dX3_init_15 (by simp) (by decide) (nI_clamp (by omega)) (by decide) (by (try dsimp only); omega) rfl ?_
  simp only [Nat.add_assoc, Nat.reduceAdd]
  refine xq_putF (n := 20) dX3_init_17 fl_X3_15 rfl rfl rfl (by first | exact h | assumption | exact xu_s _ _ _ | exact (xu_n _ _ (by omega)).trans h | exact (xu_n _ _ (by omega)).trans (by assumption) | exact (xu_n _ _ (by omega)).trans (xu_s _ _ _) | simp (disch := omega) only [xu_s, xu_n, *]) (by rfl) (by rfl) (by rfl) rfl ?_
  dsimp only [List.set]
  refine xr_aload_n (n := 21) dX3_init_20 rfl rfl ?_
  refine xr_aload_n (n := 22) dX3_init_21 rfl rfl ?_
  refine xq_putF (n := 25) dX3_init_22 fl_X3_18 rfl rfl rfl (by first | exact h | assumption | exact xu_s _ _ _ | exact (xu_n _ _ (by omega)).trans h | exact (xu_n _ _ (by omega)).trans (by assumption) | exact (xu_n _ _ (by omega)).trans (xu_s _ _ _) | simp (disch := omega) only [xu_s, xu_n, *]) (by rfl) (by rfl) (by rfl) rfl ?_
  dsimp only [List.set]
  refine xr_aload_n (n := 26) dX3_init_25 rfl rfl ?_
  refine xr_aload_n (n := 27) dX3_init_26 rfl rfl ?_
  refine xq_putF (n := 30) dX3_init_27 fl_X3_22 rfl rfl rfl (by first | exact h | assumption | exact xu_s _ _ _ | exact (xu_n _ _ (by omega)).trans h | exact (xu_n _ _ (by omega)).trans (by assumption) | exact (xu_n _ _ (by omega)).trans (xu_s _ _ _) | simp (disch := omega) only [xu_s, xu_n, *]) (by rfl) (by rfl) (by rfl) rfl ?_
  dsimp only [List.set]
  refine xr_aload_n (n := 31) dX3_init_30 rfl rfl ?_
  refine xr_get (n := 34) dX3_init_31 fl_X3_9 (by first | exact h | assumption | exact xu_s _ _ _ | exact (xu_n _ _ (by omega)).trans h | exact (xu_n _ _ (by omega)).trans (by assumption) | exact (xu_n _ _ (by omega)).trans (xu_s _ _ _) | simp (disch := omega) only [xu_s, xu_n, *]) (by rfl) rfl ?_
  refine xr_iconst (v := nI 0) (n := 35) dX3_init_34 (by decide) rfl ?_
  refine xr_iconst (v := (-1)) (n := 36) dX3_init_35 (by decide) rfl ?_
  refine xq_iastore (n := 37) dX3_init_36 (by (simp (disch := omega) only [xu_s, xu_n]; rfl)) (by first | exact vp_in_nI (by omega) (by omega)) rfl ?_
  rw [nI_clamp (by omega)]
  refine xr_aload_n (n := 38) dX3_init_37 rfl rfl ?_
  refine xr_get (n := 41) dX3_init_38 fl_X3_15 (by first | exact h | assumption | exact xu_s _ _ _ | exact (xu_n _ _ (by omega)).trans h | exact (xu_n _ _ (by omega)).trans (by assumption) | exact (xu_n _ _ (by omega)).trans (xu_s _ _ _) | simp (disch := omega) only [xu_s, xu_n, *]) (by rfl) rfl ?_
  refine xr_iconst (v := nI 0) (n := 42) dX3_init_41 (by decide) rfl ?_
  refine xr_iconst (v := nI 0) (n := 43) dX3_init_42 (by decide) rfl ?_
  refine xq_iastore (n := 44) dX3_init_43 (by (simp (disch := omega) only [xu_s, xu_n]; rfl)) (by first | exact vp_in_nI (by omega) (by omega)) rfl ?_
  rw [nI_clamp (by omega)]
  refine xr_return dX3_init_44 rfl rfl ?_
  refine Eq.mp (congrArg (fun F => Q none (F, _)) ?_) hq
  refine (bput_of (fun i hi => ?_) (fun q hq2 => ?_)).symm
  · match i, hi with
    | 0, _ => simp (disch := omega) only [xu_s, xu_n, Nat.add_zero] <;> rfl
    | 1, _ => simp (disch := omega) only [xu_s, xu_n, Nat.add_zero] <;> rfl
    | 2, _ => simp (disch := omega) only [xu_s, xu_n, Nat.add_zero] <;> rfl
    | i + 3, hi => exact absurd hi (by omega)
  · simp (disch := omega) only [xu_n]

theorem s_X6_init {G : xG} {d : Nat} {f : Nat → xC} {Q : Option Value → xM → Prop} {a k : Nat} (h : f a = ob 6 [.null, .null, .null, .null, .null, .int 0, .int 0, .int 0, .int 0]) (hq : Q none (tput f a s0, (a + 7, k + 389))) : xMet G (d + 2) mX6_init [.ref a] (f, (a + 1, k)) (a + 7, k + 389) Q := by
  refine xMet_of (by decide +kernel) ⟨by dsimp only; omega, by dsimp only; omega⟩ rfl (Nat.le_of_ble_eq_true rfl) ?_
  show xX G (d + 2) mX6_init (a + 1, k) (a + 7, k + 389) (xΦ G (a + 1, k) (a + 7, k + 389) Q) 0 [(0, .ref a)] [] (f, (a + 1, k))
  refine xr_aload_n (n := 1) dX6_init_0 rfl rfl ?_
  refine xr_objInit (n := 4) dX6_init_1 km_X6_3 (by simp [Value.category]) rfl ?_
  refine xr_aload_n (n := 5) dX6_init_4 rfl rfl ?_
  refine xq_new (n := 8) (ci := 2) (fs := [.null, .int 0, .int 0]) dX6_init_5 kc_X6_9 rfl (by decide) (by (try dsimp only); omega) rfl ?_
  simp only [Nat.add_assoc, Nat.reduceAdd]
  refine xr_dup (n := 9) dX6_init_8 rfl rfl ?_
  refine xr_callI (y2 := mX2_init) (As := []) (n := 12) (lim2 := (a + 1 + 2, k + 3 + 40)) dX6_init_9 lm_X6_11 pm_X2_init rfl rfl kp_instanceMethod_yX2_init rfl rfl (by simp [Value.category]) rfl ⟨by (try dsimp only); omega, by (try dsimp only); omega⟩ ?_
  refine s_X2_init (xu_s _ _ _) ?_
  have g0 : ∀ q, q < a + 1 ∨ a + 3 ≤ q → oput (xu f (a + 1) (ob 2 [.null, .int 0, .int 0])) (a + 1) s0 q = f q := fun q hq => (bput_out (by omega)).trans (xu_n _ _ (by omega))
  have g1 : oput (xu f (a + 1) (ob 2 [.null, .int 0, .int 0])) (a + 1) s0 (a + 1) = ob 2 [.ref (a + 2), .int 0, .int 0] := oat_0 (oput_at _ _ _)
  have g2 : oput (xu f (a + 1) (ob 2 [.null, .int 0, .int 0])) (a + 1) s0 (a + 2) = aI 0 40 (fun _ => 0) := oat_r (i := 1) (oput_at _ _ _) (by decide)
  have g3 := (g0 a (by omega)).trans h
  generalize oput (xu f (a + 1) (ob 2 [.null, .int 0, .int 0])) (a + 1) s0 = f1 at g0 g1 g2 g3 ⊢
  dsimp only [xK, xps]
  simp only [Nat.add_assoc, Nat.reduceAdd]
  refine xq_putF (n := 15) dX6_init_12 fl_X6_12 rfl rfl rfl (by first | exact h | assumption | exact xu_s _ _ _ | exact (xu_n _ _ (by omega)).trans h | exact (xu_n _ _ (by omega)).trans (by assumption) | exact (xu_n _ _ (by omega)).trans (xu_s _ _ _) | simp (disch := omega) only [xu_s, xu_n, *]) (by rfl) (by rfl) (by rfl) rfl ?_
  dsimp only [List.set]
  refine xr_aload_n (n := 16) dX6_init_15 rfl rfl ?_
  refine xr_bipush (v := nI 6) (n := 18) dX6_init_16 (by decide) rfl ?_
  refine xq_newarray (n := 20) (t := 0) (N := 6) dX6_init_18 (by simp) (by decide) (nI_clamp (by omega)) (by decide) (by (try dsimp only); omega) rfl ?_
  simp only [Nat.add_assoc, Nat.reduceAdd]
  refine xq_putF (n := 23) dX6_init_20 fl_X6_18 rfl rfl rfl (by first | exact h | assumption | exact xu_s _ _ _ | exact (xu_n _ _ (by omega)).trans h | exact (xu_n _ _ (by omega)).trans (by assumption) | exact (xu_n _ _ (by omega)).trans (xu_s _ _ _) | simp (disch := omega) only [xu_s, xu_n, *]) (by rfl) (by rfl) (by rfl) rfl ?_
  dsimp only [List.set]
  refine xr_aload_n (n := 24) dX6_init_23 rfl rfl ?_
  refine xr_sipush (v := nI 240) (n := 27) dX6_init_24 (by decide) rfl ?_
  refine xq_newarray (n := 29) (t := 0) (N := 240) dX6_init_27 (by simp) (by decide) (nI_clamp (by omega)) (by decide) (by (try dsimp only); omega) rfl ?_
  simp only [Nat.add_assoc, Nat.reduceAdd]
  refine xq_putF (n := 32) dX6_init_29 fl_X6_22 rfl rfl rfl (by first | exact h | assumption | exact xu_s _ _ _ | exact (xu_n _ _ (by omega)).trans h | exact (xu_n _ _ (by omega)).trans (by assumption) | exact (xu_n _ _ (by omega)).trans (xu_s _ _ _) | simp (disch := omega) only [xu_s, xu_n, *]) (by rfl) (by rfl) (by rfl) rfl ?_
  dsimp only [List.set]
  refine xr_aload_n (n := 33) dX6_init_32 rfl rfl ?_
  refine xr_bipush (v := nI 40) (n := 35) dX6_init_33 (by decide) rfl ?_
  refine xq_newarray (n := 37) (t := 0) (N := 40) dX6_init_35 (by simp) (by decide) (nI_clamp (by omega)) (by decide) (by (try dsimp only); omega) rfl ?_
  simp only [Nat.add_assoc, Nat.reduceAdd]
  refine xq_putF (n := 40) dX6_init_37 fl_X6_25 rfl rfl rfl (by first | exact h | assumption | exact xu_s _ _ _ | exact (xu_n _ _ (by omega)).trans h | exact (xu_n _ _ (by omega)).trans (by assumption) | exact (xu_n _ _ (by omega)).trans (xu_s _ _ _) | simp (disch := omega) only [xu_s, xu_n, *]) (by rfl) (by rfl) (by rfl) rfl ?_
  dsimp only [List.set]
  refine xr_aload_n (n := 41) dX6_init_40 rfl rfl ?_
  refine xr_bipush (v := nI 60) (n := 43) dX6_init_41 (by decide) rfl ?_
  refine xq_newarray (n := 45) (t := 0) (N := 60) dX6_init_43 (by simp) (by decide) (nI_clamp (by omega)) (by decide) (by (try dsimp only); omega) rfl ?_
  simp only [Nat.add_assoc, Nat.reduceAdd]
  refine xq_putF (n := 48) dX6_init_45 fl_X6_28 rfl rfl rfl (by first | exact h | assumption | exact xu_s _ _ _ | exact (xu_n _ _ (by omega)).trans h | exact (xu_n _ _ (by omega)).trans (by assumption) | exact (xu_n _ _ (by omega)).trans (xu_s _ _ _) | simp (disch := omega) only [xu_s, xu_n, *]) (by rfl) (by rfl) (by rfl) rfl ?_
  dsimp only [List.set]
  refine xr_return dX6_init_48 rfl rfl ?_
  refine Eq.mp (congrArg (fun F => Q none (F, _)) ?_) hq
  refine (bput_of (fun i hi => ?_) (fun q hq2 => ?_)).symm
  · match i, hi with
    | 0, _ => simp (disch := omega) only [xu_s, xu_n, Nat.add_zero, g1, g2, g3] <;> rfl
    | 1, _ => simp (disch := omega) only [xu_s, xu_n, Nat.add_zero, g1, g2, g3] <;> rfl
    | 2, _ => simp (disch := omega) only [xu_s, xu_n, Nat.add_zero, g1, g2, g3] <;> rfl
    | 3, _ => simp (disch := omega) only [xu_s, xu_n, Nat.add_zero, g1, g2, g3] <;> rfl
    | 4, _ => simp (disch := omega) only [xu_s, xu_n, Nat.add_zero, g1, g2, g3] <;> rfl
    | 5, _ => simp (disch := omega) only [xu_s, xu_n, Nat.add_zero, g1, g2, g3] <;> rfl
    | 6, _ => simp (disch := omega) only [xu_s, xu_n, Nat.add_zero, g1, g2, g3] <;> rfl
    | i + 7, hi => exact absurd hi (by omega)
  · (simp (disch := omega) only [xu_n]; exact g0 q (by omega))

theorem s_X4_init {G : xG} {d : Nat} {f : Nat → xC} {Q : Option Value → xM → Prop} {a k : Nat} (h : f a = ob 4 [.null, .null]) (hq : ∀ F, F a = ob 4 [.ref (a + 1), .ref (a + 8)] → tat F (a + 1) s0 → tat F (a + 8) s0 → (∀ q, q < a → F q = f q) → Q none (F, (a + 15, k + 796))) : xMet G (d + 3) mX4_init [.ref a] (f, (a + 1, k)) (a + 15, k + 796) Q := by
  refine xMet_of (by decide +kernel) ⟨by dsimp only; omega, by dsimp only; omega⟩ rfl (Nat.le_of_ble_eq_true rfl) ?_
  show xX G (d + 3) mX4_init (a + 1, k) (a + 15, k + 796) (xΦ G (a + 1, k) (a + 15, k + 796) Q) 0 [(0, .ref a)] [] (f, (a + 1, k))
  refine xr_aload_n (n := 1) dX4_init_0 rfl rfl ?_
  refine xr_objInit (n := 4) dX4_init_1 km_X4_3 (by simp [Value.category]) rfl ?_
  refine xr_aload_n (n := 5) dX4_init_4 rfl rfl ?_
  refine xq_new (n := 8) (ci := 6) (fs := [.null, .null, .null, .null, .null, .int 0, .int 0, .int 0, .int 0]) dX4_init_5 kc_X4_9 rfl (by decide) (by (try dsimp only); omega) rfl ?_
  simp only [Nat.add_assoc, Nat.reduceAdd]
  refine xr_dup (n := 9) dX4_init_8 rfl rfl ?_
  refine xr_callI (y2 := mX6_init) (As := []) (n := 12) (lim2 := (a + 1 + 7, k + 9 + 389)) dX4_init_9 lm_X4_11 pm_X6_init rfl rfl kp_instanceMethod_yX6_init rfl rfl (by simp [Value.category]) rfl ⟨by (try dsimp only); omega, by (try dsimp only); omega⟩ ?_
  refine s_X6_init (xu_s _ _ _) ?_
  have ua : ∀ q, q < a + 1 → tput (xu f (a + 1) (ob 6 [.null, .null, .null, .null, .null, .int 0, .int 0, .int 0, .int 0])) (a + 1) s0 q = f q := fun q hq => (bput_out (by omega)).trans (xu_n _ _ (by omega))
  have ub : tat (tput (xu f (a + 1) (ob 6 [.null, .null, .null, .null, .null, .int 0, .int 0, .int 0, .int 0])) (a + 1) s0) (a + 1) s0 := tput_at _ _ _
  generalize tput (xu f (a + 1) (ob 6 [.null, .null, .null, .null, .null, .int 0, .int 0, .int 0, .int 0])) (a + 1) s0 = f1 at ua ub ⊢
  have h1 := (ua a (by omega)).trans h
  dsimp only [xK, xps]
  simp only [Nat.add_assoc, Nat.reduceAdd]
  refine xq_putF (n := 15) dX4_init_12 fl_X4_12 rfl rfl rfl (by first | exact h | assumption | exact xu_s _ _ _ | exact (xu_n _ _ (by omega)).trans h | exact (xu_n _ _ (by omega)).trans (by assumption) | exact (xu_n _ _ (by omega)).trans (xu_s _ _ _) | simp (disch := omega) only [xu_s, xu_n, *]) (by rfl) (by rfl) (by rfl) rfl ?_
  dsimp only [List.set]
  have h2 : xu f1 a (ob 4 [.ref (a + 1), .null]) a = ob 4 [.ref (a + 1), .null] := xu_s _ _ _
  have v0 : ∀ q, q ≠ a → xu f1 a (ob 4 [.ref (a + 1), .null]) q = f1 q := fun q hq => xu_n _ _ hq
  generalize xu f1 a (ob 4 [.ref (a + 1), .null]) = f2 at h2 v0 ⊢
  refine xr_aload_n (n := 16) dX4_init_15 rfl rfl ?_
  refine xq_new (n := 19) (ci := 6) (fs := [.null, .null, .null, .null, .null, .int 0, .int 0, .int 0, .int 0]) dX4_init_16 kc_X4_9 rfl (by decide) (by (try dsimp only); omega) rfl ?_
  simp only [Nat.add_assoc, Nat.reduceAdd]
  refine xr_dup (n := 20) dX4_init_19 rfl rfl ?_
  refine xr_callI (y2 := mX6_init) (As := []) (n := 23) (lim2 := (a + 8 + 7, k + 398 + 9 + 389)) dX4_init_20 lm_X4_11 pm_X6_init rfl rfl kp_instanceMethod_yX6_init rfl rfl (by simp [Value.category]) rfl ⟨by (try dsimp only); omega, by (try dsimp only); omega⟩ ?_
  refine s_X6_init (xu_s _ _ _) ?_
  have wa : ∀ q, q < a + 8 → tput (xu f2 (a + 8) (ob 6 [.null, .null, .null, .null, .null, .int 0, .int 0, .int 0, .int 0])) (a + 8) s0 q = f2 q := fun q hq => (bput_out (by omega)).trans (xu_n _ _ (by omega))
  have wb : tat (tput (xu f2 (a + 8) (ob 6 [.null, .null, .null, .null, .null, .int 0, .int 0, .int 0, .int 0])) (a + 8) s0) (a + 8) s0 := tput_at _ _ _
  generalize tput (xu f2 (a + 8) (ob 6 [.null, .null, .null, .null, .null, .int 0, .int 0, .int 0, .int 0])) (a + 8) s0 = f3 at wa wb ⊢
  have h3 := (wa a (by omega)).trans h2
  dsimp only [xK, xps]
  simp only [Nat.add_assoc, Nat.reduceAdd]
  refine xq_putF (n := 26) dX4_init_23 fl_X4_18 rfl rfl rfl (by first | exact h | assumption | exact xu_s _ _ _ | exact (xu_n _ _ (by omega)).trans h | exact (xu_n _ _ (by omega)).trans (by assumption) | exact (xu_n _ _ (by omega)).trans (xu_s _ _ _) | simp (disch := omega) only [xu_s, xu_n, *]) (by rfl) (by rfl) (by rfl) rfl ?_
  dsimp only [List.set]
  refine xr_return dX4_init_26 rfl rfl ?_
  refine hq _ (xu_s _ _ _) (fun i hi => ?_) (fun i hi => ?_) (fun q hq2 => ?_)
  · rw [xu_n _ _ (by omega), wa _ (by omega), v0 _ (by omega)]
    exact ub i hi
  · rw [xu_n _ _ (by omega)]
    exact wb i hi
  · rw [xu_n _ _ (by omega), wa _ (by omega), v0 _ (by omega)]
    exact ua q (by omega)

