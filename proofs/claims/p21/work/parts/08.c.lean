/-! constructors -/
def s0 : xS := fun _ _ => 0
theorem bput_of {F f : Nat → xC} {a n : Nat} {c : Nat → xC} (h1 : ∀ i, i < n → F (a + i) = c i) (h2 : ∀ q, q < a ∨ a + n ≤ q → F q = f q) : F = bput f a n c := by
  funext q
  unfold bput
  by_cases h : a ≤ q ∧ q < a + n
  · rw [if_pos h, ← h1 (q - a) (by omega)]
    congr 1
    omega
  · rw [if_neg h]
    exact h2 q (by omega)
theorem s_X1_init {G : xG} {d : Nat} {f : Nat → xC} {Q : Option Value → xM → Prop} {a k : Nat} (h : f a = ob 1 [.int 0, .null, .null, .null, .null, .null, .null, .null, .null, .null]) (hq : Q none (lput f a s0, (a + 10, k + 540))) : xMet G (d + 1) mX1_init [.ref a] (f, (a + 1, k)) (a + 10, k + 540) Q := by
  refine xMet_of (by decide +kernel) ⟨by dsimp only; omega, by dsimp only; omega⟩ rfl (Nat.le_of_ble_eq_true rfl) ?_
  show xX G (d + 1) mX1_init (a + 1, k) (a + 10, k + 540) (xΦ G (a + 1, k) (a + 10, k + 540) Q) 0 [(0, .ref a)] [] (f, (a + 1, k))
  refine xr_aload_n (n := 1) dX1_init_0 rfl rfl ?_
  refine xr_objInit (n := 4) dX1_init_1 km_X1_3 (by simp [Value.category]) rfl ?_
  refine xr_aload_n (n := 5) dX1_init_4 rfl rfl ?_
  refine xr_bipush (v := nI 60) (n := 7) dX1_init_5 (by decide) rfl ?_
  refine xq_newarray (n := 9) (t := 0) (N := 60) dX1_init_7 (by simp) (by decide) (nI_clamp (by omega)) (by decide) (by (try dsimp only); omega) rfl ?_
  simp only [Nat.add_assoc, Nat.reduceAdd]
  refine xq_putF (n := 12) dX1_init_9 fl_X1_9 rfl rfl rfl (by first | exact h | exact xu_s _ _ _ | (rw [xu_n _ _ (by omega)]; exact h) | (rw [xu_n _ _ (by omega)]; exact xu_s _ _ _) | simp (disch := omega) only [xu_s, xu_n]) (by rfl) (by rfl) (by rfl) rfl ?_
  dsimp only [List.set]
  refine xr_aload_n (n := 13) dX1_init_12 rfl rfl ?_
  refine xr_bipush (v := nI 60) (n := 15) dX1_init_13 (by decide) rfl ?_
  refine xq_newarray (n := 17) (t := 0) (N := 60) dX1_init_15 (by simp) (by decide) (nI_clamp (by omega)) (by decide) (by (try dsimp only); omega) rfl ?_
  simp only [Nat.add_assoc, Nat.reduceAdd]
  refine xq_putF (n := 20) dX1_init_17 fl_X1_15 rfl rfl rfl (by first | exact h | exact xu_s _ _ _ | (rw [xu_n _ _ (by omega)]; exact h) | (rw [xu_n _ _ (by omega)]; exact xu_s _ _ _) | simp (disch := omega) only [xu_s, xu_n]) (by rfl) (by rfl) (by rfl) rfl ?_
  dsimp only [List.set]
  refine xr_aload_n (n := 21) dX1_init_20 rfl rfl ?_
  refine xr_bipush (v := nI 60) (n := 23) dX1_init_21 (by decide) rfl ?_
  refine xq_newarray (n := 25) (t := 0) (N := 60) dX1_init_23 (by simp) (by decide) (nI_clamp (by omega)) (by decide) (by (try dsimp only); omega) rfl ?_
  simp only [Nat.add_assoc, Nat.reduceAdd]
  refine xq_putF (n := 28) dX1_init_25 fl_X1_18 rfl rfl rfl (by first | exact h | exact xu_s _ _ _ | (rw [xu_n _ _ (by omega)]; exact h) | (rw [xu_n _ _ (by omega)]; exact xu_s _ _ _) | simp (disch := omega) only [xu_s, xu_n]) (by rfl) (by rfl) (by rfl) rfl ?_
  dsimp only [List.set]
  refine xr_aload_n (n := 29) dX1_init_28 rfl rfl ?_
  refine xr_bipush (v := nI 60) (n := 31) dX1_init_29 (by decide) rfl ?_
  refine xq_newarray (n := 33) (t := 0) (N := 60) dX1_init_31 (by simp) (by decide) (nI_clamp (by omega)) (by decide) (by (try dsimp only); omega) rfl ?_
  simp only [Nat.add_assoc, Nat.reduceAdd]
  refine xq_putF (n := 36) dX1_init_33 fl_X1_21 rfl rfl rfl (by first | exact h | exact xu_s _ _ _ | (rw [xu_n _ _ (by omega)]; exact h) | (rw [xu_n _ _ (by omega)]; exact xu_s _ _ _) | simp (disch := omega) only [xu_s, xu_n]) (by rfl) (by rfl) (by rfl) rfl ?_
  dsimp only [List.set]
  refine xr_aload_n (n := 37) dX1_init_36 rfl rfl ?_
  refine xr_bipush (v := nI 60) (n := 39) dX1_init_37 (by decide) rfl ?_
  refine xq_newarray (n := 41) (t := 0) (N := 60) dX1_init_39 (by simp) (by decide) (nI_clamp (by omega)) (by decide) (by (try dsimp only); omega) rfl ?_
  simp only [Nat.add_assoc, Nat.reduceAdd]
  refine xq_putF (n := 44) dX1_init_41 fl_X1_24 rfl rfl rfl (by first | exact h | exact xu_s _ _ _ | (rw [xu_n _ _ (by omega)]; exact h) | (rw [xu_n _ _ (by omega)]; exact xu_s _ _ _) | simp (disch := omega) only [xu_s, xu_n]) (by rfl) (by rfl) (by rfl) rfl ?_
  dsimp only [List.set]
  refine xr_aload_n (n := 45) dX1_init_44 rfl rfl ?_
  refine xr_bipush (v := nI 60) (n := 47) dX1_init_45 (by decide) rfl ?_
  refine xq_newarray (n := 49) (t := 0) (N := 60) dX1_init_47 (by simp) (by decide) (nI_clamp (by omega)) (by decide) (by (try dsimp only); omega) rfl ?_
  simp only [Nat.add_assoc, Nat.reduceAdd]
  refine xq_putF (n := 52) dX1_init_49 fl_X1_27 rfl rfl rfl (by first | exact h | exact xu_s _ _ _ | (rw [xu_n _ _ (by omega)]; exact h) | (rw [xu_n _ _ (by omega)]; exact xu_s _ _ _) | simp (disch := omega) only [xu_s, xu_n]) (by rfl) (by rfl) (by rfl) rfl ?_
  dsimp only [List.set]
  refine xr_aload_n (n := 53) dX1_init_52 rfl rfl ?_
  refine xr_bipush (v := nI 60) (n := 55) dX1_init_53 (by decide) rfl ?_
  refine xq_newarray (n := 57) (t := 0) (N := 60) dX1_init_55 (by simp) (by decide) (nI_clamp (by omega)) (by decide) (by (try dsimp only); omega) rfl ?_
  simp only [Nat.add_assoc, Nat.reduceAdd]
  refine xq_putF (n := 60) dX1_init_57 fl_X1_30 rfl rfl rfl (by first | exact h | exact xu_s _ _ _ | (rw [xu_n _ _ (by omega)]; exact h) | (rw [xu_n _ _ (by omega)]; exact xu_s _ _ _) | simp (disch := omega) only [xu_s, xu_n]) (by rfl) (by rfl) (by rfl) rfl ?_
  dsimp only [List.set]
  refine xr_aload_n (n := 61) dX1_init_60 rfl rfl ?_
  refine xr_bipush (v := nI 60) (n := 63) dX1_init_61 (by decide) rfl ?_
  refine xq_newarray (n := 65) (t := 0) (N := 60) dX1_init_63 (by simp) (by decide) (nI_clamp (by omega)) (by decide) (by (try dsimp only); omega) rfl ?_
  simp only [Nat.add_assoc, Nat.reduceAdd]
  refine xq_putF (n := 68) dX1_init_65 fl_X1_33 rfl rfl rfl (by first | exact h | exact xu_s _ _ _ | (rw [xu_n _ _ (by omega)]; exact h) | (rw [xu_n _ _ (by omega)]; exact xu_s _ _ _) | simp (disch := omega) only [xu_s, xu_n]) (by rfl) (by rfl) (by rfl) rfl ?_
  dsimp only [List.set]
  refine xr_aload_n (n := 69) dX1_init_68 rfl rfl ?_
  refine xr_bipush (v := nI 60) (n := 71) dX1_init_69 (by decide) rfl ?_
  refine xq_newarray (n := 73) (t := 0) (N := 60) dX1_init_71 (by simp) (by decide) (nI_clamp (by omega)) (by decide) (by (try dsimp only); omega) rfl ?_
  simp only [Nat.add_assoc, Nat.reduceAdd]
  refine xq_putF (n := 76) dX1_init_73 fl_X1_36 rfl rfl rfl (by first | exact h | exact xu_s _ _ _ | (rw [xu_n _ _ (by omega)]; exact h) | (rw [xu_n _ _ (by omega)]; exact xu_s _ _ _) | simp (disch := omega) only [xu_s, xu_n]) (by rfl) (by rfl) (by rfl) rfl ?_
  dsimp only [List.set]
  refine xr_return dX1_init_76 rfl rfl ?_
  refine Eq.mp (congrArg (fun F => Q none (F, _)) ?_) hq
  refine (bput_of (fun i hi => ?_) (fun q hq2 => ?_)).symm
  · match i, hi with
    | 0, _ => simp (disch := omega) only [xu_s, xu_n, Nat.add_zero] <;> rfl
    | 1, _ => simp (disch := omega) only [xu_s, xu_n, Nat.add_zero] <;> rfl
    | 2, _ => simp (disch := omega) only [xu_s, xu_n, Nat.add_zero] <;> rfl
    | 3, _ => simp (disch := omega) only [xu_s, xu_n, Nat.add_zero] <;> rfl
    | 4, _ => simp (disch := omega) only [xu_s, xu_n, Nat.add_zero] <;> rfl
    | 5, _ => simp (disch := omega) only [xu_s, xu_n, Nat.add_zero] <;> rfl
    | 6, _ => simp (disch := omega) only [xu_s, xu_n, Nat.add_zero] <;> rfl
    | 7, _ => simp (disch := omega) only [xu_s, xu_n, Nat.add_zero] <;> rfl
    | 8, _ => simp (disch := omega) only [xu_s, xu_n, Nat.add_zero] <;> rfl
    | 9, _ => simp (disch := omega) only [xu_s, xu_n, Nat.add_zero] <;> rfl
    | i + 10, hi => exact absurd hi (by omega)
  · simp (disch := omega) only [xu_n]

theorem s_X2_init {G : xG} {d : Nat} {f : Nat → xC} {Q : Option Value → xM → Prop} {a k : Nat} (h : f a = ob 2 [.null, .int 0, .int 0]) (hq : Q none (oput f a s0, (a + 2, k + 40))) : xMet G (d + 1) mX2_init [.ref a] (f, (a + 1, k)) (a + 2, k + 40) Q := by
  refine xMet_of (by decide +kernel) ⟨by dsimp only; omega, by dsimp only; omega⟩ rfl (Nat.le_of_ble_eq_true rfl) ?_
  show xX G (d + 1) mX2_init (a + 1, k) (a + 2, k + 40) (xΦ G (a + 1, k) (a + 2, k + 40) Q) 0 [(0, .ref a)] [] (f, (a + 1, k))
  refine xr_aload_n (n := 1) dX2_init_0 rfl rfl ?_
  refine xr_objInit (n := 4) dX2_init_1 km_X2_3 (by simp [Value.category]) rfl ?_
  refine xr_aload_n (n := 5) dX2_init_4 rfl rfl ?_
  refine xr_bipush (v := nI 40) (n := 7) dX2_init_5 (by decide) rfl ?_
  refine xq_newarray (n := 9) (t := 0) (N := 40) dX2_init_7 (by simp) (by decide) (nI_clamp (by omega)) (by decide) (by (try dsimp only); omega) rfl ?_
  simp only [Nat.add_assoc, Nat.reduceAdd]
  refine xq_putF (n := 12) dX2_init_9 fl_X2_9 rfl rfl rfl (by first | exact h | exact xu_s _ _ _ | (rw [xu_n _ _ (by omega)]; exact h) | (rw [xu_n _ _ (by omega)]; exact xu_s _ _ _) | simp (disch := omega) only [xu_s, xu_n]) (by rfl) (by rfl) (by rfl) rfl ?_
  dsimp only [List.set]
  refine xr_return dX2_init_12 rfl rfl ?_
  refine Eq.mp (congrArg (fun F => Q none (F, _)) ?_) hq
  refine (bput_of (fun i hi => ?_) (fun q hq2 => ?_)).symm
  · match i, hi with
    | 0, _ => simp (disch := omega) only [xu_s, xu_n, Nat.add_zero] <;> rfl
    | 1, _ => simp (disch := omega) only [xu_s, xu_n, Nat.add_zero] <;> rfl
    | i + 2, hi => exact absurd hi (by omega)
  · simp (disch := omega) only [xu_n]

theorem s_X5_init {G : xG} {d : Nat} {f : Nat → xC} {Q : Option Value → xM → Prop} {a k : Nat} (h : f a = ob 5 [.null, .int 0]) (hq : Q none (xput f a s0, (a + 2, k + 120))) : xMet G (d + 1) mX5_init [.ref a] (f, (a + 1, k)) (a + 2, k + 120) Q := by
  refine xMet_of (by decide +kernel) ⟨by dsimp only; omega, by dsimp only; omega⟩ rfl (Nat.le_of_ble_eq_true rfl) ?_
  show xX G (d + 1) mX5_init (a + 1, k) (a + 2, k + 120) (xΦ G (a + 1, k) (a + 2, k + 120) Q) 0 [(0, .ref a)] [] (f, (a + 1, k))
  refine xr_aload_n (n := 1) dX5_init_0 rfl rfl ?_
  refine xr_objInit (n := 4) dX5_init_1 km_X5_3 (by simp [Value.category]) rfl ?_
  refine xr_aload_n (n := 5) dX5_init_4 rfl rfl ?_
  refine xr_bipush (v := nI 120) (n := 7) dX5_init_5 (by decide) rfl ?_
  refine xq_newarray (n := 9) (t := 1) (N := 120) dX5_init_7 (by simp) (by decide) (nI_clamp (by omega)) (by decide) (by (try dsimp only); omega) rfl ?_
  simp only [Nat.add_assoc, Nat.reduceAdd]
  refine xq_putF (n := 12) dX5_init_9 fl_X5_9 rfl rfl rfl (by first | exact h | exact xu_s _ _ _ | (rw [xu_n _ _ (by omega)]; exact h) | (rw [xu_n _ _ (by omega)]; exact xu_s _ _ _) | simp (disch := omega) only [xu_s, xu_n]) (by rfl) (by rfl) (by rfl) rfl ?_
  dsimp only [List.set]
  refine xr_return dX5_init_12 rfl rfl ?_
  refine Eq.mp (congrArg (fun F => Q none (F, _)) ?_) hq
  refine (bput_of (fun i hi => ?_) (fun q hq2 => ?_)).symm
  · match i, hi with
    | 0, _ => simp (disch := omega) only [xu_s, xu_n, Nat.add_zero] <;> rfl
    | 1, _ => simp (disch := omega) only [xu_s, xu_n, Nat.add_zero] <;> rfl
    | i + 2, hi => exact absurd hi (by omega)
  · simp (disch := omega) only [xu_n]

