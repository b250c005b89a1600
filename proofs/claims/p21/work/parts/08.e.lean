/-! constructors, third -/
theorem s_X0_init {G : xG} {d : Nat} {f : Nat → xC} {Q : Option Value → xM → Prop} {a kk : Nat} (h : f a = ob 0 [.null, .null, .int 0]) (hq : ∀ F g0 g1, F a = ob 0 [.ref (a + 1), .ref (a + 2), .int 0] → F (a + 1) = aR 2 5 g0 → (∀ j, j < 5 → g0 j = some (a + 3 + 20 * j)) → F (a + 2) = aR 2 5 g1 → (∀ j, j < 5 → g1 j = some (a + 13 + 20 * j)) → (∀ j, j < 5 → lat F (a + 3 + 20 * j) s0 ∧ lat F (a + 13 + 20 * j) s0) → (∀ q, q < a → F q = f q) → Q none (F, (a + 103, kk + 5510))) : xMet G (d + 2) mX0_init [.ref a] (f, (a + 1, kk)) (a + 103, kk + 5510) Q := by
  refine xMet_of (by decide +kernel) ⟨by dsimp only; omega, by dsimp only; omega⟩ rfl (Nat.le_of_ble_eq_true rfl) ?_
  show xX G (d + 2) mX0_init (a + 1, kk) (a + 103, kk + 5510) (xΦ G (a + 1, kk) (a + 103, kk + 5510) Q) 0 [(0, .ref a)] [] (f, (a + 1, kk))
  have key : ∀ i, i ≤ 5 → ∀ F g0 g1, F a = ob 0 [.ref (a + 1), .ref (a + 2), .int 0] → F (a + 1) = aR 2 5 g0 → (∀ j, j < i → g0 j = some (a + 3 + 20 * j)) → F (a + 2) = aR 2 5 g1 → (∀ j, j < i → g1 j = some (a + 13 + 20 * j)) → (∀ j, j < i → lat F (a + 3 + 20 * j) s0 ∧ lat F (a + 13 + 20 * j) s0) → (∀ q, q < a → F q = f q) → xX G (d + 2) mX0_init (a + 1, kk) (a + 103, kk + 5510) (xΦ G (a + 1, kk) (a + 103, kk + 5510) Q) 22 [(0, .ref a), (1, .int (nI i))] [] (F, (a + 3 + 20 * i, kk + 10 + 1100 * i)) := by
    refine nat_down (P := fun i => ∀ F g0 g1, F a = ob 0 [.ref (a + 1), .ref (a + 2), .int 0] → F (a + 1) = aR 2 5 g0 → (∀ j, j < i → g0 j = some (a + 3 + 20 * j)) → F (a + 2) = aR 2 5 g1 → (∀ j, j < i → g1 j = some (a + 13 + 20 * j)) → (∀ j, j < i → lat F (a + 3 + 20 * j) s0 ∧ lat F (a + 13 + 20 * j) s0) → (∀ q, q < a → F q = f q) → xX G (d + 2) mX0_init (a + 1, kk) (a + 103, kk + 5510) (xΦ G (a + 1, kk) (a + 103, kk + 5510) Q) 22 [(0, .ref a), (1, .int (nI i))] [] (F, (a + 3 + 20 * i, kk + 10 + 1100 * i))) (N := 5) ?_ ?_
    · intro F g0 g1 hZ e0 s0s e1 s1s hl hlo
      refine xr_iload_n (n := 23) dX0_init_22 rfl rfl ?_
      refine xr_iconst (v := nI 5) (n := 24) dX0_init_23 (by decide) rfl ?_
      refine xr_icmp_ge (tgt := 59) (n := 27) dX0_init_24 (by decide) rfl (fun h24 => ?_) (fun h24 => by (exfalso; ((try simp (disch := omega) only [i_lt, i_le, i_eq, nt, i_m1, Int32.toInt_zero] at *); omega)))
      refine xr_return dX0_init_59 rfl rfl ?_
      exact hq F g0 g1 hZ e0 s0s e1 s1s hl hlo
    · intro i hi ih F g0 g1 hZ e0 s0s e1 s1s hl hlo
      refine xr_iload_n (n := 23) dX0_init_22 rfl rfl ?_
      refine xr_iconst (v := nI 5) (n := 24) dX0_init_23 (by decide) rfl ?_
      refine xr_icmp_ge (tgt := 59) (n := 27) dX0_init_24 (by decide) rfl (fun h24 => by (exfalso; ((try simp (disch := omega) only [i_lt, i_le, i_eq, nt, i_m1, Int32.toInt_zero] at *); omega))) (fun h24 => ?_)
      refine xr_aload_n (n := 28) dX0_init_27 rfl rfl ?_
      refine xr_get (n := 31) dX0_init_28 fl_X0_11 (by first | exact h | assumption | exact xu_s _ _ _ | exact (xu_n _ _ (by omega)).trans h | exact (xu_n _ _ (by omega)).trans (by assumption) | exact (xu_n _ _ (by omega)).trans (xu_s _ _ _) | simp (disch := omega) only [xu_s, xu_n, *] | exact lat_0 l1 | exact lat_0 l3 | exact (v3 a (by omega)).trans hZ2) (by rfl) rfl ?_
      refine xr_iload_n (n := 32) dX0_init_31 rfl rfl ?_
      refine xq_new (n := 35) (ci := 1) (fs := [.int 0, .null, .null, .null, .null, .null, .null, .null, .null, .null]) dX0_init_32 kc_X0_9 rfl (by decide) (by (try dsimp only); omega) rfl ?_
      refine xr_dup (n := 36) dX0_init_35 rfl rfl ?_
      refine xr_callI (y2 := mX1_init) (As := []) (n := 39) (lim2 := (a + 3 + 20 * i + 10, kk + 10 + 1100 * i + 10 + 540)) dX0_init_36 lm_X0_20 pm_X1_init rfl rfl kp_instanceMethod_yX1_init rfl rfl (by simp [Value.category]) rfl ⟨by (try dsimp only); omega, by (try dsimp only); omega⟩ ?_
      refine s_X1_init (xu_s _ _ _) ?_
      generalize hF1 : lput (xu F (a + 3 + 20 * i) (ob 1 [.int 0, .null, .null, .null, .null, .null, .null, .null, .null, .null])) (a + 3 + 20 * i) s0 = F1
      have l1 : lat F1 (a + 3 + 20 * i) s0 := by rw [← hF1]; exact lput_at _ _ _
      have v1 : ∀ q, q < a + 3 + 20 * i → F1 q = F q := fun q hq => by rw [← hF1]; exact (bput_out (by omega)).trans (xu_n _ _ (by omega))
      have hZ1 := (v1 a (by omega)).trans hZ
      have e01 := (v1 (a + 1) (by omega)).trans e0
      dsimp only [xK, xps]
      refine xq_aastore (n := 40) dX0_init_39 (by first | exact h | assumption | exact xu_s _ _ _ | exact (xu_n _ _ (by omega)).trans h | exact (xu_n _ _ (by omega)).trans (by assumption) | exact (xu_n _ _ (by omega)).trans (xu_s _ _ _) | simp (disch := omega) only [xu_s, xu_n, *] | exact lat_0 l1 | exact lat_0 l3 | exact (v3 a (by omega)).trans hZ2) (by first | exact h | assumption | exact xu_s _ _ _ | exact (xu_n _ _ (by omega)).trans h | exact (xu_n _ _ (by omega)).trans (by assumption) | exact (xu_n _ _ (by omega)).trans (xu_s _ _ _) | simp (disch := omega) only [xu_s, xu_n, *] | exact lat_0 l1 | exact lat_0 l3 | exact (v3 a (by omega)).trans hZ2) (by simp) (by first | exact vp_in_nI (by omega) (by omega)) rfl ?_
      rw [nI_clamp (by omega)]
      generalize hF2 : xu F1 (a + 1) (aR 2 5 (va_up g0 i (some (a + 3 + 20 * i)))) = F2
      have v2 : ∀ q, q ≠ a + 1 → F2 q = F1 q := fun q hq => by rw [← hF2]; exact xu_n _ _ hq
      have e02 : F2 (a + 1) = aR 2 5 (va_up g0 i (some (a + 3 + 20 * i))) := by rw [← hF2]; exact xu_s _ _ _
      have hZ2 := (v2 a (by omega)).trans hZ1
      have e12 := (v2 (a + 2) (by omega)).trans ((v1 (a + 2) (by omega)).trans e1)
      refine xr_aload_n (n := 41) dX0_init_40 rfl rfl ?_
      refine xr_get (n := 44) dX0_init_41 fl_X0_17 (by first | exact h | assumption | exact xu_s _ _ _ | exact (xu_n _ _ (by omega)).trans h | exact (xu_n _ _ (by omega)).trans (by assumption) | exact (xu_n _ _ (by omega)).trans (xu_s _ _ _) | simp (disch := omega) only [xu_s, xu_n, *] | exact lat_0 l1 | exact lat_0 l3 | exact (v3 a (by omega)).trans hZ2) (by rfl) rfl ?_
      refine xr_iload_n (n := 45) dX0_init_44 rfl rfl ?_
      refine xq_new (n := 48) (ci := 1) (fs := [.int 0, .null, .null, .null, .null, .null, .null, .null, .null, .null]) dX0_init_45 kc_X0_9 rfl (by decide) (by (try dsimp only); omega) rfl ?_
      refine xr_dup (n := 49) dX0_init_48 rfl rfl ?_
      refine xr_callI (y2 := mX1_init) (As := []) (n := 52) (lim2 := (a + 3 + 20 * i + 10 + 10, kk + 10 + 1100 * i + 10 + 540 + 10 + 540)) dX0_init_49 lm_X0_20 pm_X1_init rfl rfl kp_instanceMethod_yX1_init rfl rfl (by simp [Value.category]) rfl ⟨by (try dsimp only); omega, by (try dsimp only); omega⟩ ?_
      refine s_X1_init (xu_s _ _ _) ?_
      generalize hF3 : lput (xu F2 (a + 3 + 20 * i + 10) (ob 1 [.int 0, .null, .null, .null, .null, .null, .null, .null, .null, .null])) (a + 3 + 20 * i + 10) s0 = F3
      have l3 : lat F3 (a + 3 + 20 * i + 10) s0 := by rw [← hF3]; exact lput_at _ _ _
      have v3 : ∀ q, q < a + 3 + 20 * i + 10 → F3 q = F2 q := fun q hq => by rw [← hF3]; exact (bput_out (by omega)).trans (xu_n _ _ (by omega))
      have e13 := (v3 (a + 2) (by omega)).trans e12
      dsimp only [xK, xps]
      refine xq_aastore (n := 53) dX0_init_52 (by first | exact h | assumption | exact xu_s _ _ _ | exact (xu_n _ _ (by omega)).trans h | exact (xu_n _ _ (by omega)).trans (by assumption) | exact (xu_n _ _ (by omega)).trans (xu_s _ _ _) | simp (disch := omega) only [xu_s, xu_n, *] | exact lat_0 l1 | exact lat_0 l3 | exact (v3 a (by omega)).trans hZ2) (by first | exact h | assumption | exact xu_s _ _ _ | exact (xu_n _ _ (by omega)).trans h | exact (xu_n _ _ (by omega)).trans (by assumption) | exact (xu_n _ _ (by omega)).trans (xu_s _ _ _) | simp (disch := omega) only [xu_s, xu_n, *] | exact lat_0 l1 | exact lat_0 l3 | exact (v3 a (by omega)).trans hZ2) (by simp) (by first | exact vp_in_nI (by omega) (by omega)) rfl ?_
      rw [nI_clamp (by omega)]
      generalize hF4 : xu F3 (a + 2) (aR 2 5 (va_up g1 i (some (a + 3 + 20 * i + 10)))) = F4
      have v4 : ∀ q, q ≠ a + 2 → F4 q = F3 q := fun q hq => by rw [← hF4]; exact xu_n _ _ hq
      have e14 : F4 (a + 2) = aR 2 5 (va_up g1 i (some (a + 3 + 20 * i + 10))) := by rw [← hF4]; exact xu_s _ _ _
      refine xr_iinc (n := 56) dX0_init_53 rfl rfl (rfl) rfl ?_
      simp only [xst, Nat.beq, List.filter, Bool.not_true, Bool.not_false]
      rw [show (Int32.ofInt 1) = nI 1 from rfl, nI_add]
      refine xr_goto (n := 22) dX0_init_56 (by decide) ?_
      refine xX.eq rfl rfl rfl (by rw [show a + 3 + 20 * (i + 1) = a + 3 + 20 * i + 10 + 10 by omega, show kk + 10 + 1100 * (i + 1) = kk + 10 + 1100 * i + 10 + 540 + 10 + 540 by omega]) (ih F4 (va_up g0 i (some (a + 3 + 20 * i))) (va_up g1 i (some (a + 3 + 20 * i + 10))) ?_ ?_ ?_ e14 ?_ ?_ ?_)
      · rw [v4 _ (by omega), v3 _ (by omega)]; exact hZ2
      · rw [v4 _ (by omega), v3 _ (by omega)]; exact e02
      · intro j hj
        show (if j = i then some (a + 3 + 20 * i) else g0 j) = _
        by_cases e : j = i
        · rw [if_pos e, e]
        · rw [if_neg e]; exact s0s j (by omega)
      · intro j hj
        show (if j = i then some (a + 3 + 20 * i + 10) else g1 j) = _
        by_cases e : j = i
        · rw [if_pos e, e]
          congr 1
          omega
        · rw [if_neg e]; exact s1s j (by omega)
      · intro j hj
        by_cases e : j = i
        · subst e
          refine ⟨fun q hq => ?_, fun q hq => ?_⟩
          · rw [v4 _ (by omega), v3 _ (by omega), v2 _ (by omega)]
            exact l1 q hq
          · rw [show a + 13 + 20 * j = a + 3 + 20 * j + 10 by omega, v4 _ (by omega)]
            exact l3 q hq
        · obtain ⟨p1, p2⟩ := hl j (by omega)
          refine ⟨fun q hq => ?_, fun q hq => ?_⟩
          · rw [v4 _ (by omega), v3 _ (by omega), v2 _ (by omega), v1 _ (by omega)]
            exact p1 q hq
          · rw [v4 _ (by omega), v3 _ (by omega), v2 _ (by omega), v1 _ (by omega)]
            exact p2 q hq
      · intro q hq
        rw [v4 _ (by omega), v3 _ (by omega), v2 _ (by omega), v1 _ (by omega)]
        exact hlo q hq
  refine xr_aload_n (n := 1) dX0_init_0 rfl rfl ?_
  refine xr_objInit (n := 4) dX0_init_1 km_X0_3 (by simp [Value.category]) rfl ?_
  refine xr_aload_n (n := 5) dX0_init_4 rfl rfl ?_
  refine xr_iconst (v := nI 5) (n := 6) dX0_init_5 (by decide) rfl ?_
  refine xq_anewarray (n := 9) (t := 2) (N := 5) dX0_init_6 kc_X0_9 (by simp) (by decide) (nI_clamp (by omega)) (by decide) (by (try dsimp only); omega) rfl ?_
  simp only [Nat.add_assoc, Nat.reduceAdd]
  refine xq_putF (n := 12) dX0_init_9 fl_X0_11 rfl rfl rfl (by first | exact h | assumption | exact xu_s _ _ _ | exact (xu_n _ _ (by omega)).trans h | exact (xu_n _ _ (by omega)).trans (by assumption) | exact (xu_n _ _ (by omega)).trans (xu_s _ _ _) | simp (disch := omega) only [xu_s, xu_n, *]) (by rfl) (by rfl) (by rfl) rfl ?_
  dsimp only [List.set]
  refine xr_aload_n (n := 13) dX0_init_12 rfl rfl ?_
  refine xr_iconst (v := nI 5) (n := 14) dX0_init_13 (by decide) rfl ?_
  refine xq_anewarray (n := 17) (t := 2) (N := 5) dX0_init_14 kc_X0_9 (by simp) (by decide) (nI_clamp (by omega)) (by decide) (by (try dsimp only); omega) rfl ?_
  simp only [Nat.add_assoc, Nat.reduceAdd]
  refine xq_putF (n := 20) dX0_init_17 fl_X0_17 rfl rfl rfl (by first | exact h | assumption | exact xu_s _ _ _ | exact (xu_n _ _ (by omega)).trans h | exact (xu_n _ _ (by omega)).trans (by assumption) | exact (xu_n _ _ (by omega)).trans (xu_s _ _ _) | simp (disch := omega) only [xu_s, xu_n, *]) (by rfl) (by rfl) (by rfl) rfl ?_
  dsimp only [List.set]
  refine xr_iconst (v := nI 0) (n := 21) dX0_init_20 (by decide) rfl ?_
  refine xq_istore_n 1 (n := 22) dX0_init_21 rfl rfl rfl ?_
  simp only [xst, Nat.beq, List.filter, Bool.not_true, Bool.not_false]
  refine key 0 (Nat.zero_le _) _ (fun _ => none) (fun _ => none) (xu_s _ _ _) ((xu_n _ _ (by omega)).trans ((xu_n _ _ (by omega)).trans ((xu_n _ _ (by omega)).trans (xu_s _ _ _)))) (fun j hj => by omega) ((xu_n _ _ (by omega)).trans (xu_s _ _ _)) (fun j hj => by omega) (fun j hj => by omega) (fun q hq => ?_)
  rw [xu_n _ _ (by omega), xu_n _ _ (by omega), xu_n _ _ (by omega), xu_n _ _ (by omega)]

