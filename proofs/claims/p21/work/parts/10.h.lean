/-! THE LAW's differs and pairsFit -/
theorem kp_pmn {x y k : Nat} (h : k < pmn x y) : k < kp x ∧ k < kp y ∧ k < 40 := by
  have := pmn_le x y
  unfold kp
  split <;> split <;> omega
theorem ab_b {x y : Nat} (hx : x ≤ 400) (hy : y ≤ 400) : 0 ≤ (ab (nI x - nI y)).toInt ∧ (ab (nI x - nI y)).toInt ≤ 400 ∧ (nI x - nI y).toInt ≤ (ab (nI x - nI y)).toInt ∧ (-(nI x - nI y)).toInt ≤ (ab (nI x - nI y)).toInt := by
  have e : (nI x - nI y).toInt = (x : Int) - y := pk_sub_toInt (by omega) (by omega)
  have e0 : (0 : Int32).toInt = 0 := Int32.toInt_zero
  have e2 : (-(nI x - nI y)).toInt = (y : Int) - x := by
    have e3 := i_sub (x := 0) (y := nI x - nI y) (by omega) (by omega)
    rw [Int32.zero_sub] at e3
    rw [e3]
    omega
  unfold ab
  by_cases h : (nI x - nI y) < 0
  · rw [if_pos h]
    rw [i_lt] at h
    omega
  · rw [if_neg h]
    rw [i_lt] at h
    omega
/-- the greatest size of a lead -/
theorem glv_b {A B : Nat × xS} (hA : st3 A.2 400) (hB : st3 B.2 400) : ∀ n, 0 ≤ (glv A B n).toInt ∧ (glv A B n).toInt ≤ 400 ∧ ∀ k, k < n → (ldv A B k).toInt ≤ (glv A B n).toInt ∧ (-(ldv A B k)).toInt ≤ (glv A B n).toInt
  | 0 => by
    have e : (glv A B 0).toInt = 0 := nt 0 (by omega)
    exact ⟨by omega, by omega, fun k hk => absurd hk (Nat.not_lt_zero k)⟩
  | n + 1 => by
    obtain ⟨h1, h2, h3⟩ := glv_b hA hB n
    obtain ⟨x, hx, ex⟩ := hA.2 n
    obtain ⟨y, hy, ey⟩ := hB.2 n
    obtain ⟨a1, a2, a3, a4⟩ := ab_b hx hy
    have el : ldv A B n = nI x - nI y := by unfold ldv; rw [ex, ey]
    rw [← el] at a1 a2 a3 a4
    rw [glv_s]
    by_cases h : glv A B n < ab (ldv A B n)
    · rw [if_pos h]
      rw [i_lt] at h
      refine ⟨a1, a2, fun k hk => ?_⟩
      by_cases e : k = n
      · subst e; exact ⟨a3, a4⟩
      · have := h3 k (by omega)
        omega
    · rw [if_neg h]
      rw [i_lt] at h
      refine ⟨h1, h2, fun k hk => ?_⟩
      by_cases e : k = n
      · subst e; omega
      · exact h3 k (by omega)
/-- how many of the first c cells are equal at a pair -/
def alk (A B : Nat × xS) (k : Nat) : Nat → Nat
  | 0 => 0
  | c + 1 => alk A B k c + (if A.2 2 (6 * k + c) = B.2 2 (6 * k + c) then 1 else 0)
theorem alk_t {A B : Nat × xS} {k c : Nat} (h : A.2 2 (6 * k + c) = B.2 2 (6 * k + c)) : alk A B k (c + 1) = alk A B k c + 1 := by
  show alk A B k c + _ = _
  rw [if_pos h]
theorem alk_f {A B : Nat × xS} {k c : Nat} (h : ¬ A.2 2 (6 * k + c) = B.2 2 (6 * k + c)) : alk A B k (c + 1) = alk A B k c + 0 := by
  show alk A B k c + _ = _
  rw [if_neg h]
theorem alk_le (A B : Nat × xS) (k : Nat) : ∀ c, alk A B k c ≤ c
  | 0 => Nat.le_refl _
  | c + 1 => by
    have := alk_le A B k c
    by_cases h : A.2 2 (6 * k + c) = B.2 2 (6 * k + c)
    · rw [alk_t h]; omega
    · rw [alk_f h]; omega
theorem alk_eq (A B : Nat × xS) (k : Nat) : ∀ c, alk A B k c = c ↔ eqp A B k c
  | 0 => ⟨fun _ j hj => absurd hj (Nat.not_lt_zero j), fun _ => rfl⟩
  | c + 1 => by
    have hl := alk_le A B k c
    have ih := alk_eq A B k c
    rw [show eqp A B k (c + 1) ↔ eqp A B k c ∧ A.2 2 (6 * k + c) = B.2 2 (6 * k + c) from all_s, ← ih]
    by_cases h : A.2 2 (6 * k + c) = B.2 2 (6 * k + c)
    · rw [alk_t h]
      exact ⟨fun q => ⟨by omega, h⟩, fun q => by omega⟩
    · rw [alk_f h]
      exact ⟨fun q => by omega, fun q => absurd q.2 h⟩
/-- the set of equal cells as the law takes it -/
def ms1 (A B : Nat × xS) (x k : Nat) : Nat → Int32 → Int32
  | 0, s => s
  | y + 1, s => ms1 A B x k y s &&& (if A.2 2 (6 * k + x) = B.2 2 (6 * k + y) then nI 63 else (nI 1 <<< (nI y &&& 31)) ^^^ (-1))
def ms (A B : Nat × xS) (x : Nat) : Nat → Int32
  | 0 => nI 63
  | k + 1 => ms1 A B x k 6 (ms A B x k)
theorem ms1_s (A B : Nat × xS) (x k y : Nat) (s : Int32) : ms1 A B x k (y + 1) s = ms1 A B x k y s &&& (if A.2 2 (6 * k + x) = B.2 2 (6 * k + y) then nI 63 else (nI 1 <<< (nI y &&& 31)) ^^^ (-1)) := rfl
theorem ms_s (A B : Nat × xS) (x k : Nat) : ms A B x (k + 1) = ms1 A B x k 6 (ms A B x k) := rfl
theorem b_63 : ∀ i, i < 32 → bt (nI 63) i = decide (i < 6) := by decide +kernel
theorem ms1_b (A B : Nat × xS) (x k : Nat) (s : Int32) {i : Nat} (hi : i < 32) : ∀ y, y ≤ 6 → (bt (ms1 A B x k y s) i = true → bt s i = true) ∧ (i < 6 → bt (ms1 A B x k y s) i = (bt s i && decide (i < y → A.2 2 (6 * k + x) = B.2 2 (6 * k + i))))
  | 0, _ => ⟨fun h => h, fun _ => by
    rw [decide_eq_true (fun h => absurd h (Nat.not_lt_zero i)), Bool.and_true]
    rfl⟩
  | y + 1, hy => by
    obtain ⟨h1, h2⟩ := ms1_b A B x k s hi y (by omega)
    rw [ms1_s, b_and]
    refine ⟨fun h => h1 (Bool.and_eq_true_iff.mp h).1, fun h6 => ?_⟩
    rw [h2 h6, Bool.and_assoc]
    congr 1
    by_cases e : A.2 2 (6 * k + x) = B.2 2 (6 * k + y)
    · rw [if_pos e, b_63 i hi, decide_eq_true h6, Bool.and_true]
      refine decide_eq_decide.mpr ⟨fun q hq => ?_, fun q hq => q (by omega)⟩
      by_cases ey : i = y
      · rw [ey]; exact e
      · exact q (by omega)
    · rw [if_neg e, b_xor, b_m1 i hi, b_one (by omega) hi, Bool.xor_true]
      by_cases ey : i = y
      · rw [decide_eq_true ey, Bool.not_true, Bool.and_false]
        exact (decide_eq_false (fun q => e (by rw [← ey]; exact q (by omega)))).symm
      · rw [decide_eq_false ey, Bool.not_false, Bool.and_true]
        exact decide_eq_decide.mpr ⟨fun q hq => q (by omega), fun q hq => q (by omega)⟩
theorem ms_b (A B : Nat × xS) (x : Nat) {i : Nat} (hi : i < 32) : ∀ n, bt (ms A B x n) i = decide (i < 6 ∧ eqx A B x i n)
  | 0 => by
    show bt (nI 63) i = _
    rw [b_63 i hi]
    exact decide_eq_decide.mpr ⟨fun h => ⟨h, fun j hj => absurd hj (Nat.not_lt_zero j)⟩, fun h => h.1⟩
  | n + 1 => by
    have ih := ms_b A B x hi n
    obtain ⟨h1, h2⟩ := ms1_b A B x n (ms A B x n) hi 6 (Nat.le_refl 6)
    rw [ms_s]
    by_cases h6 : i < 6
    · rw [h2 h6, ih, ← Bool.decide_and]
      refine decide_eq_decide.mpr ⟨fun q => ⟨h6, all_s.mpr ⟨q.1.2, q.2 h6⟩⟩, fun q => ⟨⟨h6, (all_s.mp q.2).1⟩, fun _ => (all_s.mp q.2).2⟩⟩
    · rw [decide_eq_false (fun q => h6 q.1)]
      refine Bool.eq_false_iff.mpr (fun q => ?_)
      have := h1 q
      rw [ih, decide_eq_false (fun q => h6 q.1)] at this
      cases this
theorem eqv_b (A B : Nat × xS) (x : Nat) {i : Nat} (hi : i < 32) : ∀ y, y ≤ 6 → bt (eqv A B x y) i = decide (i < y ∧ eqx A B x i (pmA A B))
  | 0, _ => by
    show bt (nI 0) i = _
    rw [b_n0]
    exact (decide_eq_false (fun q => absurd q.1 (Nat.not_lt_zero i))).symm
  | y + 1, hy => by
    rw [eqv_s, b_or, eqv_b A B x hi y (by omega)]
    by_cases e : eqx A B x y (pmA A B)
    · rw [if_pos e, b_one (by omega) hi, ← Bool.decide_or]
      refine decide_eq_decide.mpr ⟨fun q => ?_, fun q => ?_⟩
      · rcases q with q | q
        · exact ⟨by omega, q.2⟩
        · rw [q]; exact ⟨by omega, e⟩
      · by_cases ey : i = y
        · exact Or.inr ey
        · exact Or.inl ⟨by omega, q.2⟩
    · rw [if_neg e, b_n0, Bool.or_false]
      refine decide_eq_decide.mpr ⟨fun q => ⟨by omega, q.2⟩, fun q => ⟨?_, q.2⟩⟩
      have : i ≠ y := fun ey => e (ey ▸ q.2)
      omega
theorem ms_eqv (A B : Nat × xS) (x : Nat) : ms A B x (pmA A B) = eqv A B x 6 := b_ext (fun i hi => by rw [ms_b A B x hi, eqv_b A B x hi 6 (Nat.le_refl 6)])
theorem s_L_differs {G : xG} {d : Nat} {f : Nat → xC} {r : Nat × Nat} {Q : Option Value → xM → Prop} {z : Nat} {a b : Int32} {o : xO} (hO : OI f z o) (hin : inpt a b) (hq : ∀ f', OI f' z o → Q (some (.int (nI 1))) (f', r)) : xMet G (d + 10) mL_differs [.ref z, .int a, .int b] (f, r) r Q := by
  refine xMet_0 (by decide +kernel) rfl (Nat.le_of_ble_eq_true rfl) ?_
  show xX G (d + 10) mL_differs r r (xΦ G r r Q) 0 [(0, .ref z), (1, .int a), (2, .int b)] [] (f, r)
  have base : ∀ f, OI f z o → xX G (d + 10) mL_differs r r (xΦ G r r Q) 8 [(0, .ref z), (1, .int a), (2, .int b), (3, .int (fdF (RO o 0 a b) (RO o 1 a b) (40 - 0) 0)), (4, .int (-1))] [] (f, r) := by
    intro f hO
    refine xr_iload (n := 10) dL_differs_8 rfl rfl ?_
    refine xr_if_lt (tgt := 47) (n := 13) dL_differs_10 (by decide) rfl (fun h10 => ?_) (fun h10 => by (exfalso; revert h10; decide))
    refine xr_aload_n (n := 48) dL_differs_47 rfl rfl ?_
    refine xr_iload_n (n := 49) dL_differs_48 rfl rfl ?_
    refine xr_iload_n (n := 50) dL_differs_49 rfl rfl ?_
    refine xr_callV (y2 := mX7_difference) (As := [_, _]) (n := 53) dL_differs_50 lm_L_57 pm_X7_difference pi_X7_difference (by exact Exists.choose_spec hO.z) rfl rfl rfl (by simp [Value.category]) rfl ⟨Nat.le_refl _, Nat.le_refl _⟩ ?_
    refine q_difference hO hin (fun f hO => ?_)
    dsimp only [xK, xps]
    refine xr_iload_n (n := 54) dL_differs_53 rfl rfl ?_
    refine xr_icmp_ne (tgt := 61) (n := 57) dL_differs_54 (by decide) rfl (fun h54 => by (exact absurd rfl h54)) (fun h54 => ?_)
    refine xr_iconst (v := nI 1) (n := 58) dL_differs_57 (by decide) rfl ?_
    refine xr_goto (n := 62) dL_differs_58 (by decide) ?_
    refine xr_ireturn dL_differs_62 rfl (by first | exact b2i_nar | exact nar_1 | exact nar_0) rfl ?_
    exact hq f hO
  have key : ∀ j, j < 40 → ∀ f, OI f z o → xX G (d + 10) mL_differs r r (xΦ G r r Q) 8 [(0, .ref z), (1, .int a), (2, .int b), (3, .int (fdF (RO o 0 a b) (RO o 1 a b) (40 - (j + 1)) (j + 1))), (4, .int (nI j))] [] (f, r) := by
    intro j
    induction j with
    | zero =>
      intro hj f hO
      refine xr_iload (n := 10) dL_differs_8 rfl rfl ?_
      refine xr_if_lt (tgt := 47) (n := 13) dL_differs_10 (by decide) rfl (fun h10 => by (exfalso; revert h10; decide)) (fun h10 => ?_)
      refine xr_aload_n (n := 14) dL_differs_13 rfl rfl ?_
      refine xr_iconst (v := nI 0) (n := 15) dL_differs_14 (by decide) rfl ?_
      refine xr_iload_n (n := 16) dL_differs_15 rfl rfl ?_
      refine xr_iload_n (n := 17) dL_differs_16 rfl rfl ?_
      refine xr_iload (n := 19) dL_differs_17 rfl rfl ?_
      refine xr_callV (y2 := mX7_told) (As := [_, _, _, _]) (n := 22) dL_differs_19 lm_L_40 pm_X7_told pi_X7_told (by exact Exists.choose_spec hO.z) rfl rfl rfl (by simp [Value.category]) rfl ⟨Nat.le_refl _, Nat.le_refl _⟩ ?_
      refine q_told (p := 0) hO (by omega) hin (by omega) (fun f hO => ?_)
      dsimp only [xK, xps]
      refine xr_aload_n (n := 23) dL_differs_22 rfl rfl ?_
      refine xr_iconst (v := nI 1) (n := 24) dL_differs_23 (by decide) rfl ?_
      refine xr_iload_n (n := 25) dL_differs_24 rfl rfl ?_
      refine xr_iload_n (n := 26) dL_differs_25 rfl rfl ?_
      refine xr_iload (n := 28) dL_differs_26 rfl rfl ?_
      refine xr_callV (y2 := mX7_told) (As := [_, _, _, _]) (n := 31) dL_differs_28 lm_L_40 pm_X7_told pi_X7_told (by exact Exists.choose_spec hO.z) rfl rfl rfl (by simp [Value.category]) rfl ⟨Nat.le_refl _, Nat.le_refl _⟩ ?_
      refine q_told (p := 1) hO (by omega) hin (by omega) (fun f hO => ?_)
      dsimp only [xK, xps]
      refine xr_icmp_eq (tgt := 39) (n := 34) dL_differs_31 (by decide) rfl (fun h31 => ?_) (fun h31 => ?_)
      · refine xr_iload_n (n := 40) dL_differs_39 rfl rfl ?_
        refine xq_istore_n 3 (n := 41) dL_differs_40 rfl rfl rfl ?_
        simp only [xst, Nat.beq, List.filter, Bool.not_true, Bool.not_false]
        refine xr_iinc (n := 44) dL_differs_41 rfl rfl (rfl) rfl ?_
        simp only [xst, Nat.beq, List.filter, Bool.not_true, Bool.not_false]
        (first | (simp (disch := omega) only [nI_clamp, pk_mul, nI_add, oi1, Nat.reduceMul, Nat.reduceAdd, Nat.add_zero]) | skip)
        refine xr_goto (n := 8) dL_differs_44 (by decide) ?_
        have h9 := base f hO
        rw [fdF_t (by omega) h31] at h9
        exact h9
      · refine xr_iload (n := 36) dL_differs_34 rfl rfl ?_
        refine xr_goto (n := 40) dL_differs_36 (by decide) ?_
        refine xq_istore_n 3 (n := 41) dL_differs_40 rfl rfl rfl ?_
        simp only [xst, Nat.beq, List.filter, Bool.not_true, Bool.not_false]
        refine xr_iinc (n := 44) dL_differs_41 rfl rfl (rfl) rfl ?_
        simp only [xst, Nat.beq, List.filter, Bool.not_true, Bool.not_false]
        (first | (simp (disch := omega) only [nI_clamp, pk_mul, nI_add, oi1, Nat.reduceMul, Nat.reduceAdd, Nat.add_zero]) | skip)
        refine xr_goto (n := 8) dL_differs_44 (by decide) ?_
        have h9 := base f hO
        rw [fdF_f (by omega) h31] at h9
        exact h9
    | succ j ih =>
      intro hj f hO
      refine xr_iload (n := 10) dL_differs_8 rfl rfl ?_
      refine xr_if_lt (tgt := 47) (n := 13) dL_differs_10 (by decide) rfl (fun h10 => by (exfalso; ((try simp (disch := omega) only [i_lt, i_le, i_eq, nt, i_m1, Int32.toInt_zero] at *); omega))) (fun h10 => ?_)
      refine xr_aload_n (n := 14) dL_differs_13 rfl rfl ?_
      refine xr_iconst (v := nI 0) (n := 15) dL_differs_14 (by decide) rfl ?_
      refine xr_iload_n (n := 16) dL_differs_15 rfl rfl ?_
      refine xr_iload_n (n := 17) dL_differs_16 rfl rfl ?_
      refine xr_iload (n := 19) dL_differs_17 rfl rfl ?_
      refine xr_callV (y2 := mX7_told) (As := [_, _, _, _]) (n := 22) dL_differs_19 lm_L_40 pm_X7_told pi_X7_told (by exact Exists.choose_spec hO.z) rfl rfl rfl (by simp [Value.category]) rfl ⟨Nat.le_refl _, Nat.le_refl _⟩ ?_
      refine q_told (p := 0) hO (by omega) hin (by omega) (fun f hO => ?_)
      dsimp only [xK, xps]
      refine xr_aload_n (n := 23) dL_differs_22 rfl rfl ?_
      refine xr_iconst (v := nI 1) (n := 24) dL_differs_23 (by decide) rfl ?_
      refine xr_iload_n (n := 25) dL_differs_24 rfl rfl ?_
      refine xr_iload_n (n := 26) dL_differs_25 rfl rfl ?_
      refine xr_iload (n := 28) dL_differs_26 rfl rfl ?_
      refine xr_callV (y2 := mX7_told) (As := [_, _, _, _]) (n := 31) dL_differs_28 lm_L_40 pm_X7_told pi_X7_told (by exact Exists.choose_spec hO.z) rfl rfl rfl (by simp [Value.category]) rfl ⟨Nat.le_refl _, Nat.le_refl _⟩ ?_
      refine q_told (p := 1) hO (by omega) hin (by omega) (fun f hO => ?_)
      dsimp only [xK, xps]
      refine xr_icmp_eq (tgt := 39) (n := 34) dL_differs_31 (by decide) rfl (fun h31 => ?_) (fun h31 => ?_)
      · refine xr_iload_n (n := 40) dL_differs_39 rfl rfl ?_
        refine xq_istore_n 3 (n := 41) dL_differs_40 rfl rfl rfl ?_
        simp only [xst, Nat.beq, List.filter, Bool.not_true, Bool.not_false]
        refine xr_iinc (n := 44) dL_differs_41 rfl rfl (pk_m1 j) rfl ?_
        simp only [xst, Nat.beq, List.filter, Bool.not_true, Bool.not_false]
        (first | (simp (disch := omega) only [nI_clamp, pk_mul, nI_add, oi1, Nat.reduceMul, Nat.reduceAdd, Nat.add_zero]) | skip)
        refine xr_goto (n := 8) dL_differs_44 (by decide) ?_
        have h9 := ih (by omega) f hO
        rw [fdF_t (by omega) h31] at h9
        exact h9
      · refine xr_iload (n := 36) dL_differs_34 rfl rfl ?_
        refine xr_goto (n := 40) dL_differs_36 (by decide) ?_
        refine xq_istore_n 3 (n := 41) dL_differs_40 rfl rfl rfl ?_
        simp only [xst, Nat.beq, List.filter, Bool.not_true, Bool.not_false]
        refine xr_iinc (n := 44) dL_differs_41 rfl rfl (pk_m1 j) rfl ?_
        simp only [xst, Nat.beq, List.filter, Bool.not_true, Bool.not_false]
        (first | (simp (disch := omega) only [nI_clamp, pk_mul, nI_add, oi1, Nat.reduceMul, Nat.reduceAdd, Nat.add_zero]) | skip)
        refine xr_goto (n := 8) dL_differs_44 (by decide) ?_
        have h9 := ih (by omega) f hO
        rw [fdF_f (by omega) h31] at h9
        exact h9
  refine xr_sipush (v := (-10009)) (n := 3) dL_differs_0 (by decide) rfl ?_
  refine xq_istore_n 3 (n := 4) dL_differs_3 rfl rfl rfl ?_
  simp only [xst, Nat.beq, List.filter, Bool.not_true, Bool.not_false]
  refine xr_bipush (v := nI 39) (n := 6) dL_differs_4 (by decide) rfl ?_
  refine xr_istore (n := 8) dL_differs_6 rfl rfl ?_
  simp only [xst, Nat.beq, List.filter, Bool.not_true, Bool.not_false]
  exact key 39 (by omega) f hO

theorem s_L_pairsFit {G : xG} {d : Nat} {f : Nat → xC} {r : Nat × Nat} {Q : Option Value → xM → Prop} {z : Nat} {a b : Int32} {o : xO} (hO : OI f z o) (hin : inpt a b) (hq : ∀ f', OI f' z o → Q (some (.int (nI 1))) (f', r)) : xMet G (d + 11) mL_pairsFit [.ref z, .int a, .int b] (f, r) r Q := by
  refine xMet_0 (by decide +kernel) rfl (Nat.le_of_ble_eq_true rfl) ?_
  show xX G (d + 11) mL_pairsFit r r (xΦ G r r Q) 0 [(0, .ref z), (1, .int a), (2, .int b)] [] (f, r)
  have hA3 : st3 (RO o 0 a b).2 400 := st3_D
  have hB3 : st3 (RO o 1 a b).2 400 := st3_D
  obtain ⟨t0, mk0, rd0, mo0, tl0, ⟨-, h60, -, -, -, hs0, -, -, ht0, -⟩, -⟩ := rn_D (n := oN o 0) (P := oP o 0) (a := a) (b := b)
  obtain ⟨t1, mk1, rd1, mo1, tl1, ⟨-, h61, -, -, -, hs1, -, -, ht1, -⟩, -⟩ := rn_D (n := oN o 1) (P := oP o 1) (a := a) (b := b)
  have h60 : (RO o 0 a b).2 6 0 = nI mk0 := h60
  have h61 : (RO o 1 a b).2 6 0 = nI mk1 := h61
  have hpm : pmA (RO o 0 a b) (RO o 1 a b) = pmn mk0 mk1 := by
    unfold pmA
    rw [h60, h61, ix_n (by omega), ix_n (by omega)]
  have hn := pmn_le mk0 mk1
  have hce0 : ∀ k c, k < pmn mk0 mk1 → celA (RO o 0 a b) k c = (RO o 0 a b).2 2 (6 * k + c) := fun k c hk => by rw [celA_l h60 (by omega), if_pos (kp_pmn hk).1]
  have hce1 : ∀ k c, k < pmn mk0 mk1 → celA (RO o 1 a b) k c = (RO o 1 a b).2 2 (6 * k + c) := fun k c hk => by rw [celA_l h61 (by omega), if_pos (kp_pmn hk).2.1]
  have hms := fun x => ms_eqv (RO o 0 a b) (RO o 1 a b) x
  have hgl := glv_b hA3 hB3 (pmn mk0 mk1)
  have hv0 : prV (RO o 0 a b) (RO o 1 a b) 0 = nI (pmn mk0 mk1) := by
    show nI (pmA (RO o 0 a b) (RO o 1 a b)) = _
    rw [hpm]
  have hv3 : prV (RO o 0 a b) (RO o 1 a b) 3 = nI (aev (RO o 0 a b) (RO o 1 a b) (pmn mk0 mk1)) := by
    show nI (aev (RO o 0 a b) (RO o 1 a b) (pmA (RO o 0 a b) (RO o 1 a b))) = _
    rw [hpm]
  have hv1 : prV (RO o 0 a b) (RO o 1 a b) 1 = if pmn mk0 mk1 = 0 then (-10009) else glv (RO o 0 a b) (RO o 1 a b) (pmn mk0 mk1) := by
    show (if pmA (RO o 0 a b) (RO o 1 a b) = 0 then (-10009) else glv (RO o 0 a b) (RO o 1 a b) (pmA (RO o 0 a b) (RO o 1 a b))) = _
    rw [hpm]
  have hv2 : prV (RO o 0 a b) (RO o 1 a b) 2 = if pmn mk0 mk1 = 0 then (-10009) else ldv (RO o 0 a b) (RO o 1 a b) (pmn mk0 mk1 - 1) := by
    show (if pmA (RO o 0 a b) (RO o 1 a b) = 0 then (-10009) else ldv (RO o 0 a b) (RO o 1 a b) (pmA (RO o 0 a b) (RO o 1 a b) - 1)) = _
    rw [hpm]
  have hr0 : runV (oN o 0) (RO o 0 a b) 3 = nI mk0 := h60
  have hr1 : runV (oN o 1) (RO o 1 a b) 3 = nI mk1 := h61
  have hl3 : (if 40 < (if mk0 < mk1 then mk0 else mk1) then 40 else (if mk0 < mk1 then mk0 else mk1)) = pmn mk0 mk1 := rfl
  have hae := aev_le (RO o 0 a b) (RO o 1 a b) (pmn mk0 mk1)
  rw [hpm] at hms
  clear hpm
  generalize pmn mk0 mk1 = n at *
  obtain ⟨most, hmo⟩ : ∃ m, prV (RO o 0 a b) (RO o 1 a b) 1 = m := ⟨_, rfl⟩
  obtain ⟨last, hla⟩ : ∃ m, prV (RO o 0 a b) (RO o 1 a b) 2 = m := ⟨_, rfl⟩
  rw [hmo] at hv1
  rw [hla] at hv2
  have k318 : ∀ f, OI f z o → xX G (d + 11) mL_pairsFit r r (xΦ G r r Q) 318 [(0, .ref z), (1, .int a), (2, .int b), (3, .int (nI n)), (4, .int most), (5, .int last), (6, .int (nI (aev (RO o 0 a b) (RO o 1 a b) n))), (7, .int (nI 1)), (8, .int (nI 6))] [] (f, r) := by
    intro f hO
    refine xr_iload (n := 320) dL_pairsFit_318 rfl rfl ?_
    refine xr_if_eq (tgt := 348) (n := 323) dL_pairsFit_320 (by decide) rfl (fun h320 => by (exfalso; revert h320; decide)) (fun h320 => ?_)
    refine xr_aload_n (n := 324) dL_pairsFit_323 rfl rfl ?_
    refine xr_iload_n (n := 325) dL_pairsFit_324 rfl rfl ?_
    refine xr_iload_n (n := 326) dL_pairsFit_325 rfl rfl ?_
    refine xr_iconst (v := nI 3) (n := 327) dL_pairsFit_326 (by decide) rfl ?_
    refine xr_callV (y2 := mX7_pairs) (As := [_, _, _]) (n := 330) dL_pairsFit_327 lm_L_43 pm_X7_pairs pi_X7_pairs (by exact Exists.choose_spec hO.z) rfl rfl rfl (by simp [Value.category]) rfl ⟨Nat.le_refl _, Nat.le_refl _⟩ ?_
    refine q_pairs hO hin (by omega) (fun f hO => ?_)
    dsimp only [xK, xps]
    rw [hv3]
    refine xr_iload (n := 332) dL_pairsFit_330 rfl rfl ?_
    refine xr_icmp_ne (tgt := 348) (n := 335) dL_pairsFit_332 (by decide) rfl (fun h332 => by (exact absurd rfl h332)) (fun h332 => ?_)
    refine xr_aload_n (n := 336) dL_pairsFit_335 rfl rfl ?_
    refine xr_iload_n (n := 337) dL_pairsFit_336 rfl rfl ?_
    refine xr_iload_n (n := 338) dL_pairsFit_337 rfl rfl ?_
    refine xr_callS (y2 := mL_differs) (As := [_, _, _]) (n := 341) dL_pairsFit_338 lm_L_53 pm_L_differs kp_static_yL_differs rfl rfl (by simp [Value.category]) rfl ⟨Nat.le_refl _, Nat.le_refl _⟩ ?_
    refine s_L_differs hO hin (fun f hO => ?_)
    dsimp only [xK, xps]
    refine xr_if_eq (tgt := 348) (n := 344) dL_pairsFit_341 (by decide) rfl (fun h341 => by (exfalso; revert h341; decide)) (fun h341 => ?_)
    refine xr_iconst (v := nI 1) (n := 345) dL_pairsFit_344 (by decide) rfl ?_
    refine xr_goto (n := 349) dL_pairsFit_345 (by decide) ?_
    refine xr_ireturn dL_pairsFit_349 rfl (by first | exact b2i_nar | exact nar_1 | exact nar_0) rfl ?_
    exact hq f hO
  have k108 : ∀ f, OI f z o → xX G (d + 11) mL_pairsFit r r (xΦ G r r Q) 108 [(0, .ref z), (1, .int a), (2, .int b), (3, .int (nI n)), (4, .int most), (5, .int last), (6, .int (nI 0))] [] (f, r) := by
    intro f hO
    refine xr_iconst (v := nI 1) (n := 109) dL_pairsFit_108 (by decide) rfl ?_
    refine xr_goto (n := 113) dL_pairsFit_109 (by decide) ?_
    refine xr_istore (n := 115) dL_pairsFit_113 rfl rfl ?_
    simp only [xst, Nat.beq, List.filter, Bool.not_true, Bool.not_false]
    refine xr_iconst (v := nI 0) (n := 116) dL_pairsFit_115 (by decide) rfl ?_
    refine xr_istore (n := 118) dL_pairsFit_116 rfl rfl ?_
    simp only [xst, Nat.beq, List.filter, Bool.not_true, Bool.not_false]
    have keyp : ∀ k, k ≤ n → ∀ f, OI f z o → xX G (d + 11) mL_pairsFit r r (xΦ G r r Q) 118 [(0, .ref z), (1, .int a), (2, .int b), (3, .int (nI n)), (4, .int most), (5, .int last), (6, .int (nI (aev (RO o 0 a b) (RO o 1 a b) k))), (7, .int (nI 1)), (8, .int (nI k))] [] (f, r) := by
      refine nat_down (P := fun k => ∀ f, OI f z o → xX G (d + 11) mL_pairsFit r r (xΦ G r r Q) 118 [(0, .ref z), (1, .int a), (2, .int b), (3, .int (nI n)), (4, .int most), (5, .int last), (6, .int (nI (aev (RO o 0 a b) (RO o 1 a b) k))), (7, .int (nI 1)), (8, .int (nI k))] [] (f, r)) (N := n) ?_ ?_
      · intro f hO
        refine xr_iload (n := 120) dL_pairsFit_118 rfl rfl ?_
        refine xr_iload_n (n := 121) dL_pairsFit_120 rfl rfl ?_
        refine xr_icmp_ge (tgt := 201) (n := 124) dL_pairsFit_121 (by decide) rfl (fun h121 => ?_) (fun h121 => by (exfalso; ((try simp (disch := omega) only [i_lt, i_le, i_eq, nt, i_m1, Int32.toInt_zero] at *); omega)))
        refine xr_iconst (v := nI 0) (n := 202) dL_pairsFit_201 (by decide) rfl ?_
        refine xr_istore (n := 204) dL_pairsFit_202 rfl rfl ?_
        simp only [xst, Nat.beq, List.filter, Bool.not_true, Bool.not_false]
        have keyx : ∀ x, x ≤ 6 → ∀ f, OI f z o → xX G (d + 11) mL_pairsFit r r (xΦ G r r Q) 204 [(0, .ref z), (1, .int a), (2, .int b), (3, .int (nI n)), (4, .int most), (5, .int last), (6, .int (nI (aev (RO o 0 a b) (RO o 1 a b) n))), (7, .int (nI 1)), (8, .int (nI x))] [] (f, r) := by
          refine nat_down (P := fun x => ∀ f, OI f z o → xX G (d + 11) mL_pairsFit r r (xΦ G r r Q) 204 [(0, .ref z), (1, .int a), (2, .int b), (3, .int (nI n)), (4, .int most), (5, .int last), (6, .int (nI (aev (RO o 0 a b) (RO o 1 a b) n))), (7, .int (nI 1)), (8, .int (nI x))] [] (f, r)) (N := 6) ?_ ?_
          · intro f hO
            refine xr_iload (n := 206) dL_pairsFit_204 rfl rfl ?_
            refine xr_bipush (v := nI 6) (n := 208) dL_pairsFit_206 (by decide) rfl ?_
            refine xr_icmp_ge (tgt := 318) (n := 211) dL_pairsFit_208 (by decide) rfl (fun h208 => ?_) (fun h208 => by (exfalso; ((try simp (disch := omega) only [i_lt, i_le, i_eq, nt, i_m1, Int32.toInt_zero] at *); omega)))
            exact k318 f hO
          · intro x hkx ihx f hO
            refine xr_iload (n := 206) dL_pairsFit_204 rfl rfl ?_
            refine xr_bipush (v := nI 6) (n := 208) dL_pairsFit_206 (by decide) rfl ?_
            refine xr_icmp_ge (tgt := 318) (n := 211) dL_pairsFit_208 (by decide) rfl (fun h208 => by (exfalso; ((try simp (disch := omega) only [i_lt, i_le, i_eq, nt, i_m1, Int32.toInt_zero] at *); omega))) (fun h208 => ?_)
            refine xr_iload (n := 213) dL_pairsFit_211 rfl rfl ?_
            refine xr_if_eq (tgt := 318) (n := 216) dL_pairsFit_213 (by decide) rfl (fun h213 => by (exfalso; revert h213; decide)) (fun h213 => ?_)
            refine xr_bipush (v := nI 63) (n := 218) dL_pairsFit_216 (by decide) rfl ?_
            refine xr_istore (n := 220) dL_pairsFit_218 rfl rfl ?_
            simp only [xst, Nat.beq, List.filter, Bool.not_true, Bool.not_false]
            refine xr_iconst (v := nI 0) (n := 221) dL_pairsFit_220 (by decide) rfl ?_
            refine xr_istore (n := 223) dL_pairsFit_221 rfl rfl ?_
            simp only [xst, Nat.beq, List.filter, Bool.not_true, Bool.not_false]
            have keyk : ∀ k, k ≤ n → ∀ f, OI f z o → xX G (d + 11) mL_pairsFit r r (xΦ G r r Q) 223 [(0, .ref z), (1, .int a), (2, .int b), (3, .int (nI n)), (4, .int most), (5, .int last), (6, .int (nI (aev (RO o 0 a b) (RO o 1 a b) n))), (7, .int (nI 1)), (8, .int (nI x)), (9, .int (ms (RO o 0 a b) (RO o 1 a b) x k)), (10, .int (nI k))] [] (f, r) := by
              refine nat_down (P := fun k => ∀ f, OI f z o → xX G (d + 11) mL_pairsFit r r (xΦ G r r Q) 223 [(0, .ref z), (1, .int a), (2, .int b), (3, .int (nI n)), (4, .int most), (5, .int last), (6, .int (nI (aev (RO o 0 a b) (RO o 1 a b) n))), (7, .int (nI 1)), (8, .int (nI x)), (9, .int (ms (RO o 0 a b) (RO o 1 a b) x k)), (10, .int (nI k))] [] (f, r)) (N := n) ?_ ?_
              · intro f hO
                refine xr_iload (n := 225) dL_pairsFit_223 rfl rfl ?_
                refine xr_iload_n (n := 226) dL_pairsFit_225 rfl rfl ?_
                refine xr_icmp_ge (tgt := 292) (n := 229) dL_pairsFit_226 (by decide) rfl (fun h226 => ?_) (fun h226 => by (exfalso; ((try simp (disch := omega) only [i_lt, i_le, i_eq, nt, i_m1, Int32.toInt_zero] at *); omega)))
                refine xr_aload_n (n := 293) dL_pairsFit_292 rfl rfl ?_
                refine xr_iload_n (n := 294) dL_pairsFit_293 rfl rfl ?_
                refine xr_iload_n (n := 295) dL_pairsFit_294 rfl rfl ?_
                refine xr_iload (n := 297) dL_pairsFit_295 rfl rfl ?_
                refine xr_callV (y2 := mX7_equal) (As := [_, _, _]) (n := 300) dL_pairsFit_297 lm_L_50 pm_X7_equal pi_X7_equal (by exact Exists.choose_spec hO.z) rfl rfl rfl (by simp [Value.category]) rfl ⟨Nat.le_refl _, Nat.le_refl _⟩ ?_
                refine q_equal hO hin (by omega) (fun f hO => ?_)
                dsimp only [xK, xps]
                refine xr_iload (n := 302) dL_pairsFit_300 rfl rfl ?_
                refine xr_icmp_ne (tgt := 309) (n := 305) dL_pairsFit_302 (by decide) rfl (fun h302 => by (exact absurd (hms x).symm h302)) (fun h302 => ?_)
                refine xr_iconst (v := nI 1) (n := 306) dL_pairsFit_305 (by decide) rfl ?_
                refine xr_goto (n := 310) dL_pairsFit_306 (by decide) ?_
                refine xr_istore (n := 312) dL_pairsFit_310 rfl rfl ?_
                simp only [xst, Nat.beq, List.filter, Bool.not_true, Bool.not_false]
                refine xr_iinc (n := 315) dL_pairsFit_312 rfl rfl (rfl) rfl ?_
                simp only [xst, Nat.beq, List.filter, Bool.not_true, Bool.not_false]
                (first | (simp (disch := omega) only [nI_clamp, pk_mul, nI_add, oi1, Nat.reduceMul, Nat.reduceAdd, Nat.add_zero]) | skip)
                refine xr_goto (n := 204) dL_pairsFit_315 (by decide) ?_
                refine xX.drop 10 ?_
                simp only [List.filter, Nat.beq, Bool.not_true, Bool.not_false]
                refine xX.drop 9 ?_
                simp only [List.filter, Nat.beq, Bool.not_true, Bool.not_false]
                exact ihx f hO
              · intro k hkk ihk f hO
                refine xr_iload (n := 225) dL_pairsFit_223 rfl rfl ?_
                refine xr_iload_n (n := 226) dL_pairsFit_225 rfl rfl ?_
                refine xr_icmp_ge (tgt := 292) (n := 229) dL_pairsFit_226 (by decide) rfl (fun h226 => by (exfalso; ((try simp (disch := omega) only [i_lt, i_le, i_eq, nt, i_m1, Int32.toInt_zero] at *); omega))) (fun h226 => ?_)
                refine xr_iconst (v := nI 0) (n := 230) dL_pairsFit_229 (by decide) rfl ?_
                refine xr_istore (n := 232) dL_pairsFit_230 rfl rfl ?_
                simp only [xst, Nat.beq, List.filter, Bool.not_true, Bool.not_false]
                have keyv : ∀ v, v ≤ 6 → ∀ f, OI f z o → xX G (d + 11) mL_pairsFit r r (xΦ G r r Q) 232 [(0, .ref z), (1, .int a), (2, .int b), (3, .int (nI n)), (4, .int most), (5, .int last), (6, .int (nI (aev (RO o 0 a b) (RO o 1 a b) n))), (7, .int (nI 1)), (8, .int (nI x)), (9, .int (ms1 (RO o 0 a b) (RO o 1 a b) x k v (ms (RO o 0 a b) (RO o 1 a b) x k))), (10, .int (nI k)), (11, .int (nI v))] [] (f, r) := by
                  refine nat_down (P := fun v => ∀ f, OI f z o → xX G (d + 11) mL_pairsFit r r (xΦ G r r Q) 232 [(0, .ref z), (1, .int a), (2, .int b), (3, .int (nI n)), (4, .int most), (5, .int last), (6, .int (nI (aev (RO o 0 a b) (RO o 1 a b) n))), (7, .int (nI 1)), (8, .int (nI x)), (9, .int (ms1 (RO o 0 a b) (RO o 1 a b) x k v (ms (RO o 0 a b) (RO o 1 a b) x k))), (10, .int (nI k)), (11, .int (nI v))] [] (f, r)) (N := 6) ?_ ?_
                  · intro f hO
                    refine xr_iload (n := 234) dL_pairsFit_232 rfl rfl ?_
                    refine xr_bipush (v := nI 6) (n := 236) dL_pairsFit_234 (by decide) rfl ?_
                    refine xr_icmp_ge (tgt := 286) (n := 239) dL_pairsFit_236 (by decide) rfl (fun h236 => ?_) (fun h236 => by (exfalso; ((try simp (disch := omega) only [i_lt, i_le, i_eq, nt, i_m1, Int32.toInt_zero] at *); omega)))
                    refine xr_iinc (n := 289) dL_pairsFit_286 rfl rfl (rfl) rfl ?_
                    simp only [xst, Nat.beq, List.filter, Bool.not_true, Bool.not_false]
                    (first | (simp (disch := omega) only [nI_clamp, pk_mul, nI_add, oi1, Nat.reduceMul, Nat.reduceAdd, Nat.add_zero]) | skip)
                    refine xr_goto (n := 223) dL_pairsFit_289 (by decide) ?_
                    refine xX.drop 11 ?_
                    simp only [List.filter, Nat.beq, Bool.not_true, Bool.not_false]
                    have h9 := ihk f hO
                    rw [ms_s] at h9
                    exact h9
                  · intro v hkv ihv f hO
                    refine xr_iload (n := 234) dL_pairsFit_232 rfl rfl ?_
                    refine xr_bipush (v := nI 6) (n := 236) dL_pairsFit_234 (by decide) rfl ?_
                    refine xr_icmp_ge (tgt := 286) (n := 239) dL_pairsFit_236 (by decide) rfl (fun h236 => by (exfalso; ((try simp (disch := omega) only [i_lt, i_le, i_eq, nt, i_m1, Int32.toInt_zero] at *); omega))) (fun h236 => ?_)
                    refine xr_iload (n := 241) dL_pairsFit_239 rfl rfl ?_
                    refine xr_aload_n (n := 242) dL_pairsFit_241 rfl rfl ?_
                    refine xr_iconst (v := nI 0) (n := 243) dL_pairsFit_242 (by decide) rfl ?_
                    refine xr_iload_n (n := 244) dL_pairsFit_243 rfl rfl ?_
                    refine xr_iload_n (n := 245) dL_pairsFit_244 rfl rfl ?_
                    refine xr_iload (n := 247) dL_pairsFit_245 rfl rfl ?_
                    refine xr_iload (n := 249) dL_pairsFit_247 rfl rfl ?_
                    refine xr_callV (y2 := mX7_cell) (As := [_, _, _, _, _]) (n := 252) dL_pairsFit_249 lm_L_32 pm_X7_cell pi_X7_cell (by exact Exists.choose_spec hO.z) rfl rfl rfl (by simp [Value.category]) rfl ⟨Nat.le_refl _, Nat.le_refl _⟩ ?_
                    refine q_cell (p := 0) hO (by omega) hin (by omega) (by omega) (fun f hO => ?_)
                    dsimp only [xK, xps]
                    rw [hce0 _ _ hkk]
                    refine xr_aload_n (n := 253) dL_pairsFit_252 rfl rfl ?_
                    refine xr_iconst (v := nI 1) (n := 254) dL_pairsFit_253 (by decide) rfl ?_
                    refine xr_iload_n (n := 255) dL_pairsFit_254 rfl rfl ?_
                    refine xr_iload_n (n := 256) dL_pairsFit_255 rfl rfl ?_
                    refine xr_iload (n := 258) dL_pairsFit_256 rfl rfl ?_
                    refine xr_iload (n := 260) dL_pairsFit_258 rfl rfl ?_
                    refine xr_callV (y2 := mX7_cell) (As := [_, _, _, _, _]) (n := 263) dL_pairsFit_260 lm_L_32 pm_X7_cell pi_X7_cell (by exact Exists.choose_spec hO.z) rfl rfl rfl (by simp [Value.category]) rfl ⟨Nat.le_refl _, Nat.le_refl _⟩ ?_
                    refine q_cell (p := 1) hO (by omega) hin (by omega) (by omega) (fun f hO => ?_)
                    dsimp only [xK, xps]
                    rw [hce1 _ _ hkk]
                    refine xr_icmp_ne (tgt := 271) (n := 266) dL_pairsFit_263 (by decide) rfl (fun h263 => ?_) (fun h263 => ?_)
                    · refine xr_iconst (v := nI 1) (n := 272) dL_pairsFit_271 (by decide) rfl ?_
                      refine xr_iload (n := 274) dL_pairsFit_272 rfl rfl ?_
                      refine xr_ishl (n := 275) dL_pairsFit_274 rfl ?_
                      refine xr_iconst (v := (-1)) (n := 276) dL_pairsFit_275 (by decide) rfl ?_
                      refine xr_ixor (n := 277) dL_pairsFit_276 rfl ?_
                      refine xr_iand (n := 278) dL_pairsFit_277 rfl ?_
                      refine xr_istore (n := 280) dL_pairsFit_278 rfl rfl ?_
                      simp only [xst, Nat.beq, List.filter, Bool.not_true, Bool.not_false]
                      refine xr_iinc (n := 283) dL_pairsFit_280 rfl rfl (rfl) rfl ?_
                      simp only [xst, Nat.beq, List.filter, Bool.not_true, Bool.not_false]
                      (first | (simp (disch := omega) only [nI_clamp, pk_mul, nI_add, oi1, Nat.reduceMul, Nat.reduceAdd, Nat.add_zero]) | skip)
                      refine xr_goto (n := 232) dL_pairsFit_283 (by decide) ?_
                      have h9 := ihv f hO
                      rw [ms1_s, if_neg h263] at h9
                      exact h9
                    · refine xr_bipush (v := nI 63) (n := 268) dL_pairsFit_266 (by decide) rfl ?_
                      refine xr_goto (n := 277) dL_pairsFit_268 (by decide) ?_
                      refine xr_iand (n := 278) dL_pairsFit_277 rfl ?_
                      refine xr_istore (n := 280) dL_pairsFit_278 rfl rfl ?_
                      simp only [xst, Nat.beq, List.filter, Bool.not_true, Bool.not_false]
                      refine xr_iinc (n := 283) dL_pairsFit_280 rfl rfl (rfl) rfl ?_
                      simp only [xst, Nat.beq, List.filter, Bool.not_true, Bool.not_false]
                      (first | (simp (disch := omega) only [nI_clamp, pk_mul, nI_add, oi1, Nat.reduceMul, Nat.reduceAdd, Nat.add_zero]) | skip)
                      refine xr_goto (n := 232) dL_pairsFit_283 (by decide) ?_
                      have h9 := ihv f hO
                      rw [ms1_s, if_pos h263] at h9
                      exact h9
                exact keyv 0 (by omega) f hO
            exact keyk 0 (by omega) f hO
        exact keyx 0 (by omega) f hO
      · intro k hkk ihp f hO
        refine xr_iload (n := 120) dL_pairsFit_118 rfl rfl ?_
        refine xr_iload_n (n := 121) dL_pairsFit_120 rfl rfl ?_
        refine xr_icmp_ge (tgt := 201) (n := 124) dL_pairsFit_121 (by decide) rfl (fun h121 => by (exfalso; ((try simp (disch := omega) only [i_lt, i_le, i_eq, nt, i_m1, Int32.toInt_zero] at *); omega))) (fun h121 => ?_)
        refine xr_iconst (v := nI 0) (n := 125) dL_pairsFit_124 (by decide) rfl ?_
        refine xr_istore (n := 127) dL_pairsFit_125 rfl rfl ?_
        simp only [xst, Nat.beq, List.filter, Bool.not_true, Bool.not_false]
        refine xr_iconst (v := nI 0) (n := 128) dL_pairsFit_127 (by decide) rfl ?_
        refine xr_istore (n := 130) dL_pairsFit_128 rfl rfl ?_
        simp only [xst, Nat.beq, List.filter, Bool.not_true, Bool.not_false]
        have keyc : ∀ c, c ≤ 6 → ∀ f, OI f z o → xX G (d + 11) mL_pairsFit r r (xΦ G r r Q) 130 [(0, .ref z), (1, .int a), (2, .int b), (3, .int (nI n)), (4, .int most), (5, .int last), (6, .int (nI (aev (RO o 0 a b) (RO o 1 a b) k))), (7, .int (nI 1)), (8, .int (nI k)), (9, .int (nI (alk (RO o 0 a b) (RO o 1 a b) k c))), (10, .int (nI c))] [] (f, r) := by
          refine nat_down (P := fun c => ∀ f, OI f z o → xX G (d + 11) mL_pairsFit r r (xΦ G r r Q) 130 [(0, .ref z), (1, .int a), (2, .int b), (3, .int (nI n)), (4, .int most), (5, .int last), (6, .int (nI (aev (RO o 0 a b) (RO o 1 a b) k))), (7, .int (nI 1)), (8, .int (nI k)), (9, .int (nI (alk (RO o 0 a b) (RO o 1 a b) k c))), (10, .int (nI c))] [] (f, r)) (N := 6) ?_ ?_
          · intro f hO
            have hal := alk_le (RO o 0 a b) (RO o 1 a b) k 6
            refine xr_iload (n := 132) dL_pairsFit_130 rfl rfl ?_
            refine xr_bipush (v := nI 6) (n := 134) dL_pairsFit_132 (by decide) rfl ?_
            refine xr_icmp_ge (tgt := 178) (n := 137) dL_pairsFit_134 (by decide) rfl (fun h134 => ?_) (fun h134 => by (exfalso; ((try simp (disch := omega) only [i_lt, i_le, i_eq, nt, i_m1, Int32.toInt_zero] at *); omega)))
            refine xr_iload (n := 180) dL_pairsFit_178 rfl rfl ?_
            refine xr_iload (n := 182) dL_pairsFit_180 rfl rfl ?_
            refine xr_bipush (v := nI 6) (n := 184) dL_pairsFit_182 (by decide) rfl ?_
            refine xr_icmp_ne (tgt := 191) (n := 187) dL_pairsFit_184 (by decide) rfl (fun h184 => ?_) (fun h184 => ?_)
            · refine xr_iconst (v := nI 0) (n := 192) dL_pairsFit_191 (by decide) rfl ?_
              refine xr_iadd (n := 193) dL_pairsFit_192 rfl ?_
              (first | (simp (disch := omega) only [nI_clamp, pk_mul, nI_add, oi1, Nat.reduceMul, Nat.reduceAdd, Nat.add_zero]) | skip)
              refine xr_istore (n := 195) dL_pairsFit_193 rfl rfl ?_
              simp only [xst, Nat.beq, List.filter, Bool.not_true, Bool.not_false]
              refine xr_iinc (n := 198) dL_pairsFit_195 rfl rfl (rfl) rfl ?_
              simp only [xst, Nat.beq, List.filter, Bool.not_true, Bool.not_false]
              (first | (simp (disch := omega) only [nI_clamp, pk_mul, nI_add, oi1, Nat.reduceMul, Nat.reduceAdd, Nat.add_zero]) | skip)
              refine xr_goto (n := 118) dL_pairsFit_198 (by decide) ?_
              refine xX.drop 10 ?_
              simp only [List.filter, Nat.beq, Bool.not_true, Bool.not_false]
              refine xX.drop 9 ?_
              simp only [List.filter, Nat.beq, Bool.not_true, Bool.not_false]
              have h9 := ihp f hO
              rw [aev_f (fun q => h184 (by rw [(alk_eq _ _ _ _).mpr q]))] at h9
              exact h9
            · refine xr_iconst (v := nI 1) (n := 188) dL_pairsFit_187 (by decide) rfl ?_
              refine xr_goto (n := 192) dL_pairsFit_188 (by decide) ?_
              refine xr_iadd (n := 193) dL_pairsFit_192 rfl ?_
              (first | (simp (disch := omega) only [nI_clamp, pk_mul, nI_add, oi1, Nat.reduceMul, Nat.reduceAdd, Nat.add_zero]) | skip)
              refine xr_istore (n := 195) dL_pairsFit_193 rfl rfl ?_
              simp only [xst, Nat.beq, List.filter, Bool.not_true, Bool.not_false]
              refine xr_iinc (n := 198) dL_pairsFit_195 rfl rfl (rfl) rfl ?_
              simp only [xst, Nat.beq, List.filter, Bool.not_true, Bool.not_false]
              (first | (simp (disch := omega) only [nI_clamp, pk_mul, nI_add, oi1, Nat.reduceMul, Nat.reduceAdd, Nat.add_zero]) | skip)
              refine xr_goto (n := 118) dL_pairsFit_198 (by decide) ?_
              refine xX.drop 10 ?_
              simp only [List.filter, Nat.beq, Bool.not_true, Bool.not_false]
              refine xX.drop 9 ?_
              simp only [List.filter, Nat.beq, Bool.not_true, Bool.not_false]
              have h9 := ihp f hO
              rw [aev_t ((alk_eq _ _ _ _).mp (nI_inj (by omega) (by omega) h184))] at h9
              exact h9
          · intro c hkc ihc f hO
            refine xr_iload (n := 132) dL_pairsFit_130 rfl rfl ?_
            refine xr_bipush (v := nI 6) (n := 134) dL_pairsFit_132 (by decide) rfl ?_
            refine xr_icmp_ge (tgt := 178) (n := 137) dL_pairsFit_134 (by decide) rfl (fun h134 => by (exfalso; ((try simp (disch := omega) only [i_lt, i_le, i_eq, nt, i_m1, Int32.toInt_zero] at *); omega))) (fun h134 => ?_)
            refine xr_iload (n := 139) dL_pairsFit_137 rfl rfl ?_
            refine xr_aload_n (n := 140) dL_pairsFit_139 rfl rfl ?_
            refine xr_iconst (v := nI 0) (n := 141) dL_pairsFit_140 (by decide) rfl ?_
            refine xr_iload_n (n := 142) dL_pairsFit_141 rfl rfl ?_
            refine xr_iload_n (n := 143) dL_pairsFit_142 rfl rfl ?_
            refine xr_iload (n := 145) dL_pairsFit_143 rfl rfl ?_
            refine xr_iload (n := 147) dL_pairsFit_145 rfl rfl ?_
            refine xr_callV (y2 := mX7_cell) (As := [_, _, _, _, _]) (n := 150) dL_pairsFit_147 lm_L_32 pm_X7_cell pi_X7_cell (by exact Exists.choose_spec hO.z) rfl rfl rfl (by simp [Value.category]) rfl ⟨Nat.le_refl _, Nat.le_refl _⟩ ?_
            refine q_cell (p := 0) hO (by omega) hin (by omega) (by omega) (fun f hO => ?_)
            dsimp only [xK, xps]
            rw [hce0 _ _ hkk]
            refine xr_aload_n (n := 151) dL_pairsFit_150 rfl rfl ?_
            refine xr_iconst (v := nI 1) (n := 152) dL_pairsFit_151 (by decide) rfl ?_
            refine xr_iload_n (n := 153) dL_pairsFit_152 rfl rfl ?_
            refine xr_iload_n (n := 154) dL_pairsFit_153 rfl rfl ?_
            refine xr_iload (n := 156) dL_pairsFit_154 rfl rfl ?_
            refine xr_iload (n := 158) dL_pairsFit_156 rfl rfl ?_
            refine xr_callV (y2 := mX7_cell) (As := [_, _, _, _, _]) (n := 161) dL_pairsFit_158 lm_L_32 pm_X7_cell pi_X7_cell (by exact Exists.choose_spec hO.z) rfl rfl rfl (by simp [Value.category]) rfl ⟨Nat.le_refl _, Nat.le_refl _⟩ ?_
            refine q_cell (p := 1) hO (by omega) hin (by omega) (by omega) (fun f hO => ?_)
            dsimp only [xK, xps]
            rw [hce1 _ _ hkk]
            refine xr_icmp_ne (tgt := 168) (n := 164) dL_pairsFit_161 (by decide) rfl (fun h161 => ?_) (fun h161 => ?_)
            · refine xr_iconst (v := nI 0) (n := 169) dL_pairsFit_168 (by decide) rfl ?_
              refine xr_iadd (n := 170) dL_pairsFit_169 rfl ?_
              (first | (simp (disch := omega) only [nI_clamp, pk_mul, nI_add, oi1, Nat.reduceMul, Nat.reduceAdd, Nat.add_zero]) | skip)
              refine xr_istore (n := 172) dL_pairsFit_170 rfl rfl ?_
              simp only [xst, Nat.beq, List.filter, Bool.not_true, Bool.not_false]
              refine xr_iinc (n := 175) dL_pairsFit_172 rfl rfl (rfl) rfl ?_
              simp only [xst, Nat.beq, List.filter, Bool.not_true, Bool.not_false]
              (first | (simp (disch := omega) only [nI_clamp, pk_mul, nI_add, oi1, Nat.reduceMul, Nat.reduceAdd, Nat.add_zero]) | skip)
              refine xr_goto (n := 130) dL_pairsFit_175 (by decide) ?_
              have h9 := ihc f hO
              rw [alk_f h161] at h9
              exact h9
            · refine xr_iconst (v := nI 1) (n := 165) dL_pairsFit_164 (by decide) rfl ?_
              refine xr_goto (n := 169) dL_pairsFit_165 (by decide) ?_
              refine xr_iadd (n := 170) dL_pairsFit_169 rfl ?_
              (first | (simp (disch := omega) only [nI_clamp, pk_mul, nI_add, oi1, Nat.reduceMul, Nat.reduceAdd, Nat.add_zero]) | skip)
              refine xr_istore (n := 172) dL_pairsFit_170 rfl rfl ?_
              simp only [xst, Nat.beq, List.filter, Bool.not_true, Bool.not_false]
              refine xr_iinc (n := 175) dL_pairsFit_172 rfl rfl (rfl) rfl ?_
              simp only [xst, Nat.beq, List.filter, Bool.not_true, Bool.not_false]
              (first | (simp (disch := omega) only [nI_clamp, pk_mul, nI_add, oi1, Nat.reduceMul, Nat.reduceAdd, Nat.add_zero]) | skip)
              refine xr_goto (n := 130) dL_pairsFit_175 (by decide) ?_
              have h9 := ihc f hO
              rw [alk_t h161] at h9
              exact h9
        exact keyc 0 (by omega) f hO
    exact keyp 0 (by omega) f hO
  refine xr_aload_n (n := 1) dL_pairsFit_0 rfl rfl ?_
  refine xr_iload_n (n := 2) dL_pairsFit_1 rfl rfl ?_
  refine xr_iload_n (n := 3) dL_pairsFit_2 rfl rfl ?_
  refine xr_iconst (v := nI 0) (n := 4) dL_pairsFit_3 (by decide) rfl ?_
  refine xr_callV (y2 := mX7_pairs) (As := [_, _, _]) (n := 7) dL_pairsFit_4 lm_L_43 pm_X7_pairs pi_X7_pairs (by exact Exists.choose_spec hO.z) rfl rfl rfl (by simp [Value.category]) rfl ⟨Nat.le_refl _, Nat.le_refl _⟩ ?_
  refine q_pairs hO hin (by omega) (fun f hO => ?_)
  dsimp only [xK, xps]
  rw [hv0]
  refine xq_istore_n 3 (n := 8) dL_pairsFit_7 rfl rfl rfl ?_
  simp only [xst, Nat.beq, List.filter, Bool.not_true, Bool.not_false]
  refine xr_aload_n (n := 9) dL_pairsFit_8 rfl rfl ?_
  refine xr_iload_n (n := 10) dL_pairsFit_9 rfl rfl ?_
  refine xr_iload_n (n := 11) dL_pairsFit_10 rfl rfl ?_
  refine xr_iconst (v := nI 1) (n := 12) dL_pairsFit_11 (by decide) rfl ?_
  refine xr_callV (y2 := mX7_pairs) (As := [_, _, _]) (n := 15) dL_pairsFit_12 lm_L_43 pm_X7_pairs pi_X7_pairs (by exact Exists.choose_spec hO.z) rfl rfl rfl (by simp [Value.category]) rfl ⟨Nat.le_refl _, Nat.le_refl _⟩ ?_
  refine q_pairs hO hin (by omega) (fun f hO => ?_)
  dsimp only [xK, xps]
  rw [hmo]
  refine xr_istore (n := 17) dL_pairsFit_15 rfl rfl ?_
  simp only [xst, Nat.beq, List.filter, Bool.not_true, Bool.not_false]
  refine xr_aload_n (n := 18) dL_pairsFit_17 rfl rfl ?_
  refine xr_iload_n (n := 19) dL_pairsFit_18 rfl rfl ?_
  refine xr_iload_n (n := 20) dL_pairsFit_19 rfl rfl ?_
  refine xr_iconst (v := nI 2) (n := 21) dL_pairsFit_20 (by decide) rfl ?_
  refine xr_callV (y2 := mX7_pairs) (As := [_, _, _]) (n := 24) dL_pairsFit_21 lm_L_43 pm_X7_pairs pi_X7_pairs (by exact Exists.choose_spec hO.z) rfl rfl rfl (by simp [Value.category]) rfl ⟨Nat.le_refl _, Nat.le_refl _⟩ ?_
  refine q_pairs hO hin (by omega) (fun f hO => ?_)
  dsimp only [xK, xps]
  rw [hla]
  refine xr_istore (n := 26) dL_pairsFit_24 rfl rfl ?_
  simp only [xst, Nat.beq, List.filter, Bool.not_true, Bool.not_false]
  refine xr_iconst (v := nI 0) (n := 27) dL_pairsFit_26 (by decide) rfl ?_
  refine xr_istore (n := 29) dL_pairsFit_27 rfl rfl ?_
  simp only [xst, Nat.beq, List.filter, Bool.not_true, Bool.not_false]
  refine xr_iload_n (n := 30) dL_pairsFit_29 rfl rfl ?_
  refine xr_bipush (v := nI 40) (n := 32) dL_pairsFit_30 (by decide) rfl ?_
  refine xr_aload_n (n := 33) dL_pairsFit_32 rfl rfl ?_
  refine xr_iconst (v := nI 0) (n := 34) dL_pairsFit_33 (by decide) rfl ?_
  refine xr_iload_n (n := 35) dL_pairsFit_34 rfl rfl ?_
  refine xr_iload_n (n := 36) dL_pairsFit_35 rfl rfl ?_
  refine xr_iconst (v := nI 3) (n := 37) dL_pairsFit_36 (by decide) rfl ?_
  refine xr_callV (y2 := mX7_run) (As := [_, _, _, _]) (n := 40) dL_pairsFit_37 lm_L_28 pm_X7_run pi_X7_run (by exact Exists.choose_spec hO.z) rfl rfl rfl (by simp [Value.category]) rfl ⟨Nat.le_refl _, Nat.le_refl _⟩ ?_
  refine q_run (p := 0) hO (by omega) hin (by omega) (fun f hO => ?_)
  dsimp only [xK, xps]
  rw [hr0]
  refine xr_aload_n (n := 41) dL_pairsFit_40 rfl rfl ?_
  refine xr_iconst (v := nI 1) (n := 42) dL_pairsFit_41 (by decide) rfl ?_
  refine xr_iload_n (n := 43) dL_pairsFit_42 rfl rfl ?_
  refine xr_iload_n (n := 44) dL_pairsFit_43 rfl rfl ?_
  refine xr_iconst (v := nI 3) (n := 45) dL_pairsFit_44 (by decide) rfl ?_
  refine xr_callV (y2 := mX7_run) (As := [_, _, _, _]) (n := 48) dL_pairsFit_45 lm_L_28 pm_X7_run pi_X7_run (by exact Exists.choose_spec hO.z) rfl rfl rfl (by simp [Value.category]) rfl ⟨Nat.le_refl _, Nat.le_refl _⟩ ?_
  refine q_run (p := 1) hO (by omega) hin (by omega) (fun f hO => ?_)
  dsimp only [xK, xps]
  rw [hr1]
  refine xr_callS (y2 := mL_least) (As := [_, _]) (n := 51) dL_pairsFit_48 lm_L_47 pm_L_least kp_static_yL_least rfl rfl (by simp [Value.category]) rfl ⟨Nat.le_refl _, Nat.le_refl _⟩ ?_
  refine s_L_least (by omega) (by omega) ?_
  dsimp only [xK, xps]
  refine xr_callS (y2 := mL_least) (As := [_, _]) (n := 54) dL_pairsFit_51 lm_L_47 pm_L_least kp_static_yL_least rfl rfl (by simp [Value.category]) rfl ⟨Nat.le_refl _, Nat.le_refl _⟩ ?_
  refine s_L_least (by omega) (by split <;> omega) ?_
  dsimp only [xK, xps]
  rw [hl3]
  refine xr_icmp_ne (tgt := 112) (n := 57) dL_pairsFit_54 (by decide) rfl (fun h54 => by (exact absurd rfl h54)) (fun h54 => ?_)
  refine xr_iload_n (n := 58) dL_pairsFit_57 rfl rfl ?_
  refine xr_if_ne (tgt := 80) (n := 61) dL_pairsFit_58 (by decide) rfl (fun h58 => ?_) (fun h58 => ?_)
  · have hn0 : ¬ n = 0 := by ((try simp (disch := omega) only [i_lt, i_le, i_eq, nt, i_m1, Int32.toInt_zero] at *); omega)
    rw [if_neg hn0] at hv1 hv2
    subst hv1
    subst hv2
    have hgk := hgl.2.2 (n - 1) (by omega)
    have e400 : (nI 400).toInt = 400 := nt 400 (by omega)
    have e0 : (0 : Int32).toInt = 0 := Int32.toInt_zero
    refine xr_iload (n := 82) dL_pairsFit_80 rfl rfl ?_
    refine xr_if_lt (tgt := 112) (n := 85) dL_pairsFit_82 (by decide) rfl (fun h82 => by (exfalso; rw [i_lt] at h82; omega)) (fun h82 => ?_)
    refine xr_iload (n := 87) dL_pairsFit_85 rfl rfl ?_
    refine xr_sipush (v := nI 400) (n := 90) dL_pairsFit_87 (by decide) rfl ?_
    refine xr_icmp_gt (tgt := 112) (n := 93) dL_pairsFit_90 (by decide) rfl (fun h90 => by (exfalso; rw [i_lt] at h90; omega)) (fun h90 => ?_)
    refine xr_iload (n := 95) dL_pairsFit_93 rfl rfl ?_
    refine xr_iload (n := 97) dL_pairsFit_95 rfl rfl ?_
    refine xr_icmp_gt (tgt := 112) (n := 100) dL_pairsFit_97 (by decide) rfl (fun h97 => by (exfalso; rw [i_lt] at h97; omega)) (fun h97 => ?_)
    refine xr_iload (n := 102) dL_pairsFit_100 rfl rfl ?_
    refine xr_ineg (n := 103) dL_pairsFit_102 rfl ?_
    refine xr_iload (n := 105) dL_pairsFit_103 rfl rfl ?_
    refine xr_icmp_gt (tgt := 112) (n := 108) dL_pairsFit_105 (by decide) rfl (fun h105 => by (exfalso; rw [i_lt] at h105; omega)) (fun h105 => ?_)
    exact k108 f hO
  · have hn0 : n = 0 := by ((try simp (disch := omega) only [i_lt, i_le, i_eq, nt, i_m1, Int32.toInt_zero] at *); omega)
    rw [if_pos hn0] at hv1 hv2
    refine xr_iload (n := 63) dL_pairsFit_61 rfl rfl ?_
    refine xr_sipush (v := (-10009)) (n := 66) dL_pairsFit_63 (by decide) rfl ?_
    refine xr_icmp_ne (tgt := 112) (n := 69) dL_pairsFit_66 (by decide) rfl (fun h66 => by (exact absurd hv1 h66)) (fun h66 => ?_)
    refine xr_iload (n := 71) dL_pairsFit_69 rfl rfl ?_
    refine xr_sipush (v := (-10009)) (n := 74) dL_pairsFit_71 (by decide) rfl ?_
    refine xr_icmp_ne (tgt := 112) (n := 77) dL_pairsFit_74 (by decide) rfl (fun h74 => by (exact absurd hv2 h74)) (fun h74 => ?_)
    refine xr_goto (n := 108) dL_pairsFit_77 (by decide) ?_
    exact k108 f hO
