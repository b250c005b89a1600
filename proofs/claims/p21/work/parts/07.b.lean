/-! the class: the history -/
def lcp (τ ς : xS) : Prop := τ 9 0 = ς 9 0 ∧ ∀ k, k < 9 → ∀ i, i < 60 → τ k i = ς k i
theorem LsP.cp {τ ς : xS} {n : Nat} {P : Nat → Nat → Nat} (h : LsP ς n P) (e : lcp τ ς) : LsP τ n P := by
  obtain ⟨h1, h2, h3⟩ := h
  refine ⟨e.1.trans h1, h2, fun s hs => ?_⟩
  have h4 := h3 s hs
  unfold LsS at h4 ⊢
  rw [e.2 0 (by omega) s (by omega), e.2 1 (by omega) s (by omega), e.2 2 (by omega) s (by omega), e.2 3 (by omega) s (by omega), e.2 4 (by omega) s (by omega), e.2 5 (by omega) s (by omega), e.2 6 (by omega) s (by omega), e.2 7 (by omega) s (by omega), e.2 8 (by omega) s (by omega)]
  exact h4
theorem s_X1_takeFrom_p {G : xG} {d : Nat} {f : Nat → xC} {r : Nat × Nat} {Q : Option Value → xM → Prop} {a b : Nat} {σ ς : xS} (hL : lat f a σ) (hL2 : lat f b ς) (hd : a + 10 ≤ b ∨ b + 10 ≤ a) (hq : ∀ τ, lcp τ ς → Q none (lput f a τ, r)) : xMet G (d + 1) mX1_takeFrom [.ref a, .ref b] (f, r) r Q := by
  have h := s_X1_takeFrom (G := G) (d := d) (f := f) (r := r) (Q := Q) (a := a) (b := b) (σ := σ) (ς := ς) (fun τ => bat_out hL2 (by omega)) (fun τ h1 h2 => hq τ ⟨h1, h2⟩)
  rw [lat_put hL] at h
  exact h
def pid (i : Nat) : Nat := if i = 6 then 2 else if i = 11 then 7 else if (2 ≤ i ∧ i ≤ 5) ∨ (7 ≤ i ∧ i ≤ 10) then i + 1 else i
theorem pid_1 : ∀ i, i < 12 → pid i < 12 := by decide
theorem pid_2 : ∀ i, i < 12 → ∀ j, j < 12 → i ≠ j → pid i ≠ pid j := by decide
theorem pid_3 (i : Nat) (h : 12 ≤ i) : pid i = i := by
  unfold pid
  rw [if_neg (by omega), if_neg (by omega), if_neg (by omega)]
theorem rl_n {z i : Nat} {rl : Nat → Nat} (hR : RLo z rl) (hi : i < 12) : rl i ≠ z ∧ rl i ≠ z + 16 ∧ rl i ≠ z + 17 ∧ rl i ≠ z + 18 := by
  have h := hR.1 i hi
  unfold LB at h
  omega
theorem rl_d {z i j : Nat} {rl : Nat → Nat} (hR : RLo z rl) (hi : i < 12) (hj : j < 12) (h : i ≠ j) : rl i + 10 ≤ rl j ∨ rl j + 10 ≤ rl i := hR.2 i j hi hj h
def dsh (k j : Nat) : Nat := if j + 1 < k then j + 1 else j
theorem s_X0_dropOldest {G : xG} {d : Nat} {f : Nat → xC} {r : Nat × Nat} {Q : Option Value → xM → Prop} {z sv : Nat} {rl : Nat → Nat} {S : Nat → xS} (hC : CW f z rl sv S) (hq : ∀ f', CW f' z (fun i => rl (pid i)) 4 (fun i => S (pid i)) → rgn z f f' → Q none (f', r)) : xMet G d mX0_dropOldest [.ref (z + 16)] (f, r) r Q := by
  refine xMet_0 (by decide +kernel) rfl (Nat.le_of_ble_eq_true rfl) ?_
  show xX G d mX0_dropOldest r r (xΦ G r r Q) 0 [(0, .ref (z + 16))] [] (f, r)
  obtain ⟨hR, hF, hH, hb⟩ := id hC
  obtain ⟨h0, ⟨g0, hg0, hg0s⟩, g1, hg1, hg1s⟩ := hH
  have key : ∀ k, k ≤ 5 → ∀ (F : Nat → xC) (a0 a1 : Nat → Option Nat), 1 ≤ k → F (z + 17) = aR 2 5 a0 → (∀ j, j < 5 → a0 j = some (rl (2 + dsh k j))) → F (z + 18) = aR 2 5 a1 → (∀ j, j < 5 → a1 j = some (rl (7 + dsh k j))) → (∀ a, a ≠ z + 17 → a ≠ z + 18 → F a = f a) → xX G d mX0_dropOldest r r (xΦ G r r Q) 16 [(0, .ref (z + 16)), (1, .ref (rl 2)), (2, .ref (rl 7)), (3, .int (nI k))] [] (F, r) := by
    refine nat_down (P := fun k => ∀ (F : Nat → xC) (a0 a1 : Nat → Option Nat), 1 ≤ k → F (z + 17) = aR 2 5 a0 → (∀ j, j < 5 → a0 j = some (rl (2 + dsh k j))) → F (z + 18) = aR 2 5 a1 → (∀ j, j < 5 → a1 j = some (rl (7 + dsh k j))) → (∀ a, a ≠ z + 17 → a ≠ z + 18 → F a = f a) → xX G d mX0_dropOldest r r (xΦ G r r Q) 16 [(0, .ref (z + 16)), (1, .ref (rl 2)), (2, .ref (rl 7)), (3, .int (nI k))] [] (F, r)) (N := 5) ?_ ?_
    · intro F a0 a1 hk1 e0 e0s e1 e1s eo
      have h0F : F (z + 16) = ob 0 [.ref (z + 17), .ref (z + 18), .int (nI sv)] := (eo _ (by omega) (by omega)).trans h0
      have hv : ∀ i, i < 12 → F (rl i) = f (rl i) := fun i hi => eo _ (rl_n hR hi).2.2.1 (rl_n hR hi).2.2.2
      refine xr_iload_n (n := 17) dX0_dropOldest_16 rfl rfl ?_
      refine xr_iconst (v := nI 5) (n := 18) dX0_dropOldest_17 (by decide) rfl ?_
      refine xr_icmp_ge (tgt := 55) (n := 21) dX0_dropOldest_18 (by decide) rfl (fun h18 => ?_) (fun h18 => by (exfalso; ((try simp (disch := omega) only [i_lt, i_le, i_eq, nt, i_m1, Int32.toInt_zero] at *); omega)))
      refine xr_aload_n (n := 56) dX0_dropOldest_55 rfl rfl ?_
      refine xr_get (n := 59) dX0_dropOldest_56 fl_X0_11 (by first | assumption | exact (xu_n _ _ (by omega)).trans (by assumption) | exact (xu_n _ _ (by omega)).trans ((xu_n _ _ (by omega)).trans (by assumption))) (by rfl) rfl ?_
      refine xr_iconst (v := nI 4) (n := 60) dX0_dropOldest_59 (by decide) rfl ?_
      refine xr_aload_n (n := 61) dX0_dropOldest_60 rfl rfl ?_
      refine xq_aastore (n := 62) dX0_dropOldest_61 (by first | assumption | exact (xu_n _ _ (by omega)).trans (by assumption) | exact (xu_n _ _ (by omega)).trans ((xu_n _ _ (by omega)).trans (by assumption))) (by first | exact (hv 2 (by omega)).trans (lat_0 (hC.l (by omega))) | exact (xu_n _ _ (rl_n hR (show 2 < 12 by omega)).2.2.1).trans ((hv 2 (by omega)).trans (lat_0 (hC.l (by omega))))) (by simp) (by first | exact vp_in_nI (by omega) (by omega)) rfl ?_
      try dsimp only [List.set]
      refine xr_aload_n (n := 63) dX0_dropOldest_62 rfl rfl ?_
      refine xr_get (n := 66) dX0_dropOldest_63 fl_X0_17 (by first | assumption | exact (xu_n _ _ (by omega)).trans (by assumption) | exact (xu_n _ _ (by omega)).trans ((xu_n _ _ (by omega)).trans (by assumption))) (by rfl) rfl ?_
      refine xr_iconst (v := nI 4) (n := 67) dX0_dropOldest_66 (by decide) rfl ?_
      refine xr_aload_n (n := 68) dX0_dropOldest_67 rfl rfl ?_
      refine xq_aastore (n := 69) dX0_dropOldest_68 (by first | assumption | exact (xu_n _ _ (by omega)).trans (by assumption) | exact (xu_n _ _ (by omega)).trans ((xu_n _ _ (by omega)).trans (by assumption))) (by first | exact (hv 7 (by omega)).trans (lat_0 (hC.l (by omega))) | exact (xu_n _ _ (rl_n hR (show 7 < 12 by omega)).2.2.1).trans ((hv 7 (by omega)).trans (lat_0 (hC.l (by omega))))) (by simp) (by first | exact vp_in_nI (by omega) (by omega)) rfl ?_
      try dsimp only [List.set]
      refine xr_aload_n (n := 70) dX0_dropOldest_69 rfl rfl ?_
      refine xr_iconst (v := nI 4) (n := 71) dX0_dropOldest_70 (by decide) rfl ?_
      refine xq_put (n := 74) dX0_dropOldest_71 fl_X0_21 rfl (by first | assumption | exact (xu_n _ _ (by omega)).trans (by assumption) | exact (xu_n _ _ (by omega)).trans ((xu_n _ _ (by omega)).trans (by assumption))) (by rfl) (by rfl) (by rfl) rfl ?_
      try dsimp only [List.set]
      refine xr_return dX0_dropOldest_74 rfl rfl ?_
      refine hq _ (hC.pm pid_1 (fun i j hi hj => pid_2 i hi j hj) pid_3 ⟨?_, ?_, ?_⟩ ⟨xu_s _ _ _, ⟨_, (xu_n _ _ (by omega)).trans ((xu_n _ _ (by omega)).trans (xu_s _ _ _)), ?_⟩, _, (xu_n _ _ (by omega)).trans (xu_s _ _ _), ?_⟩ ?_) ?_
      · rw [xu_n _ _ (by omega), xu_n _ _ (by omega), xu_n _ _ (by omega), eo _ (by omega) (by omega)]
        exact hF.1
      · rw [xu_n _ _ (by omega), xu_n _ _ (by omega), xu_n _ _ (by omega), eo _ (by omega) (by omega)]
        exact hF.2.1
      · rw [xu_n _ _ (by omega), xu_n _ _ (by omega), xu_n _ _ (by omega), eo _ (by omega) (by omega)]
        exact hF.2.2
      · intro k hk
        rw [nI_clamp (by omega)]
        rcases (show k = 0 ∨ k = 1 ∨ k = 2 ∨ k = 3 ∨ k = 4 by omega) with rfl | rfl | rfl | rfl | rfl
        · exact e0s 0 (by omega)
        · exact e0s 1 (by omega)
        · exact e0s 2 (by omega)
        · exact e0s 3 (by omega)
        · rfl
      · intro k hk
        rw [nI_clamp (by omega)]
        rcases (show k = 0 ∨ k = 1 ∨ k = 2 ∨ k = 3 ∨ k = 4 by omega) with rfl | rfl | rfl | rfl | rfl
        · exact e1s 0 (by omega)
        · exact e1s 1 (by omega)
        · exact e1s 2 (by omega)
        · exact e1s 3 (by omega)
        · rfl
      · intro a h1 h2 h3 h4
        rw [xu_n _ _ h2, xu_n _ _ h4, xu_n _ _ h3]
        exact eo a h3 h4
      · intro a ha
        rw [xu_n _ _ (by omega), xu_n _ _ (by omega), xu_n _ _ (by omega)]
        exact eo a (by omega) (by omega)
    · intro k hk ih F a0 a1 hk1 e0 e0s e1 e1s eo
      have h0F : F (z + 16) = ob 0 [.ref (z + 17), .ref (z + 18), .int (nI sv)] := (eo _ (by omega) (by omega)).trans h0
      have hv : ∀ i, i < 12 → F (rl i) = f (rl i) := fun i hi => eo _ (rl_n hR hi).2.2.1 (rl_n hR hi).2.2.2
      have hds : dsh k k = k := if_neg (by omega)
      refine xr_iload_n (n := 17) dX0_dropOldest_16 rfl rfl ?_
      refine xr_iconst (v := nI 5) (n := 18) dX0_dropOldest_17 (by decide) rfl ?_
      refine xr_icmp_ge (tgt := 55) (n := 21) dX0_dropOldest_18 (by decide) rfl (fun h18 => by (exfalso; ((try simp (disch := omega) only [i_lt, i_le, i_eq, nt, i_m1, Int32.toInt_zero] at *); omega))) (fun h18 => ?_)
      refine xr_aload_n (n := 22) dX0_dropOldest_21 rfl rfl ?_
      refine xr_get (n := 25) dX0_dropOldest_22 fl_X0_11 (by first | assumption | exact (xu_n _ _ (by omega)).trans (by assumption) | exact (xu_n _ _ (by omega)).trans ((xu_n _ _ (by omega)).trans (by assumption))) (by rfl) rfl ?_
      refine xr_iload_n (n := 26) dX0_dropOldest_25 rfl rfl ?_
      refine xr_iconst (v := nI 1) (n := 27) dX0_dropOldest_26 (by decide) rfl ?_
      refine xr_isub (n := 28) dX0_dropOldest_27 rfl ?_
      rw [pk_sub (by omega)]
      refine xr_aload_n (n := 29) dX0_dropOldest_28 rfl rfl ?_
      refine xr_get (n := 32) dX0_dropOldest_29 fl_X0_11 (by first | assumption | exact (xu_n _ _ (by omega)).trans (by assumption) | exact (xu_n _ _ (by omega)).trans ((xu_n _ _ (by omega)).trans (by assumption))) (by rfl) rfl ?_
      refine xr_iload_n (n := 33) dX0_dropOldest_32 rfl rfl ?_
      refine xr_aaload (n := 34) dX0_dropOldest_33 (by first | assumption | exact (xu_n _ _ (by omega)).trans (by assumption) | exact (xu_n _ _ (by omega)).trans ((xu_n _ _ (by omega)).trans (by assumption))) (by simp) (by first | exact vp_in_nI (by omega) (by omega)) rfl ?_
      rw [nI_clamp (by omega), e0s k hk, hds]
      dsimp only [va_rf]
      refine xq_aastore (n := 35) dX0_dropOldest_34 (by first | assumption | exact (xu_n _ _ (by omega)).trans (by assumption) | exact (xu_n _ _ (by omega)).trans ((xu_n _ _ (by omega)).trans (by assumption))) (by first | exact (hv (2 + k) (by omega)).trans (lat_0 (hC.l (by omega))) | exact (xu_n _ _ (rl_n hR (show (2 + k) < 12 by omega)).2.2.1).trans ((hv (2 + k) (by omega)).trans (lat_0 (hC.l (by omega))))) (by simp) (by first | exact vp_in_nI (by omega) (by omega)) rfl ?_
      rw [nI_clamp (by omega)]
      refine xr_aload_n (n := 36) dX0_dropOldest_35 rfl rfl ?_
      refine xr_get (n := 39) dX0_dropOldest_36 fl_X0_17 (by first | assumption | exact (xu_n _ _ (by omega)).trans (by assumption) | exact (xu_n _ _ (by omega)).trans ((xu_n _ _ (by omega)).trans (by assumption))) (by rfl) rfl ?_
      refine xr_iload_n (n := 40) dX0_dropOldest_39 rfl rfl ?_
      refine xr_iconst (v := nI 1) (n := 41) dX0_dropOldest_40 (by decide) rfl ?_
      refine xr_isub (n := 42) dX0_dropOldest_41 rfl ?_
      rw [pk_sub (by omega)]
      refine xr_aload_n (n := 43) dX0_dropOldest_42 rfl rfl ?_
      refine xr_get (n := 46) dX0_dropOldest_43 fl_X0_17 (by first | assumption | exact (xu_n _ _ (by omega)).trans (by assumption) | exact (xu_n _ _ (by omega)).trans ((xu_n _ _ (by omega)).trans (by assumption))) (by rfl) rfl ?_
      refine xr_iload_n (n := 47) dX0_dropOldest_46 rfl rfl ?_
      refine xr_aaload (n := 48) dX0_dropOldest_47 (by first | assumption | exact (xu_n _ _ (by omega)).trans (by assumption) | exact (xu_n _ _ (by omega)).trans ((xu_n _ _ (by omega)).trans (by assumption))) (by simp) (by first | exact vp_in_nI (by omega) (by omega)) rfl ?_
      rw [nI_clamp (by omega), e1s k hk, hds]
      dsimp only [va_rf]
      refine xq_aastore (n := 49) dX0_dropOldest_48 (by first | assumption | exact (xu_n _ _ (by omega)).trans (by assumption) | exact (xu_n _ _ (by omega)).trans ((xu_n _ _ (by omega)).trans (by assumption))) (by first | exact (hv (7 + k) (by omega)).trans (lat_0 (hC.l (by omega))) | exact (xu_n _ _ (rl_n hR (show (7 + k) < 12 by omega)).2.2.1).trans ((hv (7 + k) (by omega)).trans (lat_0 (hC.l (by omega))))) (by simp) (by first | exact vp_in_nI (by omega) (by omega)) rfl ?_
      rw [nI_clamp (by omega)]
      refine xr_iinc (n := 52) dX0_dropOldest_49 rfl rfl (rfl) rfl ?_
      simp only [xst, Nat.beq, List.filter, Bool.not_true, Bool.not_false]
      rw [show (Int32.ofInt 1) = nI 1 from rfl, nI_add]
      refine xr_goto (n := 16) dX0_dropOldest_52 (by decide) ?_
      refine ih _ _ _ (by omega) ((xu_n _ _ (by omega)).trans (xu_s _ _ _)) ?_ (xu_s _ _ _) ?_ ?_
      · intro j hj
        show (if j = k - 1 then some (rl (2 + k)) else a0 j) = _
        unfold dsh at e0s ⊢
        rcases Nat.lt_trichotomy (j + 1) k with e | e | e
        · rw [if_neg (by omega), e0s j hj, if_pos e, if_pos (by omega)]
        · rw [if_pos (by omega), if_pos (by omega), e]
        · rw [if_neg (by omega), e0s j hj, if_neg (by omega), if_neg (by omega)]
      · intro j hj
        show (if j = k - 1 then some (rl (7 + k)) else a1 j) = _
        unfold dsh at e1s ⊢
        rcases Nat.lt_trichotomy (j + 1) k with e | e | e
        · rw [if_neg (by omega), e1s j hj, if_pos e, if_pos (by omega)]
        · rw [if_pos (by omega), if_pos (by omega), e]
        · rw [if_neg (by omega), e1s j hj, if_neg (by omega), if_neg (by omega)]
      · intro a h1 h2
        rw [xu_n _ _ h2, xu_n _ _ h1]
        exact eo a h1 h2
  refine xr_aload_n (n := 1) dX0_dropOldest_0 rfl rfl ?_
  refine xr_get (n := 4) dX0_dropOldest_1 fl_X0_11 (by first | assumption | exact (xu_n _ _ (by omega)).trans (by assumption) | exact (xu_n _ _ (by omega)).trans ((xu_n _ _ (by omega)).trans (by assumption))) (by rfl) rfl ?_
  refine xr_iconst (v := nI 0) (n := 5) dX0_dropOldest_4 (by decide) rfl ?_
  refine xr_aaload (n := 6) dX0_dropOldest_5 (by first | assumption | exact (xu_n _ _ (by omega)).trans (by assumption) | exact (xu_n _ _ (by omega)).trans ((xu_n _ _ (by omega)).trans (by assumption))) (by simp) (by first | exact vp_in_nI (by omega) (by omega)) rfl ?_
  rw [nI_clamp (by omega), hg0s 0 (by omega)]
  dsimp only [va_rf]
  refine xq_astore_n 1 (n := 7) dX0_dropOldest_6 rfl rfl rfl ?_
  simp only [xst, Nat.beq, List.filter, Bool.not_true, Bool.not_false]
  refine xr_aload_n (n := 8) dX0_dropOldest_7 rfl rfl ?_
  refine xr_get (n := 11) dX0_dropOldest_8 fl_X0_17 (by first | assumption | exact (xu_n _ _ (by omega)).trans (by assumption) | exact (xu_n _ _ (by omega)).trans ((xu_n _ _ (by omega)).trans (by assumption))) (by rfl) rfl ?_
  refine xr_iconst (v := nI 0) (n := 12) dX0_dropOldest_11 (by decide) rfl ?_
  refine xr_aaload (n := 13) dX0_dropOldest_12 (by first | assumption | exact (xu_n _ _ (by omega)).trans (by assumption) | exact (xu_n _ _ (by omega)).trans ((xu_n _ _ (by omega)).trans (by assumption))) (by simp) (by first | exact vp_in_nI (by omega) (by omega)) rfl ?_
  rw [nI_clamp (by omega), hg1s 0 (by omega)]
  dsimp only [va_rf]
  refine xq_astore_n 2 (n := 14) dX0_dropOldest_13 rfl rfl rfl ?_
  simp only [xst, Nat.beq, List.filter, Bool.not_true, Bool.not_false]
  refine xr_iconst (v := nI 1) (n := 15) dX0_dropOldest_14 (by decide) rfl ?_
  refine xq_istore_n 3 (n := 16) dX0_dropOldest_15 rfl rfl rfl ?_
  simp only [xst, Nat.beq, List.filter, Bool.not_true, Bool.not_false]
  refine key 1 (by omega) f g0 g1 (by omega) hg0 (fun j hj => ?_) hg1 (fun j hj => ?_) (fun _ _ _ => rfl)
  · rw [hg0s j hj, show dsh 1 j = j from if_neg (by omega)]
  · rw [hg1s j hj, show dsh 1 j = j from if_neg (by omega)]
theorem s_X0_push_t {G : xG} {d : Nat} {f : Nat → xC} {r : Nat × Nat} {Q : Option Value → xM → Prop} {z : Nat} {rl : Nat → Nat} {S : Nat → xS} {q : Nat} (hC : CW f z rl q S) (hq4 : q ≤ 4) (hq : ∀ f' S', CW f' z rl (q + 1) S' → rgn z f f' → (∀ i, i ≠ 2 + q → i ≠ 7 + q → S' i = S i) → lcp (S' (2 + q)) (S 0) → lcp (S' (7 + q)) (S 1) → Q none (f', r)) : xX G (d + 2) mX0_push r r (xΦ G r r Q) 12 [(0, .ref (z + 16)), (1, .ref (rl 0)), (2, .ref (rl 1))] [] (f, r) := by
  obtain ⟨hR, hF, hH, hb⟩ := id hC
  obtain ⟨h0, ⟨g0, hg0, hg0s⟩, g1, hg1, hg1s⟩ := hH
  refine xr_aload_n (n := 13) dX0_push_12 rfl rfl ?_
  refine xr_get (n := 16) dX0_push_13 fl_X0_21 (by first | assumption | exact (xu_n _ _ (by omega)).trans (by assumption) | exact (xu_n _ _ (by omega)).trans ((xu_n _ _ (by omega)).trans (by assumption)) | exact hC1.2.2.1.1 | exact hg11 | exact lat_0 (hC.l (by omega)) | exact lat_0 (hC1.l (by omega)) | exact hC2.2.2.1.1) (by rfl) rfl ?_
  (first | (simp (disch := omega) only [nI_clamp, pk_mul, nI_add, oi1, up2_ss, up2_n, up2_sn, ur_s, ur_n, Nat.reduceMul, Nat.reduceAdd, Nat.add_zero]) | skip)
  refine xr_iconst (v := nI 0) (n := 17) dX0_push_16 (by decide) rfl ?_
  refine xr_iconst (v := nI 4) (n := 18) dX0_push_17 (by decide) rfl ?_
  refine xr_callS (y2 := mX7_isWithin) (As := [_, _, _]) (n := 21) dX0_push_18 lm_X0_28 pm_X7_isWithin kp_static_yX7_isWithin rfl rfl (by simp [Value.category]) rfl ⟨Nat.le_refl _, Nat.le_refl _⟩ ?_
  refine s_X7_isWithin ?_
  dsimp only [xK, xps]
  refine xr_beq (tgt := 60) (n := 24) dX0_push_21 (by decide) rfl (fun h21 => ?_) (fun h21 => ?_)
  · exact absurd (by rw [nt _ (by omega), nt _ (by omega), nt _ (by omega)]; omega) h21
  · refine xr_aload_n (n := 25) dX0_push_24 rfl rfl ?_
    refine xr_get (n := 28) dX0_push_25 fl_X0_11 (by first | assumption | exact (xu_n _ _ (by omega)).trans (by assumption) | exact (xu_n _ _ (by omega)).trans ((xu_n _ _ (by omega)).trans (by assumption)) | exact hC1.2.2.1.1 | exact hg11 | exact lat_0 (hC.l (by omega)) | exact lat_0 (hC1.l (by omega)) | exact hC2.2.2.1.1) (by rfl) rfl ?_
    refine xr_aload_n (n := 29) dX0_push_28 rfl rfl ?_
    refine xr_get (n := 32) dX0_push_29 fl_X0_21 (by first | assumption | exact (xu_n _ _ (by omega)).trans (by assumption) | exact (xu_n _ _ (by omega)).trans ((xu_n _ _ (by omega)).trans (by assumption)) | exact hC1.2.2.1.1 | exact hg11 | exact lat_0 (hC.l (by omega)) | exact lat_0 (hC1.l (by omega)) | exact hC2.2.2.1.1) (by rfl) rfl ?_
    (first | (simp (disch := omega) only [nI_clamp, pk_mul, nI_add, oi1, up2_ss, up2_n, up2_sn, ur_s, ur_n, Nat.reduceMul, Nat.reduceAdd, Nat.add_zero]) | skip)
    refine xr_aaload (n := 33) dX0_push_32 (by first | assumption | exact (xu_n _ _ (by omega)).trans (by assumption) | exact (xu_n _ _ (by omega)).trans ((xu_n _ _ (by omega)).trans (by assumption)) | exact hC1.2.2.1.1 | exact hg11 | exact lat_0 (hC.l (by omega)) | exact lat_0 (hC1.l (by omega)) | exact hC2.2.2.1.1) (by simp) (by first | exact vp_in_nI (by omega) (by omega)) rfl ?_
    rw [nI_clamp (by omega), hg0s q (by omega)]
    dsimp only [va_rf]
    refine xr_aload_n (n := 34) dX0_push_33 rfl rfl ?_
    refine xr_callV (y2 := mX1_takeFrom) (As := [_]) (n := 37) dX0_push_34 lm_X0_32 pm_X1_takeFrom pi_X1_takeFrom (by first | assumption | exact (xu_n _ _ (by omega)).trans (by assumption) | exact (xu_n _ _ (by omega)).trans ((xu_n _ _ (by omega)).trans (by assumption)) | exact hC1.2.2.1.1 | exact hg11 | exact lat_0 (hC.l (by omega)) | exact lat_0 (hC1.l (by omega)) | exact hC2.2.2.1.1) rfl rfl rfl (by simp [Value.category]) rfl ⟨Nat.le_refl _, Nat.le_refl _⟩ ?_
    refine s_X1_takeFrom_p (hC.l (i := 2 + q) (by omega)) (hC.l (i := 0) (by omega)) (rl_d hR (by omega) (by omega) (by omega)) (fun τ hτ => ?_)
    obtain ⟨hC1, hr1⟩ := hC.ul (i := 2 + q) (by omega) τ
    generalize lput f (rl (2 + q)) τ = f1 at hC1 hr1 ⊢
    obtain ⟨g11, hg11, hg11s⟩ := hC1.2.2.1.2.2
    dsimp only [xK, xps]
    refine xr_aload_n (n := 38) dX0_push_37 rfl rfl ?_
    refine xr_get (n := 41) dX0_push_38 fl_X0_17 (by first | assumption | exact (xu_n _ _ (by omega)).trans (by assumption) | exact (xu_n _ _ (by omega)).trans ((xu_n _ _ (by omega)).trans (by assumption)) | exact hC1.2.2.1.1 | exact hg11 | exact lat_0 (hC.l (by omega)) | exact lat_0 (hC1.l (by omega)) | exact hC2.2.2.1.1) (by rfl) rfl ?_
    refine xr_aload_n (n := 42) dX0_push_41 rfl rfl ?_
    refine xr_get (n := 45) dX0_push_42 fl_X0_21 (by first | assumption | exact (xu_n _ _ (by omega)).trans (by assumption) | exact (xu_n _ _ (by omega)).trans ((xu_n _ _ (by omega)).trans (by assumption)) | exact hC1.2.2.1.1 | exact hg11 | exact lat_0 (hC.l (by omega)) | exact lat_0 (hC1.l (by omega)) | exact hC2.2.2.1.1) (by rfl) rfl ?_
    (first | (simp (disch := omega) only [nI_clamp, pk_mul, nI_add, oi1, up2_ss, up2_n, up2_sn, ur_s, ur_n, Nat.reduceMul, Nat.reduceAdd, Nat.add_zero]) | skip)
    refine xr_aaload (n := 46) dX0_push_45 (by first | assumption | exact (xu_n _ _ (by omega)).trans (by assumption) | exact (xu_n _ _ (by omega)).trans ((xu_n _ _ (by omega)).trans (by assumption)) | exact hC1.2.2.1.1 | exact hg11 | exact lat_0 (hC.l (by omega)) | exact lat_0 (hC1.l (by omega)) | exact hC2.2.2.1.1) (by simp) (by first | exact vp_in_nI (by omega) (by omega)) rfl ?_
    rw [nI_clamp (by omega), hg11s q (by omega)]
    dsimp only [va_rf]
    refine xr_aload_n (n := 47) dX0_push_46 rfl rfl ?_
    refine xr_callV (y2 := mX1_takeFrom) (As := [_]) (n := 50) dX0_push_47 lm_X0_32 pm_X1_takeFrom pi_X1_takeFrom (by first | assumption | exact (xu_n _ _ (by omega)).trans (by assumption) | exact (xu_n _ _ (by omega)).trans ((xu_n _ _ (by omega)).trans (by assumption)) | exact hC1.2.2.1.1 | exact hg11 | exact lat_0 (hC.l (by omega)) | exact lat_0 (hC1.l (by omega)) | exact hC2.2.2.1.1) rfl rfl rfl (by simp [Value.category]) rfl ⟨Nat.le_refl _, Nat.le_refl _⟩ ?_
    refine s_X1_takeFrom_p (hC1.l (i := 7 + q) (by omega)) (hC1.l (i := 1) (by omega)) (rl_d hR (by omega) (by omega) (by omega)) (fun τ1 hτ1 => ?_)
    obtain ⟨hC2, hr2⟩ := hC1.ul (i := 7 + q) (by omega) τ1
    generalize lput f1 (rl (7 + q)) τ1 = f2 at hC2 hr2 ⊢
    dsimp only [xK, xps]
    refine xr_aload_n (n := 51) dX0_push_50 rfl rfl ?_
    refine xr_dup (n := 52) dX0_push_51 rfl rfl ?_
    refine xr_get (n := 55) dX0_push_52 fl_X0_21 (by first | assumption | exact (xu_n _ _ (by omega)).trans (by assumption) | exact (xu_n _ _ (by omega)).trans ((xu_n _ _ (by omega)).trans (by assumption)) | exact hC1.2.2.1.1 | exact hg11 | exact lat_0 (hC.l (by omega)) | exact lat_0 (hC1.l (by omega)) | exact hC2.2.2.1.1) (by rfl) rfl ?_
    (first | (simp (disch := omega) only [nI_clamp, pk_mul, nI_add, oi1, up2_ss, up2_n, up2_sn, ur_s, ur_n, Nat.reduceMul, Nat.reduceAdd, Nat.add_zero]) | skip)
    refine xr_iconst (v := nI 1) (n := 56) dX0_push_55 (by decide) rfl ?_
    refine xr_iadd (n := 57) dX0_push_56 rfl ?_
    rw [nI_add]
    refine xq_put (n := 60) dX0_push_57 fl_X0_21 rfl (by first | assumption | exact (xu_n _ _ (by omega)).trans (by assumption) | exact (xu_n _ _ (by omega)).trans ((xu_n _ _ (by omega)).trans (by assumption)) | exact hC1.2.2.1.1 | exact hg11 | exact lat_0 (hC.l (by omega)) | exact lat_0 (hC1.l (by omega)) | exact hC2.2.2.1.1) (by rfl) (by rfl) (by rfl) rfl ?_
    skip
    refine xr_return dX0_push_60 rfl rfl ?_
    refine hq _ (ss (ss S (2 + q) τ) (7 + q) τ1) (hC2.pm (π := fun i => i) (fun i hi => hi) (fun i j hi hj h => h) (fun i hi => rfl) ⟨?_, ?_, ?_⟩ ⟨xu_s _ _ _, ?_, ?_⟩ ?_) (hr1.tr (hr2.tr ?_)) ?_ ?_ ?_
    · rw [xu_n _ _ (by omega)]; exact hC2.2.1.1
    · rw [xu_n _ _ (by omega)]; exact hC2.2.1.2.1
    · rw [xu_n _ _ (by omega)]; exact hC2.2.1.2.2
    · rw [xu_n _ _ (by omega)]; exact hC2.2.2.1.2.1
    · rw [xu_n _ _ (by omega)]; exact hC2.2.2.1.2.2
    · intro a _ h2 _ _; exact xu_n _ _ h2
    · intro a ha; exact xu_n _ _ (by omega)
    · intro i h1 h2
      rw [ss_n h2, ss_n h1]
    · rw [ss_n (by omega), ss_s]; exact hτ
    · rw [ss_s]
      rw [ss_n (by omega)] at hτ1
      exact hτ1
def psh (S S' : Nat → xS) (sv : Nat) : Prop := (∀ i, 12 ≤ i → S' i = S i) ∧ S' 0 = S 0 ∧ S' 1 = S 1 ∧ lcp (S' (2 + (if sv = 5 then 4 else sv))) (S 0) ∧ lcp (S' (7 + (if sv = 5 then 4 else sv))) (S 1) ∧ ∀ k, k < (if sv = 5 then 4 else sv) → S' (2 + k) = S (2 + (k + (if sv = 5 then 1 else 0))) ∧ S' (7 + k) = S (7 + (k + (if sv = 5 then 1 else 0)))
theorem s_X0_push {G : xG} {d : Nat} {f : Nat → xC} {r : Nat × Nat} {Q : Option Value → xM → Prop} {z sv : Nat} {rl : Nat → Nat} {S : Nat → xS} (hC : CW f z rl sv S) (hsv : sv ≤ 5) (hq : ∀ f' rl' S', CW f' z rl' ((if sv = 5 then 4 else sv) + 1) S' → rgn z f f' → rl' 0 = rl 0 → rl' 1 = rl 1 → psh S S' sv → Q none (f', r)) : xMet G (d + 2) mX0_push [.ref (z + 16), .ref (rl 0), .ref (rl 1)] (f, r) r Q := by
  refine xMet_0 (by decide +kernel) rfl (Nat.le_of_ble_eq_true rfl) ?_
  show xX G (d + 2) mX0_push r r (xΦ G r r Q) 0 [(0, .ref (z + 16)), (1, .ref (rl 0)), (2, .ref (rl 1))] [] (f, r)
  have h0 := hC.2.2.1.1
  refine xr_aload_n (n := 1) dX0_push_0 rfl rfl ?_
  refine xr_get (n := 4) dX0_push_1 fl_X0_21 (by first | assumption) (by rfl) rfl ?_
  (first | (simp (disch := omega) only [nI_clamp, pk_mul, nI_add, oi1, up2_ss, up2_n, up2_sn, ur_s, ur_n, Nat.reduceMul, Nat.reduceAdd, Nat.add_zero]) | skip)
  refine xr_iconst (v := nI 5) (n := 5) dX0_push_4 (by decide) rfl ?_
  refine xr_icmp_lt (tgt := 12) (n := 8) dX0_push_5 (by decide) rfl (fun h5 => ?_) (fun h5 => ?_)
  · have hne : ¬ sv = 5 := by ((try simp (disch := omega) only [i_lt, i_le, i_eq, nt, i_m1, Int32.toInt_zero] at *); omega)
    refine s_X0_push_t hC (by omega) (fun f2 S2 c2 r2 e2 l0 l1 => hq f2 rl S2 (by rw [if_neg hne]; exact c2) r2 rfl rfl ?_)
    refine ⟨fun i hi => e2 i (by omega) (by omega), e2 0 (by omega) (by omega), e2 1 (by omega) (by omega), by rw [if_neg hne]; exact l0, by rw [if_neg hne]; exact l1, fun k hk => ?_⟩
    rw [if_neg hne] at hk ⊢
    exact ⟨e2 _ (by omega) (by omega), e2 _ (by omega) (by omega)⟩
  · refine xr_aload_n (n := 9) dX0_push_8 rfl rfl ?_
    refine xr_callV (y2 := mX0_dropOldest) (As := []) (n := 12) dX0_push_9 lm_X0_25 pm_X0_dropOldest pi_X0_dropOldest (by first | assumption) rfl rfl rfl (by simp [Value.category]) rfl ⟨Nat.le_refl _, Nat.le_refl _⟩ ?_
    have hse : sv = 5 := by ((try simp (disch := omega) only [i_lt, i_le, i_eq, nt, i_m1, Int32.toInt_zero] at *); omega)
    refine s_X0_dropOldest hC (fun f1 hC1 hr1 => ?_)
    dsimp only [xK, xps]
    refine s_X0_push_t (rl := fun i => rl (pid i)) hC1 (by omega) (fun f2 S2 c2 r2 e2 l0 l1 => hq f2 (fun i => rl (pid i)) S2 (by rw [if_pos hse]; exact c2) (hr1.tr r2) rfl rfl ?_)
    refine ⟨fun i hi => (e2 i (by omega) (by omega)).trans (by rw [pid_3 i hi]), e2 0 (by omega) (by omega), e2 1 (by omega) (by omega), by rw [if_pos hse]; exact l0, by rw [if_pos hse]; exact l1, fun k hk => ?_⟩
    rw [if_pos hse] at hk
    rw [if_pos hse]
    refine ⟨(e2 _ (by omega) (by omega)).trans ?_, (e2 _ (by omega) (by omega)).trans ?_⟩
    · rcases (show k = 0 ∨ k = 1 ∨ k = 2 ∨ k = 3 by omega) with rfl | rfl | rfl | rfl <;> rfl
    · rcases (show k = 0 ∨ k = 1 ∨ k = 2 ∨ k = 3 by omega) with rfl | rfl | rfl | rfl <;> rfl
theorem s_X0_pop {G : xG} {d : Nat} {f : Nat → xC} {r : Nat × Nat} {Q : Option Value → xM → Prop} {z q : Nat} {rl : Nat → Nat} {S : Nat → xS} (hC : CW f z rl (q + 1) S) (hq4 : q ≤ 4) (hq : ∀ f' S', CW f' z rl q S' → rgn z f f' → (∀ i, 2 ≤ i → S' i = S i) → lcp (S' 0) (S (2 + q)) → lcp (S' 1) (S (7 + q)) → Q none (f', r)) : xMet G (d + 2) mX0_pop [.ref (z + 16), .ref (rl 0), .ref (rl 1)] (f, r) r Q := by
  refine xMet_0 (by decide +kernel) rfl (Nat.le_of_ble_eq_true rfl) ?_
  show xX G (d + 2) mX0_pop r r (xΦ G r r Q) 0 [(0, .ref (z + 16)), (1, .ref (rl 0)), (2, .ref (rl 1))] [] (f, r)
  obtain ⟨hR, hF, hH, hb⟩ := id hC
  obtain ⟨h0, ⟨g0, hg0, hg0s⟩, g1, hg1, hg1s⟩ := hH
  refine xr_aload_n (n := 1) dX0_pop_0 rfl rfl ?_
  refine xr_get (n := 4) dX0_pop_1 fl_X0_21 (by first | assumption | exact (xu_n _ _ (by omega)).trans (by assumption) | exact (xu_n _ _ (by omega)).trans ((xu_n _ _ (by omega)).trans (by assumption)) | exact hC1.2.2.1.1 | exact hg11 | exact lat_0 (hC.l (by omega)) | exact lat_0 (hC1.l (by omega)) | exact hC2.2.2.1.1) (by rfl) rfl ?_
  (first | (simp (disch := omega) only [nI_clamp, pk_mul, nI_add, oi1, up2_ss, up2_n, up2_sn, ur_s, ur_n, Nat.reduceMul, Nat.reduceAdd, Nat.add_zero]) | skip)
  refine xr_iconst (v := nI 1) (n := 5) dX0_pop_4 (by decide) rfl ?_
  refine xr_isub (n := 6) dX0_pop_5 rfl ?_
  rw [pk_sub (by omega), Nat.add_sub_cancel]
  refine xq_istore_n 3 (n := 7) dX0_pop_6 rfl rfl rfl ?_
  simp only [xst, Nat.beq, List.filter, Bool.not_true, Bool.not_false]
  refine xr_iload_n (n := 8) dX0_pop_7 rfl rfl ?_
  refine xr_iconst (v := nI 0) (n := 9) dX0_pop_8 (by decide) rfl ?_
  refine xr_iconst (v := nI 4) (n := 10) dX0_pop_9 (by decide) rfl ?_
  refine xr_callS (y2 := mX7_isWithin) (As := [_, _, _]) (n := 13) dX0_pop_10 lm_X0_28 pm_X7_isWithin kp_static_yX7_isWithin rfl rfl (by simp [Value.category]) rfl ⟨Nat.le_refl _, Nat.le_refl _⟩ ?_
  refine s_X7_isWithin ?_
  dsimp only [xK, xps]
  refine xr_beq (tgt := 41) (n := 16) dX0_pop_13 (by decide) rfl (fun h13 => ?_) (fun h13 => ?_)
  · exact absurd (by rw [nt _ (by omega), nt _ (by omega), nt _ (by omega)]; omega) h13
  · refine xr_aload_n (n := 17) dX0_pop_16 rfl rfl ?_
    refine xr_aload_n (n := 18) dX0_pop_17 rfl rfl ?_
    refine xr_get (n := 21) dX0_pop_18 fl_X0_11 (by first | assumption | exact (xu_n _ _ (by omega)).trans (by assumption) | exact (xu_n _ _ (by omega)).trans ((xu_n _ _ (by omega)).trans (by assumption)) | exact hC1.2.2.1.1 | exact hg11 | exact lat_0 (hC.l (by omega)) | exact lat_0 (hC1.l (by omega)) | exact hC2.2.2.1.1) (by rfl) rfl ?_
    refine xr_iload_n (n := 22) dX0_pop_21 rfl rfl ?_
    refine xr_aaload (n := 23) dX0_pop_22 (by first | assumption | exact (xu_n _ _ (by omega)).trans (by assumption) | exact (xu_n _ _ (by omega)).trans ((xu_n _ _ (by omega)).trans (by assumption)) | exact hC1.2.2.1.1 | exact hg11 | exact lat_0 (hC.l (by omega)) | exact lat_0 (hC1.l (by omega)) | exact hC2.2.2.1.1) (by simp) (by first | exact vp_in_nI (by omega) (by omega)) rfl ?_
    rw [nI_clamp (by omega), hg0s q (by omega)]
    dsimp only [va_rf]
    refine xr_callV (y2 := mX1_takeFrom) (As := [_]) (n := 26) dX0_pop_23 lm_X0_32 pm_X1_takeFrom pi_X1_takeFrom (by first | assumption | exact (xu_n _ _ (by omega)).trans (by assumption) | exact (xu_n _ _ (by omega)).trans ((xu_n _ _ (by omega)).trans (by assumption)) | exact hC1.2.2.1.1 | exact hg11 | exact lat_0 (hC.l (by omega)) | exact lat_0 (hC1.l (by omega)) | exact hC2.2.2.1.1) rfl rfl rfl (by simp [Value.category]) rfl ⟨Nat.le_refl _, Nat.le_refl _⟩ ?_
    refine s_X1_takeFrom_p (hC.l (i := 0) (by omega)) (hC.l (i := 2 + q) (by omega)) (rl_d hR (by omega) (by omega) (by omega)) (fun τ hτ => ?_)
    obtain ⟨hC1, hr1⟩ := hC.ul (i := 0) (by omega) τ
    generalize lput f (rl 0) τ = f1 at hC1 hr1 ⊢
    obtain ⟨g11, hg11, hg11s⟩ := hC1.2.2.1.2.2
    dsimp only [xK, xps]
    refine xr_aload_n (n := 27) dX0_pop_26 rfl rfl ?_
    refine xr_aload_n (n := 28) dX0_pop_27 rfl rfl ?_
    refine xr_get (n := 31) dX0_pop_28 fl_X0_17 (by first | assumption | exact (xu_n _ _ (by omega)).trans (by assumption) | exact (xu_n _ _ (by omega)).trans ((xu_n _ _ (by omega)).trans (by assumption)) | exact hC1.2.2.1.1 | exact hg11 | exact lat_0 (hC.l (by omega)) | exact lat_0 (hC1.l (by omega)) | exact hC2.2.2.1.1) (by rfl) rfl ?_
    refine xr_iload_n (n := 32) dX0_pop_31 rfl rfl ?_
    refine xr_aaload (n := 33) dX0_pop_32 (by first | assumption | exact (xu_n _ _ (by omega)).trans (by assumption) | exact (xu_n _ _ (by omega)).trans ((xu_n _ _ (by omega)).trans (by assumption)) | exact hC1.2.2.1.1 | exact hg11 | exact lat_0 (hC.l (by omega)) | exact lat_0 (hC1.l (by omega)) | exact hC2.2.2.1.1) (by simp) (by first | exact vp_in_nI (by omega) (by omega)) rfl ?_
    rw [nI_clamp (by omega), hg11s q (by omega)]
    dsimp only [va_rf]
    refine xr_callV (y2 := mX1_takeFrom) (As := [_]) (n := 36) dX0_pop_33 lm_X0_32 pm_X1_takeFrom pi_X1_takeFrom (by first | assumption | exact (xu_n _ _ (by omega)).trans (by assumption) | exact (xu_n _ _ (by omega)).trans ((xu_n _ _ (by omega)).trans (by assumption)) | exact hC1.2.2.1.1 | exact hg11 | exact lat_0 (hC.l (by omega)) | exact lat_0 (hC1.l (by omega)) | exact hC2.2.2.1.1) rfl rfl rfl (by simp [Value.category]) rfl ⟨Nat.le_refl _, Nat.le_refl _⟩ ?_
    refine s_X1_takeFrom_p (hC1.l (i := 1) (by omega)) (hC1.l (i := 7 + q) (by omega)) (rl_d hR (by omega) (by omega) (by omega)) (fun τ1 hτ1 => ?_)
    obtain ⟨hC2, hr2⟩ := hC1.ul (i := 1) (by omega) τ1
    generalize lput f1 (rl 1) τ1 = f2 at hC2 hr2 ⊢
    dsimp only [xK, xps]
    refine xr_aload_n (n := 37) dX0_pop_36 rfl rfl ?_
    refine xr_iload_n (n := 38) dX0_pop_37 rfl rfl ?_
    refine xq_put (n := 41) dX0_pop_38 fl_X0_21 rfl (by first | assumption | exact (xu_n _ _ (by omega)).trans (by assumption) | exact (xu_n _ _ (by omega)).trans ((xu_n _ _ (by omega)).trans (by assumption)) | exact hC1.2.2.1.1 | exact hg11 | exact lat_0 (hC.l (by omega)) | exact lat_0 (hC1.l (by omega)) | exact hC2.2.2.1.1) (by rfl) (by rfl) (by rfl) rfl ?_
    skip
    refine xr_return dX0_pop_41 rfl rfl ?_
    refine hq _ (ss (ss S 0 τ) 1 τ1) (hC2.pm (π := fun i => i) (fun i hi => hi) (fun i j hi hj h => h) (fun i hi => rfl) ⟨?_, ?_, ?_⟩ ⟨xu_s _ _ _, ?_, ?_⟩ ?_) (hr1.tr (hr2.tr ?_)) ?_ ?_ ?_
    · rw [xu_n _ _ (by omega)]; exact hC2.2.1.1
    · rw [xu_n _ _ (by omega)]; exact hC2.2.1.2.1
    · rw [xu_n _ _ (by omega)]; exact hC2.2.1.2.2
    · rw [xu_n _ _ (by omega)]; exact hC2.2.2.1.2.1
    · rw [xu_n _ _ (by omega)]; exact hC2.2.2.1.2.2
    · intro a _ h2 _ _; exact xu_n _ _ h2
    · intro a ha; exact xu_n _ _ (by omega)
    · intro i h1
      rw [ss_n (by omega), ss_n (by omega)]
    · rw [ss_n (by omega), ss_s]; exact hτ
    · rw [ss_s]
      rw [ss_n (by omega)] at hτ1
      exact hτ1
