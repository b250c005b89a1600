/-! the class: how deep a program is nested -/
def cvc (P : Nat → Nat → Nat) (s : Nat) : Nat → Nat
  | 0 => 0
  | k + 1 => cvc P s k + (if 3 ≤ P k 0 ∧ s < P k 6 then 1 else 0)
theorem cvc_s (P : Nat → Nat → Nat) (s k : Nat) : cvc P s (k + 1) = cvc P s k + (if 3 ≤ P k 0 ∧ s < P k 6 then 1 else 0) := rfl
theorem cvc_none {P : Nat → Nat → Nat} {s a : Nat} : ∀ b, (∀ i, a ≤ i → i < a + b → ¬ (3 ≤ P i 0 ∧ s < P i 6)) → cvc P s (a + b) = cvc P s a
  | 0, _ => rfl
  | b + 1, h => by
    rw [← Nat.add_assoc, cvc_s, if_neg (h (a + b) (by omega) (by omega)), cvc_none b (fun i h1 h2 => h i h1 (by omega)), Nat.add_zero]
theorem cvc_cg {P : Nat → Nat → Nat} {s k : Nat} : ∀ a, (∀ i, i < a → ((3 ≤ P i 0 ∧ s < P i 6) ↔ (3 ≤ P i 0 ∧ k < P i 6))) → cvc P s a = cvc P k a
  | 0, _ => rfl
  | a + 1, h => by
    rw [cvc_s, cvc_s, cvc_cg a (fun i hi => h i (by omega))]
    by_cases e : 3 ≤ P a 0 ∧ k < P a 6
    · rw [if_pos e, if_pos ((h a (by omega)).mpr e)]
    · rw [if_neg e, if_neg (fun q => e ((h a (by omega)).mp q))]
theorem cvc_dep {n : Nat} {P : Nat → Nat → Nat} (hO : okP n P) (hL : lam n P) : ∀ s, s < n → cvc P s s = dep P s s := by
  intro s
  induction s using Nat.strongRecOn with
  | _ s ih =>
    intro hs
    cases h : outr P s s with
    | zero =>
      have h0 := outr_0 h
      have := cvc_none (P := P) (s := s) (a := 0) s (fun i _ hi => h0 i (by omega))
      rw [Nat.zero_add] at this
      rw [dep_0 h, this]
      rfl
    | succ k =>
      obtain ⟨h1, h2, h3, h4⟩ := outr_k h
      have hpe : pend P k = P k 6 := if_pos h2
      have e1 := cvc_none (P := P) (s := s) (a := k + 1) (s - (k + 1)) (fun i q1 q2 => h4 i (by omega) (by omega))
      rw [show k + 1 + (s - (k + 1)) = s from by omega] at e1
      rw [dep_k h, e1, cvc_s, if_pos ⟨h2, h3⟩, ← ih k h1 (by omega)]
      congr 1
      refine cvc_cg k (fun i hi => ⟨fun q => ⟨q.1, by omega⟩, fun q => ⟨q.1, ?_⟩⟩)
      have := (hL i k hi (by omega) q.1).1 q.2
      omega
theorem dpi_cvc {P : Nat → Nat → Nat} {s : Nat} (h3 : 3 ≤ P s 0) : ∀ k, dpi P s k = cvc P s k + 1
  | 0 => if_pos h3
  | k + 1 => by
    show dpi P s k + _ = _
    rw [cvc_s, dpi_cvc h3 k]
    by_cases e : 3 ≤ P k 0 ∧ s < P k 6
    · rw [if_pos ⟨h3, e.1, e.2⟩, if_pos e]
    · rw [if_neg (fun q => e q.2), if_neg e]
theorem dpi_no {P : Nat → Nat → Nat} {s : Nat} (h3 : ¬ 3 ≤ P s 0) : ∀ k, dpi P s k = 0
  | 0 => if_neg h3
  | k + 1 => by
    show dpi P s k + _ = _
    rw [dpi_no h3 k, if_neg (fun q => h3 q.1)]
theorem dpm_t {n s : Nat} {P : Nat → Nat → Nat} (hO : okP n P) (hL : lam n P) (hs : s < n) (h3 : 3 ≤ P s 0) : dpm P (s + 1) = if dpm P s < dep P s s + 1 then dep P s s + 1 else dpm P s := by
  show (if dpm P s < dpi P s s then dpi P s s else dpm P s) = _
  rw [dpi_cvc h3, cvc_dep hO hL s hs]
theorem dpm_f {s : Nat} {P : Nat → Nat → Nat} (h3 : ¬ 3 ≤ P s 0) : dpm P (s + 1) = dpm P s := by
  show (if dpm P s < dpi P s s then dpi P s s else dpm P s) = _
  rw [dpi_no h3, if_neg (Nat.not_lt_zero _)]
theorem s_X1_depthOf {G : xG} {d : Nat} {f : Nat → xC} {r : Nat × Nat} {Q : Option Value → xM → Prop} {a n s : Nat} {σ : xS} {P : Nat → Nat → Nat} (hL : lat f a σ) (hP : LsP σ n P) (hs : s < n) (hD : dep P s s ≤ 4) (hq : Q (some (.int (nI (dep P s s + 1)))) (f, r)) : xMet G (d + 2) mX1_depthOf [.ref a, .int (nI s)] (f, r) r Q := by
  refine xMet_0 (by decide +kernel) rfl (Nat.le_of_ble_eq_true rfl) ?_
  show xX G (d + 2) mX1_depthOf r r (xΦ G r r Q) 0 [(0, .ref a), (1, .int (nI s))] [] (f, r)
  obtain ⟨hn, hn2, hS⟩ := id hP
  generalize hDD : dep P s s + 1 = D at *
  refine xr_iconst (v := nI 0) (n := 1) dX1_depthOf_0 (by decide) rfl ?_
  refine xq_istore_n 2 (n := 2) dX1_depthOf_1 rfl rfl rfl ?_
  simp only [xst, Nat.beq, List.filter, Bool.not_true, Bool.not_false]
  refine xr_iload_n (n := 3) dX1_depthOf_2 rfl rfl ?_
  refine xq_istore_n 3 (n := 4) dX1_depthOf_3 rfl rfl rfl ?_
  simp only [xst, Nat.beq, List.filter, Bool.not_true, Bool.not_false]
  refine xr_iconst (v := nI 0) (n := 5) dX1_depthOf_4 (by decide) rfl ?_
  refine xr_istore (n := 7) dX1_depthOf_5 rfl rfl ?_
  simp only [xst, Nat.beq, List.filter, Bool.not_true, Bool.not_false]
  have key : ∀ k, k ≤ 5 → ∀ v : Int32, ((∃ u : Nat, u < n ∧ v = nI u ∧ dep P u u + 1 + k = D) ∨ (v = (-1) ∧ k = D)) → xX G (d + 2) mX1_depthOf r r (xΦ G r r Q) 7 [(0, .ref a), (1, .int (nI s)), (2, .int (nI k)), (3, .int v), (4, .int (nI k))] [] (f, r) := by
    refine nat_down (P := fun k => ∀ v : Int32, ((∃ u : Nat, u < n ∧ v = nI u ∧ dep P u u + 1 + k = D) ∨ (v = (-1) ∧ k = D)) → xX G (d + 2) mX1_depthOf r r (xΦ G r r Q) 7 [(0, .ref a), (1, .int (nI s)), (2, .int (nI k)), (3, .int v), (4, .int (nI k))] [] (f, r)) (N := 5) ?_ ?_
    · intro v hc
      refine xr_iload (n := 9) dX1_depthOf_7 rfl rfl ?_
      refine xr_iconst (v := nI 5) (n := 10) dX1_depthOf_9 (by decide) rfl ?_
      refine xr_icmp_ge (tgt := 37) (n := 13) dX1_depthOf_10 (by decide) rfl (fun h10 => ?_) (fun h10 => by (exfalso; ((try simp (disch := omega) only [i_lt, i_le, i_eq, nt, i_m1, Int32.toInt_zero] at *); omega)))
      refine xr_iload_n (n := 38) dX1_depthOf_37 rfl rfl ?_
      refine xr_ireturn dX1_depthOf_38 rfl rfl rfl ?_
      rcases hc with ⟨u, hu, he, hd⟩ | ⟨he, hd⟩
      · exfalso; omega
      · exact qi hq (by rw [← hd])
    · intro k hk ih v hc
      refine xr_iload (n := 9) dX1_depthOf_7 rfl rfl ?_
      refine xr_iconst (v := nI 5) (n := 10) dX1_depthOf_9 (by decide) rfl ?_
      refine xr_icmp_ge (tgt := 37) (n := 13) dX1_depthOf_10 (by decide) rfl (fun h10 => by (exfalso; ((try simp (disch := omega) only [i_lt, i_le, i_eq, nt, i_m1, Int32.toInt_zero] at *); omega))) (fun h10 => ?_)
      refine xr_aload_n (n := 14) dX1_depthOf_13 rfl rfl ?_
      refine xr_iload_n (n := 15) dX1_depthOf_14 rfl rfl ?_
      refine xr_callV (y2 := mX1_holds) (As := [_]) (n := 18) dX1_depthOf_15 lm_X1_47 pm_X1_holds pi_X1_holds (by first | exact lat_0 hL | exact lat_r hL (by decide)) rfl rfl rfl (by simp [Value.category]) rfl ⟨Nat.le_refl _, Nat.le_refl _⟩ ?_
      refine s_X1_holds hL hn hn2 ?_
      dsimp only [xK, xps]
      refine xr_beq (tgt := 37) (n := 21) dX1_depthOf_18 (by decide) rfl (fun h18 => ?_) (fun h18 => ?_)
      · refine xr_iload_n (n := 38) dX1_depthOf_37 rfl rfl ?_
        refine xr_ireturn dX1_depthOf_38 rfl rfl rfl ?_
        rcases hc with ⟨u, hu, he, hd⟩ | ⟨he, hd⟩
        · exact absurd (ib_s hu hn2) (he ▸ h18)
        · exact qi hq (by rw [← hd])
      · obtain ⟨u, hu, rfl, hdu⟩ : ∃ u : Nat, u < n ∧ v = nI u ∧ dep P u u + 1 + k = D := by
          rcases hc with h | ⟨he, hd⟩
          · exact h
          · rw [he, i_m1] at h18; omega
        obtain ⟨⟨-, -, -, -, g5, -, -⟩, -⟩ := hS u hu
        refine xr_iinc (n := 24) dX1_depthOf_21 rfl rfl (rfl) rfl ?_
        simp only [xst, Nat.beq, List.filter, Bool.not_true, Bool.not_false]
        (first | (simp (disch := omega) only [nI_clamp, pk_mul, nI_add, oi1, up2_ss, up2_n, up2_sn, ur_s, ur_n, Nat.reduceMul, Nat.reduceAdd, Nat.add_zero]) | skip)
        refine xr_aload_n (n := 25) dX1_depthOf_24 rfl rfl ?_
        refine xr_get (n := 28) dX1_depthOf_25 fl_X1_27 (by first | exact lat_0 hL | exact lat_r hL (by decide)) (by rfl) rfl ?_
        refine xr_iload_n (n := 29) dX1_depthOf_28 rfl rfl ?_
        refine xr_iaload (n := 30) dX1_depthOf_29 (by first | exact lat_0 hL | exact lat_r hL (by decide)) (by first | exact vp_in_nI (by omega) (by omega)) rfl ?_
        (first | (simp (disch := omega) only [nI_clamp, pk_mul, nI_add, oi1, up2_ss, up2_n, up2_sn, ur_s, ur_n, Nat.reduceMul, Nat.reduceAdd, Nat.add_zero]) | skip)
        rw [g5]
        refine xq_istore_n 3 (n := 31) dX1_depthOf_30 rfl rfl rfl ?_
        simp only [xst, Nat.beq, List.filter, Bool.not_true, Bool.not_false]
        refine xr_iinc (n := 34) dX1_depthOf_31 rfl rfl (rfl) rfl ?_
        simp only [xst, Nat.beq, List.filter, Bool.not_true, Bool.not_false]
        (first | (simp (disch := omega) only [nI_clamp, pk_mul, nI_add, oi1, up2_ss, up2_n, up2_sn, ur_s, ur_n, Nat.reduceMul, Nat.reduceAdd, Nat.add_zero]) | skip)
        refine xr_goto (n := 7) dX1_depthOf_34 (by decide) ?_
        refine ih _ ?_
        cases ho : outr P u u with
        | zero =>
          refine Or.inr ⟨if_pos rfl, ?_⟩
          rw [dep_0 ho] at hdu
          omega
        | succ k2 =>
          refine Or.inl ⟨k2, ?_, ?_, ?_⟩
          · have := (outr_k ho).1
            omega
          · unfold oui; rw [if_neg (by omega)]; rfl
          · rw [dep_k ho] at hdu
            omega
  exact key 0 (by omega) (nI s) (Or.inl ⟨s, hs, rfl, by omega⟩)

theorem s_X1_nesting {G : xG} {d : Nat} {f : Nat → xC} {r : Nat × Nat} {Q : Option Value → xM → Prop} {a n : Nat} {σ : xS} {P : Nat → Nat → Nat} (hL : lat f a σ) (hP : LsP σ n P) (hW : wfP n P) (hq : Q (some (.int (nI (dpm P n)))) (f, r)) : xMet G (d + 3) mX1_nesting [.ref a] (f, r) r Q := by
  refine xMet_0 (by decide +kernel) rfl (Nat.le_of_ble_eq_true rfl) ?_
  show xX G (d + 3) mX1_nesting r r (xΦ G r r Q) 0 [(0, .ref a)] [] (f, r)
  obtain ⟨hn, hn2, hS⟩ := id hP
  refine xr_iconst (v := nI 0) (n := 1) dX1_nesting_0 (by decide) rfl ?_
  refine xq_istore_n 1 (n := 2) dX1_nesting_1 rfl rfl rfl ?_
  simp only [xst, Nat.beq, List.filter, Bool.not_true, Bool.not_false]
  refine xr_iconst (v := nI 0) (n := 3) dX1_nesting_2 (by decide) rfl ?_
  refine xq_istore_n 2 (n := 4) dX1_nesting_3 rfl rfl rfl ?_
  simp only [xst, Nat.beq, List.filter, Bool.not_true, Bool.not_false]
  refine nat_down (P := fun k => xX G (d + 3) mX1_nesting r r (xΦ G r r Q) 4 [(0, .ref a), (1, .int (nI (dpm P k))), (2, .int (nI k))] [] (f, r)) (N := n) ?_ ?_ 0 (by omega)
  · refine xr_iload_n (n := 5) dX1_nesting_4 rfl rfl ?_
    refine xr_aload_n (n := 6) dX1_nesting_5 rfl rfl ?_
    refine xr_get (n := 9) dX1_nesting_6 fl_X1_39 (by first | exact lat_0 hL | exact lat_r hL (by decide)) (by rfl) rfl ?_
    (first | (simp (disch := omega) only [nI_clamp, pk_mul, nI_add, oi1, up2_ss, up2_n, up2_sn, ur_s, ur_n, Nat.reduceMul, Nat.reduceAdd, Nat.add_zero, hn]) | skip)
    refine xr_icmp_ge (tgt := 54) (n := 12) dX1_nesting_9 (by decide) rfl (fun h9 => ?_) (fun h9 => by (exfalso; ((try simp (disch := omega) only [i_lt, i_le, i_eq, nt, i_m1, Int32.toInt_zero] at *); omega)))
    refine xr_iload_n (n := 55) dX1_nesting_54 rfl rfl ?_
    refine xr_ireturn dX1_nesting_55 rfl rfl rfl ?_
    exact hq
  · intro k hk ih
    obtain ⟨⟨e0, e1, -, -, e5, -, -⟩, -⟩ := hS k hk
    obtain ⟨k0, k1, -⟩ := hW.1.2 k hk
    have hc := dpm_le P k
    refine xr_iload_n (n := 5) dX1_nesting_4 rfl rfl ?_
    refine xr_aload_n (n := 6) dX1_nesting_5 rfl rfl ?_
    refine xr_get (n := 9) dX1_nesting_6 fl_X1_39 (by first | exact lat_0 hL | exact lat_r hL (by decide)) (by rfl) rfl ?_
    (first | (simp (disch := omega) only [nI_clamp, pk_mul, nI_add, oi1, up2_ss, up2_n, up2_sn, ur_s, ur_n, Nat.reduceMul, Nat.reduceAdd, Nat.add_zero, hn]) | skip)
    refine xr_icmp_ge (tgt := 54) (n := 12) dX1_nesting_9 (by decide) rfl (fun h9 => by (exfalso; ((try simp (disch := omega) only [i_lt, i_le, i_eq, nt, i_m1, Int32.toInt_zero] at *); omega))) (fun h9 => ?_)
    refine xr_iload_n (n := 13) dX1_nesting_12 rfl rfl ?_
    refine xr_bipush (v := nI 60) (n := 15) dX1_nesting_13 (by decide) rfl ?_
    refine xr_icmp_ge (tgt := 54) (n := 18) dX1_nesting_15 (by decide) rfl (fun h15 => by (exfalso; ((try simp (disch := omega) only [i_lt, i_le, i_eq, nt, i_m1, Int32.toInt_zero] at *); omega))) (fun h15 => ?_)
    refine xr_aload_n (n := 19) dX1_nesting_18 rfl rfl ?_
    refine xr_get (n := 22) dX1_nesting_19 fl_X1_9 (by first | exact lat_0 hL | exact lat_r hL (by decide)) (by rfl) rfl ?_
    refine xr_iload_n (n := 23) dX1_nesting_22 rfl rfl ?_
    refine xr_iaload (n := 24) dX1_nesting_23 (by first | exact lat_0 hL | exact lat_r hL (by decide)) (by first | exact vp_in_nI (by omega) (by omega)) rfl ?_
    (first | (simp (disch := omega) only [nI_clamp, pk_mul, nI_add, oi1, up2_ss, up2_n, up2_sn, ur_s, ur_n, Nat.reduceMul, Nat.reduceAdd, Nat.add_zero, hn]) | skip)
    rw [e0]
    refine xr_iconst (v := nI 4) (n := 25) dX1_nesting_24 (by decide) rfl ?_
    refine xr_icmp_eq (tgt := 38) (n := 28) dX1_nesting_25 (by decide) rfl (fun h25 => ?_) (fun h25 => ?_)
    · have h3 : 3 ≤ P k 0 := by ((try simp (disch := omega) only [i_lt, i_le, i_eq, nt, i_m1, Int32.toInt_zero] at *); omega)
      have hD := hW.2.2 k hk h3
      refine xr_iload_n (n := 39) dX1_nesting_38 rfl rfl ?_
      refine xr_aload_n (n := 40) dX1_nesting_39 rfl rfl ?_
      refine xr_iload_n (n := 41) dX1_nesting_40 rfl rfl ?_
      refine xr_callV (y2 := mX1_depthOf) (As := [_]) (n := 44) dX1_nesting_41 lm_X1_82 pm_X1_depthOf pi_X1_depthOf (by first | exact lat_0 hL | exact lat_r hL (by decide)) rfl rfl rfl (by simp [Value.category]) rfl ⟨Nat.le_refl _, Nat.le_refl _⟩ ?_
      refine s_X1_depthOf hL hP hk hD ?_
      dsimp only [xK, xps]
      refine xr_mmax (n := 47) dX1_nesting_44 km_X1_85 (by simp [Value.category]) rfl ?_
      skip
      refine xq_istore_n 1 (n := 48) dX1_nesting_47 rfl rfl rfl ?_
      simp only [xst, Nat.beq, List.filter, Bool.not_true, Bool.not_false]
      refine xr_iinc (n := 51) dX1_nesting_48 rfl rfl (rfl) rfl ?_
      simp only [xst, Nat.beq, List.filter, Bool.not_true, Bool.not_false]
      (first | (simp (disch := omega) only [nI_clamp, pk_mul, nI_add, oi1, up2_ss, up2_n, up2_sn, ur_s, ur_n, Nat.reduceMul, Nat.reduceAdd, Nat.add_zero, hn]) | skip)
      refine xr_goto (n := 4) dX1_nesting_51 (by decide) ?_
      first
        | (have h3 : ¬ 3 ≤ P k 0 := by ((try simp (disch := omega) only [i_lt, i_le, i_eq, nt, i_m1, Int32.toInt_zero] at *); omega)
           rw [dpm_f h3] at ih
           exact ih)
        | (rw [dpm_t hW.1 hW.2.1 hk h3] at ih
           refine xX.eq rfl ?_ rfl rfl ih
           by_cases e : dpm P k < dep P k k + 1
           · rw [if_pos e, if_pos (by rw [i_lt, nt _ (by omega), nt _ (by omega)]; omega)]
           · rw [if_neg e, if_neg (by rw [i_lt, nt _ (by omega), nt _ (by omega)]; omega)])
    · refine xr_aload_n (n := 29) dX1_nesting_28 rfl rfl ?_
      refine xr_get (n := 32) dX1_nesting_29 fl_X1_9 (by first | exact lat_0 hL | exact lat_r hL (by decide)) (by rfl) rfl ?_
      refine xr_iload_n (n := 33) dX1_nesting_32 rfl rfl ?_
      refine xr_iaload (n := 34) dX1_nesting_33 (by first | exact lat_0 hL | exact lat_r hL (by decide)) (by first | exact vp_in_nI (by omega) (by omega)) rfl ?_
      (first | (simp (disch := omega) only [nI_clamp, pk_mul, nI_add, oi1, up2_ss, up2_n, up2_sn, ur_s, ur_n, Nat.reduceMul, Nat.reduceAdd, Nat.add_zero, hn]) | skip)
      rw [e0]
      refine xr_iconst (v := nI 5) (n := 35) dX1_nesting_34 (by decide) rfl ?_
      refine xr_icmp_ne (tgt := 48) (n := 38) dX1_nesting_35 (by decide) rfl (fun h35 => ?_) (fun h35 => ?_)
      · refine xr_iinc (n := 51) dX1_nesting_48 rfl rfl (rfl) rfl ?_
        simp only [xst, Nat.beq, List.filter, Bool.not_true, Bool.not_false]
        (first | (simp (disch := omega) only [nI_clamp, pk_mul, nI_add, oi1, up2_ss, up2_n, up2_sn, ur_s, ur_n, Nat.reduceMul, Nat.reduceAdd, Nat.add_zero, hn]) | skip)
        refine xr_goto (n := 4) dX1_nesting_51 (by decide) ?_
        first
          | (have h3 : ¬ 3 ≤ P k 0 := by ((try simp (disch := omega) only [i_lt, i_le, i_eq, nt, i_m1, Int32.toInt_zero] at *); omega)
             rw [dpm_f h3] at ih
             exact ih)
          | (rw [dpm_t hW.1 hW.2.1 hk h3] at ih
             refine xX.eq rfl ?_ rfl rfl ih
             by_cases e : dpm P k < dep P k k + 1
             · rw [if_pos e, if_pos (by rw [i_lt, nt _ (by omega), nt _ (by omega)]; omega)]
             · rw [if_neg e, if_neg (by rw [i_lt, nt _ (by omega), nt _ (by omega)]; omega)])
      · have h3 : 3 ≤ P k 0 := by ((try simp (disch := omega) only [i_lt, i_le, i_eq, nt, i_m1, Int32.toInt_zero] at *); omega)
        have hD := hW.2.2 k hk h3
        refine xr_iload_n (n := 39) dX1_nesting_38 rfl rfl ?_
        refine xr_aload_n (n := 40) dX1_nesting_39 rfl rfl ?_
        refine xr_iload_n (n := 41) dX1_nesting_40 rfl rfl ?_
        refine xr_callV (y2 := mX1_depthOf) (As := [_]) (n := 44) dX1_nesting_41 lm_X1_82 pm_X1_depthOf pi_X1_depthOf (by first | exact lat_0 hL | exact lat_r hL (by decide)) rfl rfl rfl (by simp [Value.category]) rfl ⟨Nat.le_refl _, Nat.le_refl _⟩ ?_
        refine s_X1_depthOf hL hP hk hD ?_
        dsimp only [xK, xps]
        refine xr_mmax (n := 47) dX1_nesting_44 km_X1_85 (by simp [Value.category]) rfl ?_
        skip
        refine xq_istore_n 1 (n := 48) dX1_nesting_47 rfl rfl rfl ?_
        simp only [xst, Nat.beq, List.filter, Bool.not_true, Bool.not_false]
        refine xr_iinc (n := 51) dX1_nesting_48 rfl rfl (rfl) rfl ?_
        simp only [xst, Nat.beq, List.filter, Bool.not_true, Bool.not_false]
        (first | (simp (disch := omega) only [nI_clamp, pk_mul, nI_add, oi1, up2_ss, up2_n, up2_sn, ur_s, ur_n, Nat.reduceMul, Nat.reduceAdd, Nat.add_zero, hn]) | skip)
        refine xr_goto (n := 4) dX1_nesting_51 (by decide) ?_
        first
          | (have h3 : ¬ 3 ≤ P k 0 := by ((try simp (disch := omega) only [i_lt, i_le, i_eq, nt, i_m1, Int32.toInt_zero] at *); omega)
             rw [dpm_f h3] at ih
             exact ih)
          | (rw [dpm_t hW.1 hW.2.1 hk h3] at ih
             refine xX.eq rfl ?_ rfl rfl ih
             by_cases e : dpm P k < dep P k k + 1
             · rw [if_pos e, if_pos (by rw [i_lt, nt _ (by omega), nt _ (by omega)]; omega)]
             · rw [if_neg e, if_neg (by rw [i_lt, nt _ (by omega), nt _ (by omega)]; omega)])
