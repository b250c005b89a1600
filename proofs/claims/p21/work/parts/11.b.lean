/-! THE LAW's reads -/
theorem oApp_tx (o : xO) (t : Nat → Int32) (n : Nat) (c : Int32) : oApp (oTx o t n) c = oTx o (upd t n c) (n + 1) := rfl
theorem kd_l {c : Nat} (hc : 97 ≤ c ∧ c ≤ 102) : kdI (nI c) = nI 0 := by
  unfold kdI
  rw [if_pos (isL_n hc)]
/-- one end too many -/
theorem Rd_no {t t2 : Nat → Int32} {m n g k : Nat} (h : Rd t m (g + 1) k 0) (ha : ∀ i, i < m → t2 i = t i) (h0 : t2 m = nI 93) (hn : m + 1 ≤ n) (h120 : n ≤ 120) : (pAll t2 n).1 = false ∧ (pAll t2 n).2.1 = m := by
  obtain ⟨P, op, ph, h1, -⟩ := h t2 n ha (by omega) h120
  have hh := hr_at (n := n) (a := m) (by omega) h0 (by omega) (by omega)
  have hs : skp t2 n m = m := sk_at h0 (by omega) (by omega)
  have hp := pl_no (g := g) (k := k) (dp := 0) (P := P) (op := op) (ph := ph) (t := t2) (n := n) (a := m) (by rw [hh]; exact nI_ne (by omega) (by omega) (by omega)) (by rw [hh]; decide +kernel) (fun q => absurd q.1 (Nat.lt_irrefl 0))
  rw [h1, hp, hs]
  exact ⟨rfl, rfl⟩
theorem ty3 {G : xG} {d : Nat} {f : Nat → xC} {r : Nat × Nat} {Q : Option Value → xM → Prop} {z n a b c : Nat} {t : Nat → Int32} {o : xO} (hO : OI f z (oTx o t n)) (hl : n + 3 ≤ 120) (hb : (1 ≤ a ∧ a ≤ 255) ∧ (1 ≤ b ∧ b ≤ 255) ∧ (1 ≤ c ∧ c ≤ 255)) (hq : ∀ (f' : Nat → xC) (T : Nat → Int32), OI f' z (oTx o T (n + 3)) → (∀ i, i < n → T i = t i) → T n = nI a → T (n + 1) = nI b → T (n + 2) = nI c → Q none (f', r)) : xMet G (d + 3) mL_types [.ref z, .int (nI a), .int (nI b), .int (nI c), .int (nI 0), .int (nI 0), .int (nI 0)] (f, r) r Q := by
  refine s_L_types_3 hO hl (by omega) (by omega) (by omega) (fun f' h => hq f' (upd (upd (upd t n (nI a)) (n + 1) (nI b)) (n + 2) (nI c)) h (fun i hi => ?_) ?_ ?_ ?_)
  · simp (disch := omega) only [pk_un]
  · simp (disch := omega) only [pk_us, pk_un]
  · simp (disch := omega) only [pk_us, pk_un]
  · simp (disch := omega) only [pk_us, pk_un]

theorem ty4 {G : xG} {d : Nat} {f : Nat → xC} {r : Nat × Nat} {Q : Option Value → xM → Prop} {z n a b c u : Nat} {t : Nat → Int32} {o : xO} (hO : OI f z (oTx o t n)) (hl : n + 4 ≤ 120) (hb : (1 ≤ a ∧ a ≤ 255) ∧ (1 ≤ b ∧ b ≤ 255) ∧ (1 ≤ c ∧ c ≤ 255) ∧ (1 ≤ u ∧ u ≤ 255)) (hq : ∀ (f' : Nat → xC) (T : Nat → Int32), OI f' z (oTx o T (n + 4)) → (∀ i, i < n → T i = t i) → T n = nI a → T (n + 1) = nI b → T (n + 2) = nI c → T (n + 3) = nI u → Q none (f', r)) : xMet G (d + 3) mL_types [.ref z, .int (nI a), .int (nI b), .int (nI c), .int (nI u), .int (nI 0), .int (nI 0)] (f, r) r Q := by
  refine s_L_types_4 hO hl (by omega) (by omega) (by omega) (by omega) (fun f' h => hq f' (upd (upd (upd (upd t n (nI a)) (n + 1) (nI b)) (n + 2) (nI c)) (n + 3) (nI u)) h (fun i hi => ?_) ?_ ?_ ?_ ?_)
  · simp (disch := omega) only [pk_un]
  · simp (disch := omega) only [pk_us, pk_un]
  · simp (disch := omega) only [pk_us, pk_un]
  · simp (disch := omega) only [pk_us, pk_un]
  · simp (disch := omega) only [pk_us, pk_un]

theorem ty6 {G : xG} {d : Nat} {f : Nat → xC} {r : Nat × Nat} {Q : Option Value → xM → Prop} {z n a b c u v w : Nat} {t : Nat → Int32} {o : xO} (hO : OI f z (oTx o t n)) (hl : n + 6 ≤ 120) (hb : (1 ≤ a ∧ a ≤ 255) ∧ (1 ≤ b ∧ b ≤ 255) ∧ (1 ≤ c ∧ c ≤ 255) ∧ (1 ≤ u ∧ u ≤ 255) ∧ (1 ≤ v ∧ v ≤ 255) ∧ (1 ≤ w ∧ w ≤ 255)) (hq : ∀ (f' : Nat → xC) (T : Nat → Int32), OI f' z (oTx o T (n + 6)) → (∀ i, i < n → T i = t i) → T n = nI a → T (n + 1) = nI b → T (n + 2) = nI c → T (n + 3) = nI u → T (n + 4) = nI v → T (n + 5) = nI w → Q none (f', r)) : xMet G (d + 3) mL_types [.ref z, .int (nI a), .int (nI b), .int (nI c), .int (nI u), .int (nI v), .int (nI w)] (f, r) r Q := by
  refine s_L_types_6 hO hl (by omega) (by omega) (by omega) (by omega) (by omega) (by omega) (fun f' h => hq f' (upd (upd (upd (upd (upd (upd t n (nI a)) (n + 1) (nI b)) (n + 2) (nI c)) (n + 3) (nI u)) (n + 4) (nI v)) (n + 5) (nI w)) h (fun i hi => ?_) ?_ ?_ ?_ ?_ ?_ ?_)
  · simp (disch := omega) only [pk_un]
  · simp (disch := omega) only [pk_us, pk_un]
  · simp (disch := omega) only [pk_us, pk_un]
  · simp (disch := omega) only [pk_us, pk_un]
  · simp (disch := omega) only [pk_us, pk_un]
  · simp (disch := omega) only [pk_us, pk_un]
  · simp (disch := omega) only [pk_us, pk_un]

theorem s_L_reads {G : xG} {d : Nat} {f : Nat → xC} {r : Nat × Nat} {Q : Option Value → xM → Prop} {z : Nat} {x w0 : Int32} {o : xO} (hO : OI f z o) (hq1 : ∀ f' t n, OI f' z (oTx o t n) → Q (some (.int (-1))) (f', r)) (hq : ∀ f' t n N P, OI f' z (oPut (oTx o t n) N P) → Q (some (.int (nI 0))) (f', r)) : xMet G (d + 9) mL_reads [.ref z, .int x, .int w0] (f, r) r Q := by
  refine xMet_0 (by decide +kernel) rfl (Nat.le_of_ble_eq_true rfl) ?_
  show xX G (d + 9) mL_reads r r (xΦ G r r Q) 0 [(0, .ref z), (1, .int x), (2, .int w0)] [] (f, r)
  have e1000 : (-1000 : Int32).toInt = -1000 := by decide +kernel
  have e1120 : (-1120 : Int32).toInt = -1120 := by decide +kernel
  have e10001 : (-10001 : Int32).toInt = -10001 := by decide +kernel
  have hK := lo_lt w0 (n := 8) (by omega)
  have k384_0 : ∀ (v : Int32) (op : Nat) (t : Nat → Int32) (n : Nat) (f : Nat → xC), OI f z (oTx o t n) → (pAll t n).1 = true → xX G (d + 9) mL_reads r r (xΦ G r r Q) 384 [(0, .ref z), (1, .int x), (2, .int w0), (3, .int v), (4, .int (nI op)), (5, .int (nI 0)), (6, .int (nI op))] [] (f, r) := by
    intro v op t n f hO hp
    refine xr_aload_n (n := 385) dL_reads_384 rfl rfl ?_
    refine xr_iconst (v := nI 3) (n := 386) dL_reads_385 (by decide) rfl ?_
    refine xr_callV (y2 := mX7_count) (As := [_]) (n := 389) dL_reads_386 lm_L_19 pm_X7_count pi_X7_count (by exact Exists.choose_spec hO.z) rfl rfl rfl (by simp [Value.category]) rfl ⟨Nat.le_refl _, Nat.le_refl _⟩ ?_
    refine q_count hO (by omega) ?_
    dsimp only [xK, xps]
    rw [show cntV (oTx o t n) 3 = n from rfl]
    refine xr_istore (n := 391) dL_reads_389 rfl rfl ?_
    simp only [xst, Nat.beq, List.filter, Bool.not_true, Bool.not_false]
    refine xr_aload_n (n := 392) dL_reads_391 rfl rfl ?_
    refine xr_iload_n (n := 393) dL_reads_392 rfl rfl ?_
    refine xr_bipush (v := nI 9) (n := 395) dL_reads_393 (by decide) rfl ?_
    refine xr_ishr (n := 396) dL_reads_395 rfl ?_
    refine xr_iconst (v := nI 2) (n := 397) dL_reads_396 (by decide) rfl ?_
    refine xr_callS (y2 := mL_near) (As := [_, _]) (n := 400) dL_reads_397 lm_L_96 pm_L_near kp_static_yL_near rfl rfl (by simp [Value.category]) rfl ⟨Nat.le_refl _, Nat.le_refl _⟩ ?_
    refine s_L_near (by omega) ?_
    dsimp only [xK, xps]
    refine xr_callV (y2 := mX7_read) (As := [_]) (n := 403) dL_reads_400 lm_L_99 pm_X7_read pi_X7_read (by exact Exists.choose_spec hO.z) rfl rfl rfl (by simp [Value.category]) rfl ⟨Nat.le_refl _, Nat.le_refl _⟩ ?_
    refine q_read hO (fun _ => ?_) (fun h9 f hO => ?_) (fun pn hpn h9 hw f hO => ?_)
    · dsimp only [xK, xps]
      refine xr_istore (n := 405) dL_reads_403 rfl rfl ?_
      simp only [xst, Nat.beq, List.filter, Bool.not_true, Bool.not_false]
      refine xr_iload (n := 407) dL_reads_405 rfl rfl ?_
      refine xr_iconst (v := nI 1) (n := 408) dL_reads_407 (by decide) rfl ?_
      refine xr_icmp_eq (tgt := 418) (n := 411) dL_reads_408 (by decide) rfl (fun h408 => by (exfalso; revert h408; decide)) (fun h408 => ?_)
      refine xr_iload (n := 413) dL_reads_411 rfl rfl ?_
      refine xr_bipush (v := nI 120) (n := 415) dL_reads_413 (by decide) rfl ?_
      refine xr_icmp_ne (tgt := 422) (n := 418) dL_reads_415 (by decide) rfl (fun h415 => ?_) (fun h415 => ?_)
      · refine xr_iconst (v := nI 0) (n := 423) dL_reads_422 (by decide) rfl ?_
        refine xr_istore (n := 425) dL_reads_423 rfl rfl ?_
        simp only [xst, Nat.beq, List.filter, Bool.not_true, Bool.not_false]
        refine xr_iload (n := 427) dL_reads_425 rfl rfl ?_
        refine xr_sipush (v := (-1000)) (n := 430) dL_reads_427 (by decide) rfl ?_
        refine xr_icmp_gt (tgt := 450) (n := 433) dL_reads_430 (by decide) rfl (fun h430 => by (exfalso; rw [i_lt, e1000, e10001] at h430; omega)) (fun h430 => ?_)
        refine xr_iload (n := 435) dL_reads_433 rfl rfl ?_
        refine xr_sipush (v := (-1120)) (n := 438) dL_reads_435 (by decide) rfl ?_
        refine xr_icmp_lt (tgt := 450) (n := 441) dL_reads_438 (by decide) rfl (fun h438 => ?_) (fun h438 => by (exfalso; rw [i_lt, e10001, e1120] at h438; omega))
        refine xr_iload (n := 452) dL_reads_450 rfl rfl ?_
        refine xr_if_ge (tgt := 459) (n := 455) dL_reads_452 (by decide) rfl (fun h452 => by (exfalso; rw [i_le, e10001, Int32.toInt_zero] at h452; omega)) (fun h452 => ?_)
        refine xr_iconst (v := (-1)) (n := 456) dL_reads_455 (by decide) rfl ?_
        refine xr_goto (n := 460) dL_reads_456 (by decide) ?_
        refine xr_ireturn dL_reads_460 rfl rfl rfl ?_
        exact hq1 _ _ _ hO
      · refine xr_iconst (v := nI 1) (n := 419) dL_reads_418 (by decide) rfl ?_
        refine xr_goto (n := 423) dL_reads_419 (by decide) ?_
        refine xr_istore (n := 425) dL_reads_423 rfl rfl ?_
        simp only [xst, Nat.beq, List.filter, Bool.not_true, Bool.not_false]
        refine xr_iload (n := 427) dL_reads_425 rfl rfl ?_
        refine xr_sipush (v := (-1000)) (n := 430) dL_reads_427 (by decide) rfl ?_
        refine xr_icmp_gt (tgt := 450) (n := 433) dL_reads_430 (by decide) rfl (fun h430 => by (exfalso; rw [i_lt, e1000, e10001] at h430; omega)) (fun h430 => ?_)
        refine xr_iload (n := 435) dL_reads_433 rfl rfl ?_
        refine xr_sipush (v := (-1120)) (n := 438) dL_reads_435 (by decide) rfl ?_
        refine xr_icmp_lt (tgt := 450) (n := 441) dL_reads_438 (by decide) rfl (fun h438 => ?_) (fun h438 => by (exfalso; rw [i_lt, e10001, e1120] at h438; omega))
        refine xr_iload (n := 452) dL_reads_450 rfl rfl ?_
        refine xr_if_ge (tgt := 459) (n := 455) dL_reads_452 (by decide) rfl (fun h452 => by (exfalso; rw [i_le, e10001, Int32.toInt_zero] at h452; omega)) (fun h452 => ?_)
        refine xr_iconst (v := (-1)) (n := 456) dL_reads_455 (by decide) rfl ?_
        refine xr_goto (n := 460) dL_reads_456 (by decide) ?_
        refine xr_ireturn dL_reads_460 rfl rfl rfl ?_
        exact hq1 _ _ _ hO
    · exact absurd (h9.symm.trans hp) (fun q => Bool.noConfusion q)
    · dsimp only [xK, xps]
      have h60 := hw.1.1
      have em := nt (pAll (oT (oTx o t n)) (oL (oTx o t n))).2.1 (by omega)
      refine xr_istore (n := 405) dL_reads_403 rfl rfl ?_
      simp only [xst, Nat.beq, List.filter, Bool.not_true, Bool.not_false]
      refine xr_iload (n := 407) dL_reads_405 rfl rfl ?_
      refine xr_iconst (v := nI 1) (n := 408) dL_reads_407 (by decide) rfl ?_
      refine xr_icmp_eq (tgt := 418) (n := 411) dL_reads_408 (by decide) rfl (fun h408 => by (exfalso; revert h408; decide)) (fun h408 => ?_)
      refine xr_iload (n := 413) dL_reads_411 rfl rfl ?_
      refine xr_bipush (v := nI 120) (n := 415) dL_reads_413 (by decide) rfl ?_
      refine xr_icmp_ne (tgt := 422) (n := 418) dL_reads_415 (by decide) rfl (fun h415 => ?_) (fun h415 => ?_)
      · refine xr_iconst (v := nI 0) (n := 423) dL_reads_422 (by decide) rfl ?_
        refine xr_istore (n := 425) dL_reads_423 rfl rfl ?_
        simp only [xst, Nat.beq, List.filter, Bool.not_true, Bool.not_false]
        refine xr_iload (n := 427) dL_reads_425 rfl rfl ?_
        refine xr_sipush (v := (-1000)) (n := 430) dL_reads_427 (by decide) rfl ?_
        refine xr_icmp_gt (tgt := 450) (n := 433) dL_reads_430 (by decide) rfl (fun h430 => ?_) (fun h430 => by (exfalso; rw [i_lt, e1000, em] at h430; omega))
        refine xr_iload (n := 452) dL_reads_450 rfl rfl ?_
        refine xr_if_ge (tgt := 459) (n := 455) dL_reads_452 (by decide) rfl (fun h452 => ?_) (fun h452 => by (exfalso; rw [i_le, em, Int32.toInt_zero] at h452; omega))
        refine xr_iconst (v := nI 0) (n := 460) dL_reads_459 (by decide) rfl ?_
        refine xr_ireturn dL_reads_460 rfl rfl rfl ?_
        exact hq _ _ _ _ _ hO
      · refine xr_iconst (v := nI 1) (n := 419) dL_reads_418 (by decide) rfl ?_
        refine xr_goto (n := 423) dL_reads_419 (by decide) ?_
        refine xr_istore (n := 425) dL_reads_423 rfl rfl ?_
        simp only [xst, Nat.beq, List.filter, Bool.not_true, Bool.not_false]
        refine xr_iload (n := 427) dL_reads_425 rfl rfl ?_
        refine xr_sipush (v := (-1000)) (n := 430) dL_reads_427 (by decide) rfl ?_
        refine xr_icmp_gt (tgt := 450) (n := 433) dL_reads_430 (by decide) rfl (fun h430 => ?_) (fun h430 => by (exfalso; rw [i_lt, e1000, em] at h430; omega))
        refine xr_iload (n := 452) dL_reads_450 rfl rfl ?_
        refine xr_if_ge (tgt := 459) (n := 455) dL_reads_452 (by decide) rfl (fun h452 => ?_) (fun h452 => by (exfalso; rw [i_le, em, Int32.toInt_zero] at h452; omega))
        refine xr_iconst (v := nI 0) (n := 460) dL_reads_459 (by decide) rfl ?_
        refine xr_ireturn dL_reads_460 rfl rfl rfl ?_
        exact hq _ _ _ _ _ hO
  have k384_1 : ∀ (v : Int32) (op : Nat) (t : Nat → Int32) (n : Nat) (f : Nat → xC), OI f z (oTx o t n) → ((pAll t n).1 = false ∧ (pAll t n).2.1 ≤ 117) → xX G (d + 9) mL_reads r r (xΦ G r r Q) 384 [(0, .ref z), (1, .int x), (2, .int w0), (3, .int v), (4, .int (nI op)), (5, .int (nI 1)), (6, .int (nI op))] [] (f, r) := by
    intro v op t n f hO hp
    refine xr_aload_n (n := 385) dL_reads_384 rfl rfl ?_
    refine xr_iconst (v := nI 3) (n := 386) dL_reads_385 (by decide) rfl ?_
    refine xr_callV (y2 := mX7_count) (As := [_]) (n := 389) dL_reads_386 lm_L_19 pm_X7_count pi_X7_count (by exact Exists.choose_spec hO.z) rfl rfl rfl (by simp [Value.category]) rfl ⟨Nat.le_refl _, Nat.le_refl _⟩ ?_
    refine q_count hO (by omega) ?_
    dsimp only [xK, xps]
    rw [show cntV (oTx o t n) 3 = n from rfl]
    refine xr_istore (n := 391) dL_reads_389 rfl rfl ?_
    simp only [xst, Nat.beq, List.filter, Bool.not_true, Bool.not_false]
    refine xr_aload_n (n := 392) dL_reads_391 rfl rfl ?_
    refine xr_iload_n (n := 393) dL_reads_392 rfl rfl ?_
    refine xr_bipush (v := nI 9) (n := 395) dL_reads_393 (by decide) rfl ?_
    refine xr_ishr (n := 396) dL_reads_395 rfl ?_
    refine xr_iconst (v := nI 2) (n := 397) dL_reads_396 (by decide) rfl ?_
    refine xr_callS (y2 := mL_near) (As := [_, _]) (n := 400) dL_reads_397 lm_L_96 pm_L_near kp_static_yL_near rfl rfl (by simp [Value.category]) rfl ⟨Nat.le_refl _, Nat.le_refl _⟩ ?_
    refine s_L_near (by omega) ?_
    dsimp only [xK, xps]
    refine xr_callV (y2 := mX7_read) (As := [_]) (n := 403) dL_reads_400 lm_L_99 pm_X7_read pi_X7_read (by exact Exists.choose_spec hO.z) rfl rfl rfl (by simp [Value.category]) rfl ⟨Nat.le_refl _, Nat.le_refl _⟩ ?_
    refine q_read hO (fun _ => ?_) (fun h9 f hO => ?_) (fun pn hpn h9 hw f hO => ?_)
    · dsimp only [xK, xps]
      refine xr_istore (n := 405) dL_reads_403 rfl rfl ?_
      simp only [xst, Nat.beq, List.filter, Bool.not_true, Bool.not_false]
      refine xr_iload (n := 407) dL_reads_405 rfl rfl ?_
      refine xr_iconst (v := nI 1) (n := 408) dL_reads_407 (by decide) rfl ?_
      refine xr_icmp_eq (tgt := 418) (n := 411) dL_reads_408 (by decide) rfl (fun h408 => ?_) (fun h408 => by (exfalso; revert h408; decide))
      refine xr_iconst (v := nI 1) (n := 419) dL_reads_418 (by decide) rfl ?_
      refine xr_goto (n := 423) dL_reads_419 (by decide) ?_
      refine xr_istore (n := 425) dL_reads_423 rfl rfl ?_
      simp only [xst, Nat.beq, List.filter, Bool.not_true, Bool.not_false]
      refine xr_iload (n := 427) dL_reads_425 rfl rfl ?_
      refine xr_sipush (v := (-1000)) (n := 430) dL_reads_427 (by decide) rfl ?_
      refine xr_icmp_gt (tgt := 450) (n := 433) dL_reads_430 (by decide) rfl (fun h430 => by (exfalso; rw [i_lt, e1000, e10001] at h430; omega)) (fun h430 => ?_)
      refine xr_iload (n := 435) dL_reads_433 rfl rfl ?_
      refine xr_sipush (v := (-1120)) (n := 438) dL_reads_435 (by decide) rfl ?_
      refine xr_icmp_lt (tgt := 450) (n := 441) dL_reads_438 (by decide) rfl (fun h438 => ?_) (fun h438 => by (exfalso; rw [i_lt, e10001, e1120] at h438; omega))
      refine xr_iload (n := 452) dL_reads_450 rfl rfl ?_
      refine xr_if_ge (tgt := 459) (n := 455) dL_reads_452 (by decide) rfl (fun h452 => by (exfalso; rw [i_le, e10001, Int32.toInt_zero] at h452; omega)) (fun h452 => ?_)
      refine xr_iconst (v := (-1)) (n := 456) dL_reads_455 (by decide) rfl ?_
      refine xr_goto (n := 460) dL_reads_456 (by decide) ?_
      refine xr_ireturn dL_reads_460 rfl rfl rfl ?_
      exact hq1 _ _ _ hO
    · dsimp only [xK, xps]
      have em : ((-1000) - nI (pAll (oT (oTx o t n)) (oL (oTx o t n))).2.1).toInt = -1000 - (((pAll (oT (oTx o t n)) (oL (oTx o t n))).2.1 : Nat) : Int) := by
        have h8 : (pAll (oT (oTx o t n)) (oL (oTx o t n))).2.1 ≤ 117 := hp.2
        rw [i_sub (by rw [e1000, nt _ (by omega)]; omega) (by rw [e1000, nt _ (by omega)]; omega), e1000, nt _ (by omega)]
      have h8 : (pAll (oT (oTx o t n)) (oL (oTx o t n))).2.1 ≤ 117 := hp.2
      refine xr_istore (n := 405) dL_reads_403 rfl rfl ?_
      simp only [xst, Nat.beq, List.filter, Bool.not_true, Bool.not_false]
      refine xr_iload (n := 407) dL_reads_405 rfl rfl ?_
      refine xr_iconst (v := nI 1) (n := 408) dL_reads_407 (by decide) rfl ?_
      refine xr_icmp_eq (tgt := 418) (n := 411) dL_reads_408 (by decide) rfl (fun h408 => ?_) (fun h408 => by (exfalso; revert h408; decide))
      refine xr_iconst (v := nI 1) (n := 419) dL_reads_418 (by decide) rfl ?_
      refine xr_goto (n := 423) dL_reads_419 (by decide) ?_
      refine xr_istore (n := 425) dL_reads_423 rfl rfl ?_
      simp only [xst, Nat.beq, List.filter, Bool.not_true, Bool.not_false]
      refine xr_iload (n := 427) dL_reads_425 rfl rfl ?_
      refine xr_sipush (v := (-1000)) (n := 430) dL_reads_427 (by decide) rfl ?_
      refine xr_icmp_gt (tgt := 450) (n := 433) dL_reads_430 (by decide) rfl (fun h430 => by (exfalso; rw [i_lt, e1000, em] at h430; omega)) (fun h430 => ?_)
      refine xr_iload (n := 435) dL_reads_433 rfl rfl ?_
      refine xr_sipush (v := (-1120)) (n := 438) dL_reads_435 (by decide) rfl ?_
      refine xr_icmp_lt (tgt := 450) (n := 441) dL_reads_438 (by decide) rfl (fun h438 => by (exfalso; rw [i_lt, em, e1120] at h438; omega)) (fun h438 => ?_)
      refine xr_iload (n := 443) dL_reads_441 rfl rfl ?_
      refine xr_if_ne (tgt := 450) (n := 446) dL_reads_443 (by decide) rfl (fun h443 => ?_) (fun h443 => by (exfalso; revert h443; decide))
      refine xr_iload (n := 452) dL_reads_450 rfl rfl ?_
      refine xr_if_ge (tgt := 459) (n := 455) dL_reads_452 (by decide) rfl (fun h452 => by (exfalso; rw [i_le, em, Int32.toInt_zero] at h452; omega)) (fun h452 => ?_)
      refine xr_iconst (v := (-1)) (n := 456) dL_reads_455 (by decide) rfl ?_
      refine xr_goto (n := 460) dL_reads_456 (by decide) ?_
      refine xr_ireturn dL_reads_460 rfl rfl rfl ?_
      exact hq1 _ _ _ hO
    · exact absurd (h9.symm.trans hp.1) (fun q => Bool.noConfusion q)
  refine xr_aload_n (n := 1) dL_reads_0 rfl rfl ?_
  refine xr_callV (y2 := mX7_clearText) (As := []) (n := 4) dL_reads_1 lm_L_87 pm_X7_clearText pi_X7_clearText (by exact Exists.choose_spec hO.z) rfl rfl rfl (by simp [Value.category]) rfl ⟨Nat.le_refl _, Nat.le_refl _⟩ ?_
  refine q_clearText hO (fun f hO => ?_)
  dsimp only [xK, xps]
  refine xr_pop (n := 5) dL_reads_4 rfl rfl ?_
  refine xr_iload_n (n := 6) dL_reads_5 rfl rfl ?_
  refine xq_istore_n 3 (n := 7) dL_reads_6 rfl rfl rfl ?_
  simp only [xst, Nat.beq, List.filter, Bool.not_true, Bool.not_false]
  refine xr_iconst (v := nI 0) (n := 8) dL_reads_7 (by decide) rfl ?_
  refine xr_istore (n := 10) dL_reads_8 rfl rfl ?_
  simp only [xst, Nat.beq, List.filter, Bool.not_true, Bool.not_false]
  refine xr_iconst (v := nI 0) (n := 11) dL_reads_10 (by decide) rfl ?_
  refine xr_istore (n := 13) dL_reads_11 rfl rfl ?_
  simp only [xst, Nat.beq, List.filter, Bool.not_true, Bool.not_false]
  refine xr_iconst (v := nI 0) (n := 14) dL_reads_13 (by decide) rfl ?_
  refine xr_istore (n := 16) dL_reads_14 rfl rfl ?_
  simp only [xst, Nat.beq, List.filter, Bool.not_true, Bool.not_false]
  have keyj : ∀ j, j ≤ 2 + lo w0 8 → ∀ (t : Nat → Int32) (n g k op : Nat) (v : Int32) (f : Nat → xC), OI f z (oTx o t n) → Rd t n g k op → op ≤ 4 → n ≤ 9 * j → k ≤ 2 * j → 121 ≤ g + n → xX G (d + 9) mL_reads r r (xΦ G r r Q) 16 [(0, .ref z), (1, .int x), (2, .int w0), (3, .int v), (4, .int (nI op)), (5, .int (nI 0)), (6, .int (nI j))] [] (f, r) := by
    refine nat_down (P := fun j => ∀ (t : Nat → Int32) (n g k op : Nat) (v : Int32) (f : Nat → xC), OI f z (oTx o t n) → Rd t n g k op → op ≤ 4 → n ≤ 9 * j → k ≤ 2 * j → 121 ≤ g + n → xX G (d + 9) mL_reads r r (xΦ G r r Q) 16 [(0, .ref z), (1, .int x), (2, .int w0), (3, .int v), (4, .int (nI op)), (5, .int (nI 0)), (6, .int (nI j))] [] (f, r)) (N := 2 + lo w0 8) ?_ ?_
    · intro t n g k op v f hO hR hop4 hn hk hg
      refine xr_iload (n := 18) dL_reads_16 rfl rfl ?_
      refine xr_iconst (v := nI 2) (n := 19) dL_reads_18 (by decide) rfl ?_
      refine xr_iload_n (n := 20) dL_reads_19 rfl rfl ?_
      refine xr_bipush (v := nI 8) (n := 22) dL_reads_20 (by decide) rfl ?_
      refine xr_callS (y2 := mL_low) (As := [_, _]) (n := 25) dL_reads_22 lm_L_9 pm_L_low kp_static_yL_low rfl rfl (by simp [Value.category]) rfl ⟨Nat.le_refl _, Nat.le_refl _⟩ ?_
      refine s_L_low (by omega) (by omega) ?_
      dsimp only [xK, xps]
      refine xr_iadd (n := 26) dL_reads_25 rfl ?_
      (first | (simp (disch := omega) only [nI_clamp, pk_mul, nI_add, oi1, Nat.reduceMul, Nat.reduceAdd, Nat.add_zero]) | skip)
      refine xr_icmp_ge (tgt := 328) (n := 29) dL_reads_26 (by decide) rfl (fun h26 => ?_) (fun h26 => by (exfalso; ((try simp (disch := omega) only [i_lt, i_le, i_eq, nt, i_m1, Int32.toInt_zero] at *); omega)))
      refine xr_iconst (v := nI 0) (n := 329) dL_reads_328 (by decide) rfl ?_
      refine xr_istore (n := 331) dL_reads_329 rfl rfl ?_
      simp only [xst, Nat.beq, List.filter, Bool.not_true, Bool.not_false]
      have keyi : ∀ i, i ≤ op → ∀ (t : Nat → Int32) (n g : Nat) (f : Nat → xC), OI f z (oTx o t n) → Rd t n g k (op - i) → n ≤ 81 + 3 * i → 121 ≤ g + n → xX G (d + 9) mL_reads r r (xΦ G r r Q) 331 [(0, .ref z), (1, .int x), (2, .int w0), (3, .int v), (4, .int (nI op)), (5, .int (nI 0)), (6, .int (nI i))] [] (f, r) := by
        refine nat_down (P := fun i => ∀ (t : Nat → Int32) (n g : Nat) (f : Nat → xC), OI f z (oTx o t n) → Rd t n g k (op - i) → n ≤ 81 + 3 * i → 121 ≤ g + n → xX G (d + 9) mL_reads r r (xΦ G r r Q) 331 [(0, .ref z), (1, .int x), (2, .int w0), (3, .int v), (4, .int (nI op)), (5, .int (nI 0)), (6, .int (nI i))] [] (f, r)) (N := op) ?_ ?_
        · intro t n g f hO hR hn hg
          rw [Nat.sub_self] at hR
          refine xr_iload (n := 333) dL_reads_331 rfl rfl ?_
          refine xr_iload (n := 335) dL_reads_333 rfl rfl ?_
          refine xr_icmp_ge (tgt := 357) (n := 338) dL_reads_335 (by decide) rfl (fun h335 => ?_) (fun h335 => by (exfalso; ((try simp (disch := omega) only [i_lt, i_le, i_eq, nt, i_m1, Int32.toInt_zero] at *); omega)))
          refine xr_iload_n (n := 358) dL_reads_357 rfl rfl ?_
          refine xr_iconst (v := nI 5) (n := 359) dL_reads_358 (by decide) rfl ?_
          refine xr_ishr (n := 360) dL_reads_359 rfl ?_
          refine xr_bipush (v := nI 9) (n := 362) dL_reads_360 (by decide) rfl ?_
          refine xr_callS (y2 := mL_low) (As := [_, _]) (n := 365) dL_reads_362 lm_L_9 pm_L_low kp_static_yL_low rfl rfl (by simp [Value.category]) rfl ⟨Nat.le_refl _, Nat.le_refl _⟩ ?_
          refine s_L_low (by omega) (by omega) ?_
          dsimp only [xK, xps]
          refine xr_if_ne (tgt := 384) (n := 368) dL_reads_365 (by decide) rfl (fun h365 => ?_) (fun h365 => ?_)
          · obtain ⟨g1, rfl⟩ : ∃ q, g = q + 1 := ⟨g - 1, by omega⟩
            exact k384_0 v op t n f hO (Rd_end hR (by omega))
          · refine xr_aload_n (n := 369) dL_reads_368 rfl rfl ?_
            refine xr_bipush (v := nI 93) (n := 371) dL_reads_369 (by decide) rfl ?_
            refine xr_bipush (v := nI 32) (n := 373) dL_reads_371 (by decide) rfl ?_
            refine xr_bipush (v := nI 32) (n := 375) dL_reads_373 (by decide) rfl ?_
            refine xr_iconst (v := nI 0) (n := 376) dL_reads_375 (by decide) rfl ?_
            refine xr_iconst (v := nI 0) (n := 377) dL_reads_376 (by decide) rfl ?_
            refine xr_iconst (v := nI 0) (n := 378) dL_reads_377 (by decide) rfl ?_
            refine xr_callS (y2 := mL_types) (As := [_, _, _, _, _, _, _]) (n := 381) dL_reads_378 lm_L_92 pm_L_types kp_static_yL_types rfl rfl (by simp [Value.category]) rfl ⟨Nat.le_refl _, Nat.le_refl _⟩ ?_
            refine ty3 hO (by omega) (by omega) (fun f T hO hT t0 t1 t2 => ?_)
            dsimp only [xK, xps]
            refine xr_iconst (v := nI 1) (n := 382) dL_reads_381 (by decide) rfl ?_
            refine xr_istore (n := 384) dL_reads_382 rfl rfl ?_
            simp only [xst, Nat.beq, List.filter, Bool.not_true, Bool.not_false]
            obtain ⟨g1, rfl⟩ : ∃ q, g = q + 1 := ⟨g - 1, by omega⟩
            have h9 := Rd_no hR hT t0 (n := n + 3) (by omega) (by omega)
            exact k384_1 v op T (n + 3) f hO ⟨h9.1, by rw [h9.2]; omega⟩
        · intro i hki ihi t n g f hO hR hn hg
          refine xr_iload (n := 333) dL_reads_331 rfl rfl ?_
          refine xr_iload (n := 335) dL_reads_333 rfl rfl ?_
          refine xr_icmp_ge (tgt := 357) (n := 338) dL_reads_335 (by decide) rfl (fun h335 => by (exfalso; ((try simp (disch := omega) only [i_lt, i_le, i_eq, nt, i_m1, Int32.toInt_zero] at *); omega))) (fun h335 => ?_)
          refine xr_aload_n (n := 339) dL_reads_338 rfl rfl ?_
          refine xr_bipush (v := nI 93) (n := 341) dL_reads_339 (by decide) rfl ?_
          refine xr_bipush (v := nI 32) (n := 343) dL_reads_341 (by decide) rfl ?_
          refine xr_bipush (v := nI 32) (n := 345) dL_reads_343 (by decide) rfl ?_
          refine xr_iconst (v := nI 0) (n := 346) dL_reads_345 (by decide) rfl ?_
          refine xr_iconst (v := nI 0) (n := 347) dL_reads_346 (by decide) rfl ?_
          refine xr_iconst (v := nI 0) (n := 348) dL_reads_347 (by decide) rfl ?_
          refine xr_callS (y2 := mL_types) (As := [_, _, _, _, _, _, _]) (n := 351) dL_reads_348 lm_L_92 pm_L_types kp_static_yL_types rfl rfl (by simp [Value.category]) rfl ⟨Nat.le_refl _, Nat.le_refl _⟩ ?_
          refine ty3 hO (by omega) (by omega) (fun f T hO hT t0 t1 t2 => ?_)
          dsimp only [xK, xps]
          refine xr_iinc (n := 354) dL_reads_351 rfl rfl (rfl) rfl ?_
          simp only [xst, Nat.beq, List.filter, Bool.not_true, Bool.not_false]
          (first | (simp (disch := omega) only [nI_clamp, pk_mul, nI_add, oi1, Nat.reduceMul, Nat.reduceAdd, Nat.add_zero]) | skip)
          refine xr_goto (n := 331) dL_reads_354 (by decide) ?_
          obtain ⟨g1, rfl⟩ : ∃ q, g = q + 3 := ⟨g - 3, by omega⟩
          rw [show op - i = (op - (i + 1)) + 1 from by omega] at hR
          exact ihi T (n + 3) (g1 + 2) f hO (Rd_sp (t := T) (g := g1 + 1) (Rd_sp (t := T) (g := g1 + 1) (Rd_cl (g := g1 + 2) hR hT t0) (fun _ _ => rfl) t1) (fun _ _ => rfl) t2) (by omega) (by omega)
      exact keyi 0 (by omega) t n g f hO hR (by omega) hg
    · intro j hkj ihj t n g k op v f hO hR hop4 hn hk hg
      obtain ⟨g4, rfl⟩ : ∃ q, g = q + 4 := ⟨g - 4, by omega⟩
      refine xr_iload (n := 18) dL_reads_16 rfl rfl ?_
      refine xr_iconst (v := nI 2) (n := 19) dL_reads_18 (by decide) rfl ?_
      refine xr_iload_n (n := 20) dL_reads_19 rfl rfl ?_
      refine xr_bipush (v := nI 8) (n := 22) dL_reads_20 (by decide) rfl ?_
      refine xr_callS (y2 := mL_low) (As := [_, _]) (n := 25) dL_reads_22 lm_L_9 pm_L_low kp_static_yL_low rfl rfl (by simp [Value.category]) rfl ⟨Nat.le_refl _, Nat.le_refl _⟩ ?_
      refine s_L_low (by omega) (by omega) ?_
      dsimp only [xK, xps]
      refine xr_iadd (n := 26) dL_reads_25 rfl ?_
      (first | (simp (disch := omega) only [nI_clamp, pk_mul, nI_add, oi1, Nat.reduceMul, Nat.reduceAdd, Nat.add_zero]) | skip)
      refine xr_icmp_ge (tgt := 328) (n := 29) dL_reads_26 (by decide) rfl (fun h26 => by (exfalso; ((try simp (disch := omega) only [i_lt, i_le, i_eq, nt, i_m1, Int32.toInt_zero] at *); omega))) (fun h26 => ?_)
      refine xr_ldc (v := 1103515245) (n := 31) dL_reads_29 kk_L_91 rfl ?_
      refine xr_iload_n (n := 32) dL_reads_31 rfl rfl ?_
      refine xr_imul (n := 33) dL_reads_32 rfl ?_
      refine xr_sipush (v := nI 12345) (n := 36) dL_reads_33 (by decide) rfl ?_
      refine xr_iadd (n := 37) dL_reads_36 rfl ?_
      refine xq_istore_n 3 (n := 38) dL_reads_37 rfl rfl rfl ?_
      simp only [xst, Nat.beq, List.filter, Bool.not_true, Bool.not_false]
      generalize (1103515245 : Int32) * v + nI 12345 = w
      refine xr_bipush (v := nI 97) (n := 40) dL_reads_38 (by decide) rfl ?_
      refine xr_iload_n (n := 41) dL_reads_40 rfl rfl ?_
      refine xr_bipush (v := nI 9) (n := 43) dL_reads_41 (by decide) rfl ?_
      refine xr_ishr (n := 44) dL_reads_43 rfl ?_
      refine xr_bipush (v := nI 6) (n := 46) dL_reads_44 (by decide) rfl ?_
      refine xr_callS (y2 := mL_low) (As := [_, _]) (n := 49) dL_reads_46 lm_L_9 pm_L_low kp_static_yL_low rfl rfl (by simp [Value.category]) rfl ⟨Nat.le_refl _, Nat.le_refl _⟩ ?_
      refine s_L_low (by omega) (by omega) ?_
      dsimp only [xK, xps]
      refine xr_iadd (n := 50) dL_reads_49 rfl ?_
      (first | (simp (disch := omega) only [nI_clamp, pk_mul, nI_add, oi1, Nat.reduceMul, Nat.reduceAdd, Nat.add_zero]) | skip)
      refine xr_istore (n := 52) dL_reads_50 rfl rfl ?_
      simp only [xst, Nat.beq, List.filter, Bool.not_true, Bool.not_false]
      have hq9 := lo_lt (w >>> (nI 9 &&& 31)) (n := 6) (by omega)
      generalize he9 : 97 + lo (w >>> (nI 9 &&& 31)) 6 = c
      have hc1 : 97 ≤ c ∧ c ≤ 102 := by omega
      clear he9 hq9
      refine xr_bipush (v := nI 97) (n := 54) dL_reads_52 (by decide) rfl ?_
      refine xr_iload_n (n := 55) dL_reads_54 rfl rfl ?_
      refine xr_bipush (v := nI 15) (n := 57) dL_reads_55 (by decide) rfl ?_
      refine xr_ishr (n := 58) dL_reads_57 rfl ?_
      refine xr_bipush (v := nI 6) (n := 60) dL_reads_58 (by decide) rfl ?_
      refine xr_callS (y2 := mL_low) (As := [_, _]) (n := 63) dL_reads_60 lm_L_9 pm_L_low kp_static_yL_low rfl rfl (by simp [Value.category]) rfl ⟨Nat.le_refl _, Nat.le_refl _⟩ ?_
      refine s_L_low (by omega) (by omega) ?_
      dsimp only [xK, xps]
      refine xr_iadd (n := 64) dL_reads_63 rfl ?_
      (first | (simp (disch := omega) only [nI_clamp, pk_mul, nI_add, oi1, Nat.reduceMul, Nat.reduceAdd, Nat.add_zero]) | skip)
      refine xr_istore (n := 66) dL_reads_64 rfl rfl ?_
      simp only [xst, Nat.beq, List.filter, Bool.not_true, Bool.not_false]
      have hq9 := lo_lt (w >>> (nI 15 &&& 31)) (n := 6) (by omega)
      generalize he9 : 97 + lo (w >>> (nI 15 &&& 31)) 6 = b
      have hb1 : 97 ≤ b ∧ b ≤ 102 := by omega
      clear he9 hq9
      refine xr_iload_n (n := 67) dL_reads_66 rfl rfl ?_
      refine xr_bipush (v := nI 20) (n := 69) dL_reads_67 (by decide) rfl ?_
      refine xr_ishr (n := 70) dL_reads_69 rfl ?_
      refine xr_bipush (v := nI 8) (n := 72) dL_reads_70 (by decide) rfl ?_
      refine xr_callS (y2 := mL_low) (As := [_, _]) (n := 75) dL_reads_72 lm_L_9 pm_L_low kp_static_yL_low rfl rfl (by simp [Value.category]) rfl ⟨Nat.le_refl _, Nat.le_refl _⟩ ?_
      refine s_L_low (by omega) (by omega) ?_
      dsimp only [xK, xps]
      have hx8 := lo_lt (w >>> (nI 20 &&& 31)) (n := 8) (by omega)
      have hd3 := lo_lt (w >>> (nI 3 &&& 31)) (n := 10) (by omega)
      have hd0 := lo_lt w (n := 10) (by omega)
      rcases (show (nI (lo (w >>> (nI 20 &&& 31)) 8)).toInt < 0 ∨ 6 < (nI (lo (w >>> (nI 20 &&& 31)) 8)).toInt ∨ (nI (lo (w >>> (nI 20 &&& 31)) 8)).toInt = 0 ∨ (nI (lo (w >>> (nI 20 &&& 31)) 8)).toInt = 1 ∨ (nI (lo (w >>> (nI 20 &&& 31)) 8)).toInt = 2 ∨ (nI (lo (w >>> (nI 20 &&& 31)) 8)).toInt = 3 ∨ (nI (lo (w >>> (nI 20 &&& 31)) 8)).toInt = 4 ∨ (nI (lo (w >>> (nI 20 &&& 31)) 8)).toInt = 5 ∨ (nI (lo (w >>> (nI 20 &&& 31)) 8)).toInt = 6 by omega) with hx | hx | hx | hx | hx | hx | hx | hx | hx
      · refine xr_tableOut (n := 269) dL_reads_75 (Or.inl hx) (by decide) ?_
        have e9 := nt (lo (w >>> (nI 20 &&& 31)) 8) (by omega)
        exact absurd hx (by omega)
      · refine xr_tableOut (n := 269) dL_reads_75 (Or.inr hx) (by decide) ?_
        refine xr_iload (n := 271) dL_reads_269 rfl rfl ?_
        refine xr_if_le (tgt := 293) (n := 274) dL_reads_271 (by decide) rfl (fun h271 => ?_) (fun h271 => ?_)
        · refine xr_aload_n (n := 294) dL_reads_293 rfl rfl ?_
          refine xr_bipush (v := nI 63) (n := 296) dL_reads_294 (by decide) rfl ?_
          refine xr_iload (n := 298) dL_reads_296 rfl rfl ?_
          refine xr_bipush (v := nI 33) (n := 300) dL_reads_298 (by decide) rfl ?_
          refine xr_iload (n := 302) dL_reads_300 rfl rfl ?_
          refine xr_bipush (v := nI 59) (n := 304) dL_reads_302 (by decide) rfl ?_
          refine xr_bipush (v := nI 58) (n := 306) dL_reads_304 (by decide) rfl ?_
          refine xr_callS (y2 := mL_types) (As := [_, _, _, _, _, _, _]) (n := 309) dL_reads_306 lm_L_92 pm_L_types kp_static_yL_types rfl rfl (by simp [Value.category]) rfl ⟨Nat.le_refl _, Nat.le_refl _⟩ ?_
          refine ty6 hO (by omega) (by omega) (fun f T hO hT t0 t1 t2 t3 t4 t5 => ?_)
          dsimp only [xK, xps]
          refine xr_aload_n (n := 310) dL_reads_309 rfl rfl ?_
          refine xr_bipush (v := nI 46) (n := 312) dL_reads_310 (by decide) rfl ?_
          refine xr_bipush (v := nI 32) (n := 314) dL_reads_312 (by decide) rfl ?_
          refine xr_bipush (v := nI 32) (n := 316) dL_reads_314 (by decide) rfl ?_
          refine xr_iconst (v := nI 0) (n := 317) dL_reads_316 (by decide) rfl ?_
          refine xr_iconst (v := nI 0) (n := 318) dL_reads_317 (by decide) rfl ?_
          refine xr_iconst (v := nI 0) (n := 319) dL_reads_318 (by decide) rfl ?_
          refine xr_callS (y2 := mL_types) (As := [_, _, _, _, _, _, _]) (n := 322) dL_reads_319 lm_L_92 pm_L_types kp_static_yL_types rfl rfl (by simp [Value.category]) rfl ⟨Nat.le_refl _, Nat.le_refl _⟩ ?_
          refine ty3 hO (by omega) (by omega) (fun f S hO hS s0 s1 s2 => ?_)
          dsimp only [xK, xps]
          refine xr_iinc (n := 325) dL_reads_322 rfl rfl (rfl) rfl ?_
          simp only [xst, Nat.beq, List.filter, Bool.not_true, Bool.not_false]
          (first | (simp (disch := omega) only [nI_clamp, pk_mul, nI_add, oi1, Nat.reduceMul, Nat.reduceAdd, Nat.add_zero]) | skip)
          refine xr_goto (n := 16) dL_reads_325 (by decide) ?_
          refine xX.drop 8 ?_
          simp only [List.filter, Nat.beq, Bool.not_true, Bool.not_false]
          refine xX.drop 7 ?_
          simp only [List.filter, Nat.beq, Bool.not_true, Bool.not_false]
          have e0 : op = 0 := by ((try simp (disch := omega) only [i_lt, i_le, i_eq, nt, i_m1, Int32.toInt_zero] at *); omega)
          have r1 : Rd S (n + 7) g4 (k + 2) op := Rd_if (g := g4) hR (fun i hi => (hS i (by omega)).trans (hT i hi)) ((hS _ (by omega)).trans t0) ((hS _ (by omega)).trans t1) hc1 ((hS _ (by omega)).trans t2) ((hS _ (by omega)).trans t3) hb1 ((hS _ (by omega)).trans t4) ((hS _ (by omega)).trans t5) s0 (by omega) (by omega)
          obtain ⟨g5, rfl⟩ : ∃ q, g4 = q + 1 := ⟨g4 - 1, by omega⟩
          exact ihj S (n + 6 + 3) (g5 + 1) (k + 2) op w f hO (Rd_sp (t := S) (g := g5) (Rd_sp (t := S) (g := g5) r1 (fun _ _ => rfl) s1) (fun _ _ => rfl) s2) (by omega) (by omega) (by omega) (by omega)
        · have hop : 0 < op := by (rw [i_le, nt _ (by omega), Int32.toInt_zero] at h271; omega)
          obtain ⟨op1, rfl⟩ : ∃ q, op = q + 1 := ⟨op - 1, by omega⟩
          refine xr_aload_n (n := 275) dL_reads_274 rfl rfl ?_
          refine xr_bipush (v := nI 32) (n := 277) dL_reads_275 (by decide) rfl ?_
          refine xr_bipush (v := nI 93) (n := 279) dL_reads_277 (by decide) rfl ?_
          refine xr_bipush (v := nI 32) (n := 281) dL_reads_279 (by decide) rfl ?_
          refine xr_iconst (v := nI 0) (n := 282) dL_reads_281 (by decide) rfl ?_
          refine xr_iconst (v := nI 0) (n := 283) dL_reads_282 (by decide) rfl ?_
          refine xr_iconst (v := nI 0) (n := 284) dL_reads_283 (by decide) rfl ?_
          refine xr_callS (y2 := mL_types) (As := [_, _, _, _, _, _, _]) (n := 287) dL_reads_284 lm_L_92 pm_L_types kp_static_yL_types rfl rfl (by simp [Value.category]) rfl ⟨Nat.le_refl _, Nat.le_refl _⟩ ?_
          refine ty3 hO (by omega) (by omega) (fun f T hO hT t0 t1 t2 => ?_)
          dsimp only [xK, xps]
          refine xr_iinc (n := 290) dL_reads_287 rfl rfl (pk_m1 _) rfl ?_
          simp only [xst, Nat.beq, List.filter, Bool.not_true, Bool.not_false]
          refine xr_goto (n := 322) dL_reads_290 (by decide) ?_
          refine xr_iinc (n := 325) dL_reads_322 rfl rfl (rfl) rfl ?_
          simp only [xst, Nat.beq, List.filter, Bool.not_true, Bool.not_false]
          (first | (simp (disch := omega) only [nI_clamp, pk_mul, nI_add, oi1, Nat.reduceMul, Nat.reduceAdd, Nat.add_zero]) | skip)
          refine xr_goto (n := 16) dL_reads_325 (by decide) ?_
          refine xX.drop 8 ?_
          simp only [List.filter, Nat.beq, Bool.not_true, Bool.not_false]
          refine xX.drop 7 ?_
          simp only [List.filter, Nat.beq, Bool.not_true, Bool.not_false]
          exact ihj T (n + 3) (g4 + 3) k op1 w f hO (Rd_sp (t := T) (g := g4 + 2) (Rd_cl (t := T) (g := g4 + 3) (Rd_sp (g := g4 + 3) hR hT t0) (fun _ _ => rfl) t1) (fun _ _ => rfl) t2) (by omega) (by omega) (by omega) (by omega)
      · refine xr_tableIn (n := 116) (off := 41) dL_reads_75 (by omega) (by omega) (by rw [hx]; rfl) (by decide) ?_
        refine xr_aload_n (n := 117) dL_reads_116 rfl rfl ?_
        refine xr_iload (n := 119) dL_reads_117 rfl rfl ?_
        refine xr_bipush (v := nI 61) (n := 121) dL_reads_119 (by decide) rfl ?_
        refine xr_iload (n := 123) dL_reads_121 rfl rfl ?_
        refine xr_iload_n (n := 124) dL_reads_123 rfl rfl ?_
        refine xr_iconst (v := nI 3) (n := 125) dL_reads_124 (by decide) rfl ?_
        refine xr_callS (y2 := mL_low) (As := [_, _]) (n := 128) dL_reads_125 lm_L_9 pm_L_low kp_static_yL_low rfl rfl (by simp [Value.category]) rfl ⟨Nat.le_refl _, Nat.le_refl _⟩ ?_
        refine s_L_low (by omega) (by omega) ?_
        dsimp only [xK, xps]
        refine xr_if_ne (tgt := 136) (n := 131) dL_reads_128 (by decide) rfl (fun h128 => ?_) (fun h128 => ?_)
        · refine xr_iload_n (n := 137) dL_reads_136 rfl rfl ?_
          refine xr_iconst (v := nI 3) (n := 138) dL_reads_137 (by decide) rfl ?_
          refine xr_callS (y2 := mL_low) (As := [_, _]) (n := 141) dL_reads_138 lm_L_9 pm_L_low kp_static_yL_low rfl rfl (by simp [Value.category]) rfl ⟨Nat.le_refl _, Nat.le_refl _⟩ ?_
          refine s_L_low (by omega) (by omega) ?_
          dsimp only [xK, xps]
          refine xr_iconst (v := nI 1) (n := 142) dL_reads_141 (by decide) rfl ?_
          refine xr_icmp_ne (tgt := 150) (n := 145) dL_reads_142 (by decide) rfl (fun h142 => ?_) (fun h142 => ?_)
          · refine xr_bipush (v := nI 45) (n := 152) dL_reads_150 (by decide) rfl ?_
            refine xr_bipush (v := nI 48) (n := 154) dL_reads_152 (by decide) rfl ?_
            refine xr_iload_n (n := 155) dL_reads_154 rfl rfl ?_
            refine xr_iconst (v := nI 3) (n := 156) dL_reads_155 (by decide) rfl ?_
            refine xr_ishr (n := 157) dL_reads_156 rfl ?_
            refine xr_bipush (v := nI 10) (n := 159) dL_reads_157 (by decide) rfl ?_
            refine xr_callS (y2 := mL_low) (As := [_, _]) (n := 162) dL_reads_159 lm_L_9 pm_L_low kp_static_yL_low rfl rfl (by simp [Value.category]) rfl ⟨Nat.le_refl _, Nat.le_refl _⟩ ?_
            refine s_L_low (by omega) (by omega) ?_
            dsimp only [xK, xps]
            refine xr_iadd (n := 163) dL_reads_162 rfl ?_
            (first | (simp (disch := omega) only [nI_clamp, pk_mul, nI_add, oi1, Nat.reduceMul, Nat.reduceAdd, Nat.add_zero]) | skip)
            refine xr_bipush (v := nI 59) (n := 165) dL_reads_163 (by decide) rfl ?_
            refine xr_callS (y2 := mL_types) (As := [_, _, _, _, _, _, _]) (n := 168) dL_reads_165 lm_L_92 pm_L_types kp_static_yL_types rfl rfl (by simp [Value.category]) rfl ⟨Nat.le_refl _, Nat.le_refl _⟩ ?_
            refine ty6 hO (by omega) (by omega) (fun f T hO hT t0 t1 t2 t3 t4 t5 => ?_)
            dsimp only [xK, xps]
            refine xr_goto (n := 322) dL_reads_168 (by decide) ?_
            refine xr_iinc (n := 325) dL_reads_322 rfl rfl (rfl) rfl ?_
            simp only [xst, Nat.beq, List.filter, Bool.not_true, Bool.not_false]
            (first | (simp (disch := omega) only [nI_clamp, pk_mul, nI_add, oi1, Nat.reduceMul, Nat.reduceAdd, Nat.add_zero]) | skip)
            refine xr_goto (n := 16) dL_reads_325 (by decide) ?_
            refine xX.drop 8 ?_
            simp only [List.filter, Nat.beq, Bool.not_true, Bool.not_false]
            refine xX.drop 7 ?_
            simp only [List.filter, Nat.beq, Bool.not_true, Bool.not_false]
            exact ihj T (n + 6) (g4 + 3) (k + 1) op w f hO (Rd_st (g := g4 + 3) (c := c) (kd := 0) (e := n + 6) hR hT (by omega) t0 (by omega) (by omega) (kd_l hc1) (by omega) (by omega) (fun T2 n2 h9 h10 => st_op h10 ((h9 _ (by omega)).trans t0) hc1 ((h9 _ (by omega)).trans t1) ((h9 _ (by omega)).trans t2) hb1 ((h9 _ (by omega)).trans t3) (by omega) ((h9 _ (by omega)).trans t4) (by omega) ((h9 _ (by omega)).trans t5))) (by omega) (by omega) (by omega) (by omega)
          · refine xr_bipush (v := nI 43) (n := 147) dL_reads_145 (by decide) rfl ?_
            refine xr_goto (n := 152) dL_reads_147 (by decide) ?_
            refine xr_bipush (v := nI 48) (n := 154) dL_reads_152 (by decide) rfl ?_
            refine xr_iload_n (n := 155) dL_reads_154 rfl rfl ?_
            refine xr_iconst (v := nI 3) (n := 156) dL_reads_155 (by decide) rfl ?_
            refine xr_ishr (n := 157) dL_reads_156 rfl ?_
            refine xr_bipush (v := nI 10) (n := 159) dL_reads_157 (by decide) rfl ?_
            refine xr_callS (y2 := mL_low) (As := [_, _]) (n := 162) dL_reads_159 lm_L_9 pm_L_low kp_static_yL_low rfl rfl (by simp [Value.category]) rfl ⟨Nat.le_refl _, Nat.le_refl _⟩ ?_
            refine s_L_low (by omega) (by omega) ?_
            dsimp only [xK, xps]
            refine xr_iadd (n := 163) dL_reads_162 rfl ?_
            (first | (simp (disch := omega) only [nI_clamp, pk_mul, nI_add, oi1, Nat.reduceMul, Nat.reduceAdd, Nat.add_zero]) | skip)
            refine xr_bipush (v := nI 59) (n := 165) dL_reads_163 (by decide) rfl ?_
            refine xr_callS (y2 := mL_types) (As := [_, _, _, _, _, _, _]) (n := 168) dL_reads_165 lm_L_92 pm_L_types kp_static_yL_types rfl rfl (by simp [Value.category]) rfl ⟨Nat.le_refl _, Nat.le_refl _⟩ ?_
            refine ty6 hO (by omega) (by omega) (fun f T hO hT t0 t1 t2 t3 t4 t5 => ?_)
            dsimp only [xK, xps]
            refine xr_goto (n := 322) dL_reads_168 (by decide) ?_
            refine xr_iinc (n := 325) dL_reads_322 rfl rfl (rfl) rfl ?_
            simp only [xst, Nat.beq, List.filter, Bool.not_true, Bool.not_false]
            (first | (simp (disch := omega) only [nI_clamp, pk_mul, nI_add, oi1, Nat.reduceMul, Nat.reduceAdd, Nat.add_zero]) | skip)
            refine xr_goto (n := 16) dL_reads_325 (by decide) ?_
            refine xX.drop 8 ?_
            simp only [List.filter, Nat.beq, Bool.not_true, Bool.not_false]
            refine xX.drop 7 ?_
            simp only [List.filter, Nat.beq, Bool.not_true, Bool.not_false]
            exact ihj T (n + 6) (g4 + 3) (k + 1) op w f hO (Rd_st (g := g4 + 3) (c := c) (kd := 0) (e := n + 6) hR hT (by omega) t0 (by omega) (by omega) (kd_l hc1) (by omega) (by omega) (fun T2 n2 h9 h10 => st_op h10 ((h9 _ (by omega)).trans t0) hc1 ((h9 _ (by omega)).trans t1) ((h9 _ (by omega)).trans t2) hb1 ((h9 _ (by omega)).trans t3) (by omega) ((h9 _ (by omega)).trans t4) (by omega) ((h9 _ (by omega)).trans t5))) (by omega) (by omega) (by omega) (by omega)
        · refine xr_bipush (v := nI 42) (n := 133) dL_reads_131 (by decide) rfl ?_
          refine xr_goto (n := 152) dL_reads_133 (by decide) ?_
          refine xr_bipush (v := nI 48) (n := 154) dL_reads_152 (by decide) rfl ?_
          refine xr_iload_n (n := 155) dL_reads_154 rfl rfl ?_
          refine xr_iconst (v := nI 3) (n := 156) dL_reads_155 (by decide) rfl ?_
          refine xr_ishr (n := 157) dL_reads_156 rfl ?_
          refine xr_bipush (v := nI 10) (n := 159) dL_reads_157 (by decide) rfl ?_
          refine xr_callS (y2 := mL_low) (As := [_, _]) (n := 162) dL_reads_159 lm_L_9 pm_L_low kp_static_yL_low rfl rfl (by simp [Value.category]) rfl ⟨Nat.le_refl _, Nat.le_refl _⟩ ?_
          refine s_L_low (by omega) (by omega) ?_
          dsimp only [xK, xps]
          refine xr_iadd (n := 163) dL_reads_162 rfl ?_
          (first | (simp (disch := omega) only [nI_clamp, pk_mul, nI_add, oi1, Nat.reduceMul, Nat.reduceAdd, Nat.add_zero]) | skip)
          refine xr_bipush (v := nI 59) (n := 165) dL_reads_163 (by decide) rfl ?_
          refine xr_callS (y2 := mL_types) (As := [_, _, _, _, _, _, _]) (n := 168) dL_reads_165 lm_L_92 pm_L_types kp_static_yL_types rfl rfl (by simp [Value.category]) rfl ⟨Nat.le_refl _, Nat.le_refl _⟩ ?_
          refine ty6 hO (by omega) (by omega) (fun f T hO hT t0 t1 t2 t3 t4 t5 => ?_)
          dsimp only [xK, xps]
          refine xr_goto (n := 322) dL_reads_168 (by decide) ?_
          refine xr_iinc (n := 325) dL_reads_322 rfl rfl (rfl) rfl ?_
          simp only [xst, Nat.beq, List.filter, Bool.not_true, Bool.not_false]
          (first | (simp (disch := omega) only [nI_clamp, pk_mul, nI_add, oi1, Nat.reduceMul, Nat.reduceAdd, Nat.add_zero]) | skip)
          refine xr_goto (n := 16) dL_reads_325 (by decide) ?_
          refine xX.drop 8 ?_
          simp only [List.filter, Nat.beq, Bool.not_true, Bool.not_false]
          refine xX.drop 7 ?_
          simp only [List.filter, Nat.beq, Bool.not_true, Bool.not_false]
          exact ihj T (n + 6) (g4 + 3) (k + 1) op w f hO (Rd_st (g := g4 + 3) (c := c) (kd := 0) (e := n + 6) hR hT (by omega) t0 (by omega) (by omega) (kd_l hc1) (by omega) (by omega) (fun T2 n2 h9 h10 => st_op h10 ((h9 _ (by omega)).trans t0) hc1 ((h9 _ (by omega)).trans t1) ((h9 _ (by omega)).trans t2) hb1 ((h9 _ (by omega)).trans t3) (by omega) ((h9 _ (by omega)).trans t4) (by omega) ((h9 _ (by omega)).trans t5))) (by omega) (by omega) (by omega) (by omega)
      · refine xr_tableIn (n := 116) (off := 41) dL_reads_75 (by omega) (by omega) (by rw [hx]; rfl) (by decide) ?_
        refine xr_aload_n (n := 117) dL_reads_116 rfl rfl ?_
        refine xr_iload (n := 119) dL_reads_117 rfl rfl ?_
        refine xr_bipush (v := nI 61) (n := 121) dL_reads_119 (by decide) rfl ?_
        refine xr_iload (n := 123) dL_reads_121 rfl rfl ?_
        refine xr_iload_n (n := 124) dL_reads_123 rfl rfl ?_
        refine xr_iconst (v := nI 3) (n := 125) dL_reads_124 (by decide) rfl ?_
        refine xr_callS (y2 := mL_low) (As := [_, _]) (n := 128) dL_reads_125 lm_L_9 pm_L_low kp_static_yL_low rfl rfl (by simp [Value.category]) rfl ⟨Nat.le_refl _, Nat.le_refl _⟩ ?_
        refine s_L_low (by omega) (by omega) ?_
        dsimp only [xK, xps]
        refine xr_if_ne (tgt := 136) (n := 131) dL_reads_128 (by decide) rfl (fun h128 => ?_) (fun h128 => ?_)
        · refine xr_iload_n (n := 137) dL_reads_136 rfl rfl ?_
          refine xr_iconst (v := nI 3) (n := 138) dL_reads_137 (by decide) rfl ?_
          refine xr_callS (y2 := mL_low) (As := [_, _]) (n := 141) dL_reads_138 lm_L_9 pm_L_low kp_static_yL_low rfl rfl (by simp [Value.category]) rfl ⟨Nat.le_refl _, Nat.le_refl _⟩ ?_
          refine s_L_low (by omega) (by omega) ?_
          dsimp only [xK, xps]
          refine xr_iconst (v := nI 1) (n := 142) dL_reads_141 (by decide) rfl ?_
          refine xr_icmp_ne (tgt := 150) (n := 145) dL_reads_142 (by decide) rfl (fun h142 => ?_) (fun h142 => ?_)
          · refine xr_bipush (v := nI 45) (n := 152) dL_reads_150 (by decide) rfl ?_
            refine xr_bipush (v := nI 48) (n := 154) dL_reads_152 (by decide) rfl ?_
            refine xr_iload_n (n := 155) dL_reads_154 rfl rfl ?_
            refine xr_iconst (v := nI 3) (n := 156) dL_reads_155 (by decide) rfl ?_
            refine xr_ishr (n := 157) dL_reads_156 rfl ?_
            refine xr_bipush (v := nI 10) (n := 159) dL_reads_157 (by decide) rfl ?_
            refine xr_callS (y2 := mL_low) (As := [_, _]) (n := 162) dL_reads_159 lm_L_9 pm_L_low kp_static_yL_low rfl rfl (by simp [Value.category]) rfl ⟨Nat.le_refl _, Nat.le_refl _⟩ ?_
            refine s_L_low (by omega) (by omega) ?_
            dsimp only [xK, xps]
            refine xr_iadd (n := 163) dL_reads_162 rfl ?_
            (first | (simp (disch := omega) only [nI_clamp, pk_mul, nI_add, oi1, Nat.reduceMul, Nat.reduceAdd, Nat.add_zero]) | skip)
            refine xr_bipush (v := nI 59) (n := 165) dL_reads_163 (by decide) rfl ?_
            refine xr_callS (y2 := mL_types) (As := [_, _, _, _, _, _, _]) (n := 168) dL_reads_165 lm_L_92 pm_L_types kp_static_yL_types rfl rfl (by simp [Value.category]) rfl ⟨Nat.le_refl _, Nat.le_refl _⟩ ?_
            refine ty6 hO (by omega) (by omega) (fun f T hO hT t0 t1 t2 t3 t4 t5 => ?_)
            dsimp only [xK, xps]
            refine xr_goto (n := 322) dL_reads_168 (by decide) ?_
            refine xr_iinc (n := 325) dL_reads_322 rfl rfl (rfl) rfl ?_
            simp only [xst, Nat.beq, List.filter, Bool.not_true, Bool.not_false]
            (first | (simp (disch := omega) only [nI_clamp, pk_mul, nI_add, oi1, Nat.reduceMul, Nat.reduceAdd, Nat.add_zero]) | skip)
            refine xr_goto (n := 16) dL_reads_325 (by decide) ?_
            refine xX.drop 8 ?_
            simp only [List.filter, Nat.beq, Bool.not_true, Bool.not_false]
            refine xX.drop 7 ?_
            simp only [List.filter, Nat.beq, Bool.not_true, Bool.not_false]
            exact ihj T (n + 6) (g4 + 3) (k + 1) op w f hO (Rd_st (g := g4 + 3) (c := c) (kd := 0) (e := n + 6) hR hT (by omega) t0 (by omega) (by omega) (kd_l hc1) (by omega) (by omega) (fun T2 n2 h9 h10 => st_op h10 ((h9 _ (by omega)).trans t0) hc1 ((h9 _ (by omega)).trans t1) ((h9 _ (by omega)).trans t2) hb1 ((h9 _ (by omega)).trans t3) (by omega) ((h9 _ (by omega)).trans t4) (by omega) ((h9 _ (by omega)).trans t5))) (by omega) (by omega) (by omega) (by omega)
          · refine xr_bipush (v := nI 43) (n := 147) dL_reads_145 (by decide) rfl ?_
            refine xr_goto (n := 152) dL_reads_147 (by decide) ?_
            refine xr_bipush (v := nI 48) (n := 154) dL_reads_152 (by decide) rfl ?_
            refine xr_iload_n (n := 155) dL_reads_154 rfl rfl ?_
            refine xr_iconst (v := nI 3) (n := 156) dL_reads_155 (by decide) rfl ?_
            refine xr_ishr (n := 157) dL_reads_156 rfl ?_
            refine xr_bipush (v := nI 10) (n := 159) dL_reads_157 (by decide) rfl ?_
            refine xr_callS (y2 := mL_low) (As := [_, _]) (n := 162) dL_reads_159 lm_L_9 pm_L_low kp_static_yL_low rfl rfl (by simp [Value.category]) rfl ⟨Nat.le_refl _, Nat.le_refl _⟩ ?_
            refine s_L_low (by omega) (by omega) ?_
            dsimp only [xK, xps]
            refine xr_iadd (n := 163) dL_reads_162 rfl ?_
            (first | (simp (disch := omega) only [nI_clamp, pk_mul, nI_add, oi1, Nat.reduceMul, Nat.reduceAdd, Nat.add_zero]) | skip)
            refine xr_bipush (v := nI 59) (n := 165) dL_reads_163 (by decide) rfl ?_
            refine xr_callS (y2 := mL_types) (As := [_, _, _, _, _, _, _]) (n := 168) dL_reads_165 lm_L_92 pm_L_types kp_static_yL_types rfl rfl (by simp [Value.category]) rfl ⟨Nat.le_refl _, Nat.le_refl _⟩ ?_
            refine ty6 hO (by omega) (by omega) (fun f T hO hT t0 t1 t2 t3 t4 t5 => ?_)
            dsimp only [xK, xps]
            refine xr_goto (n := 322) dL_reads_168 (by decide) ?_
            refine xr_iinc (n := 325) dL_reads_322 rfl rfl (rfl) rfl ?_
            simp only [xst, Nat.beq, List.filter, Bool.not_true, Bool.not_false]
            (first | (simp (disch := omega) only [nI_clamp, pk_mul, nI_add, oi1, Nat.reduceMul, Nat.reduceAdd, Nat.add_zero]) | skip)
            refine xr_goto (n := 16) dL_reads_325 (by decide) ?_
            refine xX.drop 8 ?_
            simp only [List.filter, Nat.beq, Bool.not_true, Bool.not_false]
            refine xX.drop 7 ?_
            simp only [List.filter, Nat.beq, Bool.not_true, Bool.not_false]
            exact ihj T (n + 6) (g4 + 3) (k + 1) op w f hO (Rd_st (g := g4 + 3) (c := c) (kd := 0) (e := n + 6) hR hT (by omega) t0 (by omega) (by omega) (kd_l hc1) (by omega) (by omega) (fun T2 n2 h9 h10 => st_op h10 ((h9 _ (by omega)).trans t0) hc1 ((h9 _ (by omega)).trans t1) ((h9 _ (by omega)).trans t2) hb1 ((h9 _ (by omega)).trans t3) (by omega) ((h9 _ (by omega)).trans t4) (by omega) ((h9 _ (by omega)).trans t5))) (by omega) (by omega) (by omega) (by omega)
        · refine xr_bipush (v := nI 42) (n := 133) dL_reads_131 (by decide) rfl ?_
          refine xr_goto (n := 152) dL_reads_133 (by decide) ?_
          refine xr_bipush (v := nI 48) (n := 154) dL_reads_152 (by decide) rfl ?_
          refine xr_iload_n (n := 155) dL_reads_154 rfl rfl ?_
          refine xr_iconst (v := nI 3) (n := 156) dL_reads_155 (by decide) rfl ?_
          refine xr_ishr (n := 157) dL_reads_156 rfl ?_
          refine xr_bipush (v := nI 10) (n := 159) dL_reads_157 (by decide) rfl ?_
          refine xr_callS (y2 := mL_low) (As := [_, _]) (n := 162) dL_reads_159 lm_L_9 pm_L_low kp_static_yL_low rfl rfl (by simp [Value.category]) rfl ⟨Nat.le_refl _, Nat.le_refl _⟩ ?_
          refine s_L_low (by omega) (by omega) ?_
          dsimp only [xK, xps]
          refine xr_iadd (n := 163) dL_reads_162 rfl ?_
          (first | (simp (disch := omega) only [nI_clamp, pk_mul, nI_add, oi1, Nat.reduceMul, Nat.reduceAdd, Nat.add_zero]) | skip)
          refine xr_bipush (v := nI 59) (n := 165) dL_reads_163 (by decide) rfl ?_
          refine xr_callS (y2 := mL_types) (As := [_, _, _, _, _, _, _]) (n := 168) dL_reads_165 lm_L_92 pm_L_types kp_static_yL_types rfl rfl (by simp [Value.category]) rfl ⟨Nat.le_refl _, Nat.le_refl _⟩ ?_
          refine ty6 hO (by omega) (by omega) (fun f T hO hT t0 t1 t2 t3 t4 t5 => ?_)
          dsimp only [xK, xps]
          refine xr_goto (n := 322) dL_reads_168 (by decide) ?_
          refine xr_iinc (n := 325) dL_reads_322 rfl rfl (rfl) rfl ?_
          simp only [xst, Nat.beq, List.filter, Bool.not_true, Bool.not_false]
          (first | (simp (disch := omega) only [nI_clamp, pk_mul, nI_add, oi1, Nat.reduceMul, Nat.reduceAdd, Nat.add_zero]) | skip)
          refine xr_goto (n := 16) dL_reads_325 (by decide) ?_
          refine xX.drop 8 ?_
          simp only [List.filter, Nat.beq, Bool.not_true, Bool.not_false]
          refine xX.drop 7 ?_
          simp only [List.filter, Nat.beq, Bool.not_true, Bool.not_false]
          exact ihj T (n + 6) (g4 + 3) (k + 1) op w f hO (Rd_st (g := g4 + 3) (c := c) (kd := 0) (e := n + 6) hR hT (by omega) t0 (by omega) (by omega) (kd_l hc1) (by omega) (by omega) (fun T2 n2 h9 h10 => st_op h10 ((h9 _ (by omega)).trans t0) hc1 ((h9 _ (by omega)).trans t1) ((h9 _ (by omega)).trans t2) hb1 ((h9 _ (by omega)).trans t3) (by omega) ((h9 _ (by omega)).trans t4) (by omega) ((h9 _ (by omega)).trans t5))) (by omega) (by omega) (by omega) (by omega)
      · refine xr_tableIn (n := 171) (off := 96) dL_reads_75 (by omega) (by omega) (by rw [hx]; rfl) (by decide) ?_
        refine xr_aload_n (n := 172) dL_reads_171 rfl rfl ?_
        refine xr_iload (n := 174) dL_reads_172 rfl rfl ?_
        refine xr_bipush (v := nI 61) (n := 176) dL_reads_174 (by decide) rfl ?_
        refine xr_bipush (v := nI 48) (n := 178) dL_reads_176 (by decide) rfl ?_
        refine xr_iload_n (n := 179) dL_reads_178 rfl rfl ?_
        refine xr_bipush (v := nI 10) (n := 181) dL_reads_179 (by decide) rfl ?_
        refine xr_callS (y2 := mL_low) (As := [_, _]) (n := 184) dL_reads_181 lm_L_9 pm_L_low kp_static_yL_low rfl rfl (by simp [Value.category]) rfl ⟨Nat.le_refl _, Nat.le_refl _⟩ ?_
        refine s_L_low (by omega) (by omega) ?_
        dsimp only [xK, xps]
        refine xr_iadd (n := 185) dL_reads_184 rfl ?_
        (first | (simp (disch := omega) only [nI_clamp, pk_mul, nI_add, oi1, Nat.reduceMul, Nat.reduceAdd, Nat.add_zero]) | skip)
        refine xr_bipush (v := nI 59) (n := 187) dL_reads_185 (by decide) rfl ?_
        refine xr_iconst (v := nI 0) (n := 188) dL_reads_187 (by decide) rfl ?_
        refine xr_iconst (v := nI 0) (n := 189) dL_reads_188 (by decide) rfl ?_
        refine xr_callS (y2 := mL_types) (As := [_, _, _, _, _, _, _]) (n := 192) dL_reads_189 lm_L_92 pm_L_types kp_static_yL_types rfl rfl (by simp [Value.category]) rfl ⟨Nat.le_refl _, Nat.le_refl _⟩ ?_
        refine ty4 hO (by omega) (by omega) (fun f T hO hT t0 t1 t2 t3 => ?_)
        dsimp only [xK, xps]
        refine xr_goto (n := 322) dL_reads_192 (by decide) ?_
        refine xr_iinc (n := 325) dL_reads_322 rfl rfl (rfl) rfl ?_
        simp only [xst, Nat.beq, List.filter, Bool.not_true, Bool.not_false]
        (first | (simp (disch := omega) only [nI_clamp, pk_mul, nI_add, oi1, Nat.reduceMul, Nat.reduceAdd, Nat.add_zero]) | skip)
        refine xr_goto (n := 16) dL_reads_325 (by decide) ?_
        refine xX.drop 8 ?_
        simp only [List.filter, Nat.beq, Bool.not_true, Bool.not_false]
        refine xX.drop 7 ?_
        simp only [List.filter, Nat.beq, Bool.not_true, Bool.not_false]
        exact ihj T (n + 4) (g4 + 3) (k + 1) op w f hO (Rd_st (g := g4 + 3) (c := c) (kd := 0) (e := n + 4) hR hT (by omega) t0 (by omega) (by omega) (kd_l hc1) (by omega) (by omega) (fun T2 n2 h9 h10 => st_eq h10 ((h9 _ (by omega)).trans t0) hc1 ((h9 _ (by omega)).trans t1) ((h9 _ (by omega)).trans t2) (by omega) ((h9 _ (by omega)).trans t3))) (by omega) (by omega) (by omega) (by omega)
      · refine xr_tableIn (n := 195) (off := 120) dL_reads_75 (by omega) (by omega) (by rw [hx]; rfl) (by decide) ?_
        refine xr_aload_n (n := 196) dL_reads_195 rfl rfl ?_
        refine xr_bipush (v := nI 33) (n := 198) dL_reads_196 (by decide) rfl ?_
        refine xr_bipush (v := nI 32) (n := 200) dL_reads_198 (by decide) rfl ?_
        refine xr_iload (n := 202) dL_reads_200 rfl rfl ?_
        refine xr_bipush (v := nI 59) (n := 204) dL_reads_202 (by decide) rfl ?_
        refine xr_iconst (v := nI 0) (n := 205) dL_reads_204 (by decide) rfl ?_
        refine xr_iconst (v := nI 0) (n := 206) dL_reads_205 (by decide) rfl ?_
        refine xr_callS (y2 := mL_types) (As := [_, _, _, _, _, _, _]) (n := 209) dL_reads_206 lm_L_92 pm_L_types kp_static_yL_types rfl rfl (by simp [Value.category]) rfl ⟨Nat.le_refl _, Nat.le_refl _⟩ ?_
        refine ty4 hO (by omega) (by omega) (fun f T hO hT t0 t1 t2 t3 => ?_)
        dsimp only [xK, xps]
        refine xr_goto (n := 322) dL_reads_209 (by decide) ?_
        refine xr_iinc (n := 325) dL_reads_322 rfl rfl (rfl) rfl ?_
        simp only [xst, Nat.beq, List.filter, Bool.not_true, Bool.not_false]
        (first | (simp (disch := omega) only [nI_clamp, pk_mul, nI_add, oi1, Nat.reduceMul, Nat.reduceAdd, Nat.add_zero]) | skip)
        refine xr_goto (n := 16) dL_reads_325 (by decide) ?_
        refine xX.drop 8 ?_
        simp only [List.filter, Nat.beq, Bool.not_true, Bool.not_false]
        refine xX.drop 7 ?_
        simp only [List.filter, Nat.beq, Bool.not_true, Bool.not_false]
        exact ihj T (n + 4) (g4 + 3) (k + 1) op w f hO (Rd_st (g := g4 + 3) (c := 33) (kd := 1) (e := n + 4) hR hT (by omega) t0 (by omega) (by omega) (by decide +kernel) (by omega) (by omega) (fun T2 n2 h9 h10 => st_tes h10 ((h9 _ (by omega)).trans t1) ((h9 _ (by omega)).trans t2) hc1 ((h9 _ (by omega)).trans t3))) (by omega) (by omega) (by omega) (by omega)
      · refine xr_tableIn (n := 195) (off := 120) dL_reads_75 (by omega) (by omega) (by rw [hx]; rfl) (by decide) ?_
        refine xr_aload_n (n := 196) dL_reads_195 rfl rfl ?_
        refine xr_bipush (v := nI 33) (n := 198) dL_reads_196 (by decide) rfl ?_
        refine xr_bipush (v := nI 32) (n := 200) dL_reads_198 (by decide) rfl ?_
        refine xr_iload (n := 202) dL_reads_200 rfl rfl ?_
        refine xr_bipush (v := nI 59) (n := 204) dL_reads_202 (by decide) rfl ?_
        refine xr_iconst (v := nI 0) (n := 205) dL_reads_204 (by decide) rfl ?_
        refine xr_iconst (v := nI 0) (n := 206) dL_reads_205 (by decide) rfl ?_
        refine xr_callS (y2 := mL_types) (As := [_, _, _, _, _, _, _]) (n := 209) dL_reads_206 lm_L_92 pm_L_types kp_static_yL_types rfl rfl (by simp [Value.category]) rfl ⟨Nat.le_refl _, Nat.le_refl _⟩ ?_
        refine ty4 hO (by omega) (by omega) (fun f T hO hT t0 t1 t2 t3 => ?_)
        dsimp only [xK, xps]
        refine xr_goto (n := 322) dL_reads_209 (by decide) ?_
        refine xr_iinc (n := 325) dL_reads_322 rfl rfl (rfl) rfl ?_
        simp only [xst, Nat.beq, List.filter, Bool.not_true, Bool.not_false]
        (first | (simp (disch := omega) only [nI_clamp, pk_mul, nI_add, oi1, Nat.reduceMul, Nat.reduceAdd, Nat.add_zero]) | skip)
        refine xr_goto (n := 16) dL_reads_325 (by decide) ?_
        refine xX.drop 8 ?_
        simp only [List.filter, Nat.beq, Bool.not_true, Bool.not_false]
        refine xX.drop 7 ?_
        simp only [List.filter, Nat.beq, Bool.not_true, Bool.not_false]
        exact ihj T (n + 4) (g4 + 3) (k + 1) op w f hO (Rd_st (g := g4 + 3) (c := 33) (kd := 1) (e := n + 4) hR hT (by omega) t0 (by omega) (by omega) (by decide +kernel) (by omega) (by omega) (fun T2 n2 h9 h10 => st_tes h10 ((h9 _ (by omega)).trans t1) ((h9 _ (by omega)).trans t2) hc1 ((h9 _ (by omega)).trans t3))) (by omega) (by omega) (by omega) (by omega)
      · refine xr_tableIn (n := 212) (off := 137) dL_reads_75 (by omega) (by omega) (by rw [hx]; rfl) (by decide) ?_
        refine xr_aload_n (n := 213) dL_reads_212 rfl rfl ?_
        refine xr_bipush (v := nI 35) (n := 215) dL_reads_213 (by decide) rfl ?_
        refine xr_bipush (v := nI 32) (n := 217) dL_reads_215 (by decide) rfl ?_
        refine xr_bipush (v := nI 59) (n := 219) dL_reads_217 (by decide) rfl ?_
        refine xr_iconst (v := nI 0) (n := 220) dL_reads_219 (by decide) rfl ?_
        refine xr_iconst (v := nI 0) (n := 221) dL_reads_220 (by decide) rfl ?_
        refine xr_iconst (v := nI 0) (n := 222) dL_reads_221 (by decide) rfl ?_
        refine xr_callS (y2 := mL_types) (As := [_, _, _, _, _, _, _]) (n := 225) dL_reads_222 lm_L_92 pm_L_types kp_static_yL_types rfl rfl (by simp [Value.category]) rfl ⟨Nat.le_refl _, Nat.le_refl _⟩ ?_
        refine ty3 hO (by omega) (by omega) (fun f T hO hT t0 t1 t2 => ?_)
        dsimp only [xK, xps]
        refine xr_goto (n := 322) dL_reads_225 (by decide) ?_
        refine xr_iinc (n := 325) dL_reads_322 rfl rfl (rfl) rfl ?_
        simp only [xst, Nat.beq, List.filter, Bool.not_true, Bool.not_false]
        (first | (simp (disch := omega) only [nI_clamp, pk_mul, nI_add, oi1, Nat.reduceMul, Nat.reduceAdd, Nat.add_zero]) | skip)
        refine xr_goto (n := 16) dL_reads_325 (by decide) ?_
        refine xX.drop 8 ?_
        simp only [List.filter, Nat.beq, Bool.not_true, Bool.not_false]
        refine xX.drop 7 ?_
        simp only [List.filter, Nat.beq, Bool.not_true, Bool.not_false]
        exact ihj T (n + 3) (g4 + 3) (k + 1) op w f hO (Rd_st (g := g4 + 3) (c := 35) (kd := 2) (e := n + 3) hR hT (by omega) t0 (by omega) (by omega) (by decide +kernel) (by omega) (by omega) (fun T2 n2 h9 h10 => st_mks h10 ((h9 _ (by omega)).trans t1) ((h9 _ (by omega)).trans t2))) (by omega) (by omega) (by omega) (by omega)
      · refine xr_tableIn (n := 228) (off := 153) dL_reads_75 (by omega) (by omega) (by rw [hx]; rfl) (by decide) ?_
        refine xr_iload (n := 230) dL_reads_228 rfl rfl ?_
        refine xr_iconst (v := nI 4) (n := 231) dL_reads_230 (by decide) rfl ?_
        refine xr_icmp_ge (tgt := 322) (n := 234) dL_reads_231 (by decide) rfl (fun h231 => ?_) (fun h231 => ?_)
        · refine xr_iinc (n := 325) dL_reads_322 rfl rfl (rfl) rfl ?_
          simp only [xst, Nat.beq, List.filter, Bool.not_true, Bool.not_false]
          (first | (simp (disch := omega) only [nI_clamp, pk_mul, nI_add, oi1, Nat.reduceMul, Nat.reduceAdd, Nat.add_zero]) | skip)
          refine xr_goto (n := 16) dL_reads_325 (by decide) ?_
          refine xX.drop 8 ?_
          simp only [List.filter, Nat.beq, Bool.not_true, Bool.not_false]
          refine xX.drop 7 ?_
          simp only [List.filter, Nat.beq, Bool.not_true, Bool.not_false]
          exact ihj t n (g4 + 4) k op w f hO hR (by omega) (by omega) (by omega) (by omega)
        · refine xr_aload_n (n := 235) dL_reads_234 rfl rfl ?_
          refine xr_bipush (v := nI 91) (n := 237) dL_reads_235 (by decide) rfl ?_
          refine xr_iload (n := 239) dL_reads_237 rfl rfl ?_
          refine xr_bipush (v := nI 32) (n := 241) dL_reads_239 (by decide) rfl ?_
          refine xr_iconst (v := nI 0) (n := 242) dL_reads_241 (by decide) rfl ?_
          refine xr_iconst (v := nI 0) (n := 243) dL_reads_242 (by decide) rfl ?_
          refine xr_iconst (v := nI 0) (n := 244) dL_reads_243 (by decide) rfl ?_
          refine xr_callS (y2 := mL_types) (As := [_, _, _, _, _, _, _]) (n := 247) dL_reads_244 lm_L_92 pm_L_types kp_static_yL_types rfl rfl (by simp [Value.category]) rfl ⟨Nat.le_refl _, Nat.le_refl _⟩ ?_
          refine ty3 hO (by omega) (by omega) (fun f T hO hT t0 t1 t2 => ?_)
          dsimp only [xK, xps]
          refine xr_aload_n (n := 248) dL_reads_247 rfl rfl ?_
          refine xr_iload (n := 250) dL_reads_248 rfl rfl ?_
          refine xr_bipush (v := nI 61) (n := 252) dL_reads_250 (by decide) rfl ?_
          refine xr_iload (n := 254) dL_reads_252 rfl rfl ?_
          refine xr_bipush (v := nI 45) (n := 256) dL_reads_254 (by decide) rfl ?_
          refine xr_bipush (v := nI 49) (n := 258) dL_reads_256 (by decide) rfl ?_
          refine xr_bipush (v := nI 59) (n := 260) dL_reads_258 (by decide) rfl ?_
          refine xr_callS (y2 := mL_types) (As := [_, _, _, _, _, _, _]) (n := 263) dL_reads_260 lm_L_92 pm_L_types kp_static_yL_types rfl rfl (by simp [Value.category]) rfl ⟨Nat.le_refl _, Nat.le_refl _⟩ ?_
          refine ty6 hO (by omega) (by omega) (fun f S hO hS s0 s1 s2 s3 s4 s5 => ?_)
          dsimp only [xK, xps]
          refine xr_iinc (n := 266) dL_reads_263 rfl rfl (rfl) rfl ?_
          simp only [xst, Nat.beq, List.filter, Bool.not_true, Bool.not_false]
          (first | (simp (disch := omega) only [nI_clamp, pk_mul, nI_add, oi1, Nat.reduceMul, Nat.reduceAdd, Nat.add_zero]) | skip)
          refine xr_goto (n := 322) dL_reads_266 (by decide) ?_
          refine xr_iinc (n := 325) dL_reads_322 rfl rfl (rfl) rfl ?_
          simp only [xst, Nat.beq, List.filter, Bool.not_true, Bool.not_false]
          (first | (simp (disch := omega) only [nI_clamp, pk_mul, nI_add, oi1, Nat.reduceMul, Nat.reduceAdd, Nat.add_zero]) | skip)
          refine xr_goto (n := 16) dL_reads_325 (by decide) ?_
          refine xX.drop 8 ?_
          simp only [List.filter, Nat.beq, Bool.not_true, Bool.not_false]
          refine xX.drop 7 ?_
          simp only [List.filter, Nat.beq, Bool.not_true, Bool.not_false]
          have hop5 : op < 4 := by ((try simp (disch := omega) only [i_lt, i_le, i_eq, nt, i_m1, Int32.toInt_zero] at *); omega)
          have r1 := Rd_op (g := g4 + 3) hR hT t0 t1 hc1 (by omega) (by omega)
          have r2 := Rd_sp (g := g4 + 2) r1 (fun _ _ => rfl) t2
          exact ihj S (n + 3 + 6) (g4 + 2) (k + 1 + 1) (op + 1) w f hO (Rd_st (g := g4 + 2) (c := c) (kd := 0) (e := n + 3 + 6) r2 hS (by omega) s0 (by omega) (by omega) (kd_l hc1) (by omega) (by omega) (fun T2 n2 h9 h10 => st_op h10 ((h9 _ (by omega)).trans s0) hc1 ((h9 _ (by omega)).trans s1) ((h9 _ (by omega)).trans s2) hc1 ((h9 _ (by omega)).trans s3) (by omega) ((h9 _ (by omega)).trans s4) (by omega) ((h9 _ (by omega)).trans s5))) (by omega) (by omega) (by omega) (by omega)
  exact keyj 0 (by omega) _ 0 121 0 0 x f hO (Rd_0 _) (by omega) (by omega) (by omega) (by omega)

