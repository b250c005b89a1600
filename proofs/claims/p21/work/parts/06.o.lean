/-! the class: the reader's terms -/
theorem w_5 {n : Nat} (h : n ≤ 5) : (nI 0).toInt ≤ (nI n).toInt ∧ (nI n).toInt ≤ (nI 5).toInt := by
  rw [nt _ (by omega), nt _ (by omega), nt _ (by omega)]
  omega
theorem s_X3_innermost {G : xG} {d : Nat} {f : Nat → xC} {r : Nat × Nat} {Q : Option Value → xM → Prop} {q x e dp : Nat} {ρ : xS} (h2 : ρ 2 0 = nI dp) (hdp : dp ≤ 5) (hq : Q (some (.int (ρ 0 dp))) (qput f q x e ρ, r)) : xMet G (d + 1) mX3_innermost [.ref q] (qput f q x e ρ, r) r Q := by
  refine xMet_0 (by decide +kernel) rfl (Nat.le_of_ble_eq_true rfl) ?_
  show xX G (d + 1) mX3_innermost r r (xΦ G r r Q) 0 [(0, .ref q)] [] (qput f q x e ρ, r)
  refine xr_aload_n (n := 1) dX3_innermost_0 rfl rfl ?_
  refine xr_get (n := 4) dX3_innermost_1 fl_X3_32 (by first | exact qat_0 (qput_at _ _ _ _ _) | exact qat_r (qput_at _ _ _ _ _) (by decide)) (by rfl) rfl ?_
  rw [h2]
  refine xr_iconst (v := nI 0) (n := 5) dX3_innermost_4 (by decide) rfl ?_
  refine xr_iconst (v := nI 5) (n := 6) dX3_innermost_5 (by decide) rfl ?_
  refine xr_callS (y2 := mX7_isWithin) (As := [_, _, _]) (n := 9) dX3_innermost_6 lm_X3_93 pm_X7_isWithin kp_static_yX7_isWithin rfl rfl (by simp [Value.category]) rfl ⟨Nat.le_refl _, Nat.le_refl _⟩ ?_
  refine s_X7_isWithin ?_
  dsimp only [xK, xps]
  refine xr_beq (tgt := 24) (n := 12) dX3_innermost_9 (by decide) rfl (fun h9 => ?_) (fun h9 => ?_)
  · exact absurd (w_5 hdp) h9
  · refine xr_aload_n (n := 13) dX3_innermost_12 rfl rfl ?_
    refine xr_get (n := 16) dX3_innermost_13 fl_X3_9 (by first | exact qat_0 (qput_at _ _ _ _ _) | exact qat_r (qput_at _ _ _ _ _) (by decide)) (by rfl) rfl ?_
    refine xr_aload_n (n := 17) dX3_innermost_16 rfl rfl ?_
    refine xr_get (n := 20) dX3_innermost_17 fl_X3_32 (by first | exact qat_0 (qput_at _ _ _ _ _) | exact qat_r (qput_at _ _ _ _ _) (by decide)) (by rfl) rfl ?_
    (first | (simp (disch := omega) only [nI_clamp, pk_mul, nI_add, oi1, up2_ss, up2_n, up2_sn, ur_s, ur_n, Nat.reduceMul, Nat.reduceAdd, Nat.add_zero, h2]) | skip)
    refine xr_iaload (n := 21) dX3_innermost_20 (by first | exact qat_0 (qput_at _ _ _ _ _) | exact qat_r (qput_at _ _ _ _ _) (by decide)) (by first | exact vp_in_nI (by omega) (by omega)) rfl ?_
    (first | (simp (disch := omega) only [nI_clamp, pk_mul, nI_add, oi1, up2_ss, up2_n, up2_sn, ur_s, ur_n, Nat.reduceMul, Nat.reduceAdd, Nat.add_zero, h2]) | skip)
    refine xr_goto (n := 25) dX3_innermost_21 (by decide) ?_
    refine xr_ireturn dX3_innermost_25 rfl rfl rfl ?_
    first | exact hq | (rw [b2i_t (by ((try simp (disch := omega) only [i_lt, i_le, i_eq, nt, i_m1, Int32.toInt_zero] at *); omega))] at hq; exact hq) | (rw [b2i_f (by ((try simp (disch := omega) only [i_lt, i_le, i_eq, nt, i_m1, Int32.toInt_zero] at *); omega))] at hq; exact hq)

theorem s_X3_awaitedSign {G : xG} {d : Nat} {f : Nat → xC} {r : Nat × Nat} {Q : Option Value → xM → Prop} {q x e dp : Nat} {ρ : xS} (h2 : ρ 2 0 = nI dp) (hdp : dp ≤ 5) (hq : Q (some (.int (ρ 1 dp))) (qput f q x e ρ, r)) : xMet G (d + 1) mX3_awaitedSign [.ref q] (qput f q x e ρ, r) r Q := by
  refine xMet_0 (by decide +kernel) rfl (Nat.le_of_ble_eq_true rfl) ?_
  show xX G (d + 1) mX3_awaitedSign r r (xΦ G r r Q) 0 [(0, .ref q)] [] (qput f q x e ρ, r)
  refine xr_aload_n (n := 1) dX3_awaitedSign_0 rfl rfl ?_
  refine xr_get (n := 4) dX3_awaitedSign_1 fl_X3_32 (by first | exact qat_0 (qput_at _ _ _ _ _) | exact qat_r (qput_at _ _ _ _ _) (by decide)) (by rfl) rfl ?_
  rw [h2]
  refine xr_iconst (v := nI 0) (n := 5) dX3_awaitedSign_4 (by decide) rfl ?_
  refine xr_iconst (v := nI 5) (n := 6) dX3_awaitedSign_5 (by decide) rfl ?_
  refine xr_callS (y2 := mX7_isWithin) (As := [_, _, _]) (n := 9) dX3_awaitedSign_6 lm_X3_93 pm_X7_isWithin kp_static_yX7_isWithin rfl rfl (by simp [Value.category]) rfl ⟨Nat.le_refl _, Nat.le_refl _⟩ ?_
  refine s_X7_isWithin ?_
  dsimp only [xK, xps]
  refine xr_beq (tgt := 24) (n := 12) dX3_awaitedSign_9 (by decide) rfl (fun h9 => ?_) (fun h9 => ?_)
  · exact absurd (w_5 hdp) h9
  · refine xr_aload_n (n := 13) dX3_awaitedSign_12 rfl rfl ?_
    refine xr_get (n := 16) dX3_awaitedSign_13 fl_X3_15 (by first | exact qat_0 (qput_at _ _ _ _ _) | exact qat_r (qput_at _ _ _ _ _) (by decide)) (by rfl) rfl ?_
    refine xr_aload_n (n := 17) dX3_awaitedSign_16 rfl rfl ?_
    refine xr_get (n := 20) dX3_awaitedSign_17 fl_X3_32 (by first | exact qat_0 (qput_at _ _ _ _ _) | exact qat_r (qput_at _ _ _ _ _) (by decide)) (by rfl) rfl ?_
    (first | (simp (disch := omega) only [nI_clamp, pk_mul, nI_add, oi1, up2_ss, up2_n, up2_sn, ur_s, ur_n, Nat.reduceMul, Nat.reduceAdd, Nat.add_zero, h2]) | skip)
    refine xr_iaload (n := 21) dX3_awaitedSign_20 (by first | exact qat_0 (qput_at _ _ _ _ _) | exact qat_r (qput_at _ _ _ _ _) (by decide)) (by first | exact vp_in_nI (by omega) (by omega)) rfl ?_
    (first | (simp (disch := omega) only [nI_clamp, pk_mul, nI_add, oi1, up2_ss, up2_n, up2_sn, ur_s, ur_n, Nat.reduceMul, Nat.reduceAdd, Nat.add_zero, h2]) | skip)
    refine xr_goto (n := 25) dX3_awaitedSign_21 (by decide) ?_
    refine xr_ireturn dX3_awaitedSign_25 rfl rfl rfl ?_
    first | exact hq | (rw [b2i_t (by ((try simp (disch := omega) only [i_lt, i_le, i_eq, nt, i_m1, Int32.toInt_zero] at *); omega))] at hq; exact hq) | (rw [b2i_f (by ((try simp (disch := omega) only [i_lt, i_le, i_eq, nt, i_m1, Int32.toInt_zero] at *); omega))] at hq; exact hq)

theorem s_X3_takeNumber {G : xG} {d : Nat} {f : Nat → xC} {r : Nat × Nat} {Q : Option Value → xM → Prop} {q x e n a : Nat} {χ ρ : xS} (hX : xat f x χ) (hd : x + 2 ≤ q ∨ q + 3 ≤ x) (hn : χ 1 0 = nI n) (hn2 : n ≤ 120) (hp : ρ 3 0 = nI a) (ha : a ≤ n) (hlt : a < n) (hdg : isDg (χ 0 a)) (hch : ∀ i, i < n → 0 ≤ (χ 0 i).toInt) (hq : Q (some (.int (nI (nuF (χ 0) n (if χ 0 a = nI 48 then 1 else 3) a 0).2))) (qput f q x e (up2 ρ 3 0 (nI (nuF (χ 0) n (if χ 0 a = nI 48 then 1 else 3) a 0).1)), r)) : xMet G (d + 2) mX3_takeNumber [.ref q] (qput f q x e ρ, r) r Q := by
  refine xMet_0 (by decide +kernel) rfl (Nat.le_of_ble_eq_true rfl) ?_
  show xX G (d + 2) mX3_takeNumber r r (xΦ G r r Q) 0 [(0, .ref q)] [] (qput f q x e ρ, r)
  have hca : ch (χ 0) n a = χ 0 a := if_pos hlt
  have hix := (ix_i (c := χ 0 a) (by omega)).2
  refine xr_aload_n (n := 1) dX3_takeNumber_0 rfl rfl ?_
  refine xr_get (n := 4) dX3_takeNumber_1 fl_X3_18 (by first | exact qat_0 (qput_at _ _ _ _ _) | exact qat_r (qput_at _ _ _ _ _) (by decide) | exact xat_0 (bat_out hX hd)) (by rfl) rfl ?_
  refine xr_aload_n (n := 5) dX3_takeNumber_4 rfl rfl ?_
  refine xr_get (n := 8) dX3_takeNumber_5 fl_X3_35 (by first | exact qat_0 (qput_at _ _ _ _ _) | exact qat_r (qput_at _ _ _ _ _) (by decide) | exact xat_0 (bat_out hX hd)) (by rfl) rfl ?_
  rw [hp]
  refine xr_callV (y2 := mX5_signAt) (As := [_]) (n := 11) dX3_takeNumber_8 lm_X3_102 pm_X5_signAt pi_X5_signAt (by first | exact qat_0 (qput_at _ _ _ _ _) | exact qat_r (qput_at _ _ _ _ _) (by decide) | exact xat_0 (bat_out hX hd)) rfl rfl rfl (by simp [Value.category]) rfl ⟨Nat.le_refl _, Nat.le_refl _⟩ ?_
  refine s_X5_signAt (bat_out hX hd) hn hn2 (by omega) ?_
  dsimp only [xK, xps]
  rw [hca]
  refine xr_bipush (v := nI 48) (n := 13) dX3_takeNumber_11 (by decide) rfl ?_
  refine xr_isub (n := 14) dX3_takeNumber_13 rfl ?_
  rw [ix_sub (k := 48) hdg.1]
  refine xq_istore_n 1 (n := 15) dX3_takeNumber_14 rfl rfl rfl ?_
  simp only [xst, Nat.beq, List.filter, Bool.not_true, Bool.not_false]
  refine xr_aload_n (n := 16) dX3_takeNumber_15 rfl rfl ?_
  refine xr_dup (n := 17) dX3_takeNumber_16 rfl rfl ?_
  refine xr_get (n := 20) dX3_takeNumber_17 fl_X3_35 (by first | exact qat_0 (qput_at _ _ _ _ _) | exact qat_r (qput_at _ _ _ _ _) (by decide) | exact xat_0 (bat_out hX hd)) (by rfl) rfl ?_
  rw [hp]
  refine xr_iconst (v := nI 1) (n := 21) dX3_takeNumber_20 (by decide) rfl ?_
  refine xr_iadd (n := 22) dX3_takeNumber_21 rfl ?_
  (first | (simp (disch := omega) only [nI_clamp, pk_mul, nI_add, oi1, up2_ss, up2_n, up2_sn, ur_s, ur_n, Nat.reduceMul, Nat.reduceAdd, Nat.add_zero]) | skip)
  refine xq_put (n := 25) dX3_takeNumber_22 fl_X3_35 rfl (by first | exact qat_0 (qput_at _ _ _ _ _) | exact qat_r (qput_at _ _ _ _ _) (by decide) | exact xat_0 (bat_out hX hd)) (by rfl) (by rfl) (by rfl) rfl ?_
  simp (disch := omega) only [nI_clamp, List.set, qw_0, qw_1, qw_2, qw_3]
  refine xr_iconst (v := nI 1) (n := 26) dX3_takeNumber_25 (by decide) rfl ?_
  refine xq_istore_n 2 (n := 27) dX3_takeNumber_26 rfl rfl rfl ?_
  simp only [xst, Nat.beq, List.filter, Bool.not_true, Bool.not_false]
  have hn3 : ∀ g b v, nuF (χ 0) n (g + 1) b v = if b < n ∧ isDg (χ 0 b) then nuF (χ 0) n g (b + 1) (10 * v + (ix (χ 0 b) - 48)) else (b, v) := fun g b v => rfl
  generalize hNN : nuF (χ 0) n (if χ 0 a = nI 48 then 1 else 3) a 0 = NN at *
  have key : ∀ k, k ≤ 3 → ∀ b v : Nat, b ≤ n → 1 ≤ k → (k = 1 → v ≤ 9) → (k = 2 → v ≤ 99) → (k = 3 → v ≤ 999) → (NN = if v = 0 then (b, v) else nuF (χ 0) n (3 - k) b v) → xX G (d + 2) mX3_takeNumber r r (xΦ G r r Q) 27 [(0, .ref q), (1, .int (nI v)), (2, .int (nI k))] [] (qput f q x e (up2 ρ 3 0 (nI b)), r) := by
    refine nat_down (P := fun k => ∀ b v : Nat, b ≤ n → 1 ≤ k → (k = 1 → v ≤ 9) → (k = 2 → v ≤ 99) → (k = 3 → v ≤ 999) → (NN = if v = 0 then (b, v) else nuF (χ 0) n (3 - k) b v) → xX G (d + 2) mX3_takeNumber r r (xΦ G r r Q) 27 [(0, .ref q), (1, .int (nI v)), (2, .int (nI k))] [] (qput f q x e (up2 ρ 3 0 (nI b)), r)) (N := 3) ?_ ?_
    · intro b v hb hk1 hv1 hv2 hv3 hR
      refine xr_iload_n (n := 28) dX3_takeNumber_27 rfl rfl ?_
      refine xr_iconst (v := nI 3) (n := 29) dX3_takeNumber_28 (by decide) rfl ?_
      refine xr_icmp_ge (tgt := 89) (n := 32) dX3_takeNumber_29 (by decide) rfl (fun h29 => ?_) (fun h29 => by (exfalso; ((try simp (disch := omega) only [i_lt, i_le, i_eq, nt, i_m1, Int32.toInt_zero] at *); omega)))
      refine xr_iload_n (n := 90) dX3_takeNumber_89 rfl rfl ?_
      refine xr_ireturn dX3_takeNumber_90 rfl rfl rfl ?_
      have hE : NN = (b, v) := by
        rw [hR]
        by_cases ev : v = 0
        · rw [if_pos ev]
        · rw [if_neg ev]; rfl
      rw [hE] at hq
      exact hq
    · intro k hk ih b v hb hk1 hv1 hv2 hv3 hR
      refine xr_iload_n (n := 28) dX3_takeNumber_27 rfl rfl ?_
      refine xr_iconst (v := nI 3) (n := 29) dX3_takeNumber_28 (by decide) rfl ?_
      refine xr_icmp_ge (tgt := 89) (n := 32) dX3_takeNumber_29 (by decide) rfl (fun h29 => by (exfalso; ((try simp (disch := omega) only [i_lt, i_le, i_eq, nt, i_m1, Int32.toInt_zero] at *); omega))) (fun h29 => ?_)
      refine xr_iload_n (n := 33) dX3_takeNumber_32 rfl rfl ?_
      refine xr_if_le (tgt := 89) (n := 36) dX3_takeNumber_33 (by decide) rfl (fun h33 => ?_) (fun h33 => ?_)
      · have hv : v = 0 := by ((try simp (disch := omega) only [i_lt, i_le, i_eq, nt, i_m1, Int32.toInt_zero] at *); omega)
        rw [if_pos hv] at hR
        refine xr_iload_n (n := 90) dX3_takeNumber_89 rfl rfl ?_
        refine xr_ireturn dX3_takeNumber_90 rfl rfl rfl ?_
        rw [hR] at hq
        exact hq
      · have hv : ¬ v = 0 := by ((try simp (disch := omega) only [i_lt, i_le, i_eq, nt, i_m1, Int32.toInt_zero] at *); omega)
        rw [if_neg hv] at hR
        have hk3 : 3 - k = (3 - (k + 1)) + 1 := by omega
        rw [hk3, hn3] at hR
        refine xr_aload_n (n := 37) dX3_takeNumber_36 rfl rfl ?_
        refine xr_get (n := 40) dX3_takeNumber_37 fl_X3_18 (by first | exact qat_0 (qput_at _ _ _ _ _) | exact qat_r (qput_at _ _ _ _ _) (by decide) | exact xat_0 (bat_out hX hd)) (by rfl) rfl ?_
        refine xr_aload_n (n := 41) dX3_takeNumber_40 rfl rfl ?_
        refine xr_get (n := 44) dX3_takeNumber_41 fl_X3_35 (by first | exact qat_0 (qput_at _ _ _ _ _) | exact qat_r (qput_at _ _ _ _ _) (by decide) | exact xat_0 (bat_out hX hd)) (by rfl) rfl ?_
        (first | (simp (disch := omega) only [nI_clamp, pk_mul, nI_add, oi1, up2_ss, up2_n, up2_sn, ur_s, ur_n, Nat.reduceMul, Nat.reduceAdd, Nat.add_zero]) | skip)
        refine xr_callV (y2 := mX5_signAt) (As := [_]) (n := 47) dX3_takeNumber_44 lm_X3_102 pm_X5_signAt pi_X5_signAt (by first | exact qat_0 (qput_at _ _ _ _ _) | exact qat_r (qput_at _ _ _ _ _) (by decide) | exact xat_0 (bat_out hX hd)) rfl rfl rfl (by simp [Value.category]) rfl ⟨Nat.le_refl _, Nat.le_refl _⟩ ?_
        refine s_X5_signAt (bat_out hX hd) hn hn2 (by omega) ?_
        dsimp only [xK, xps]
        refine xr_callS (y2 := mX3_isDigit) (As := [_]) (n := 50) dX3_takeNumber_47 lm_X3_111 pm_X3_isDigit kp_static_yX3_isDigit rfl rfl (by simp [Value.category]) rfl ⟨Nat.le_refl _, Nat.le_refl _⟩ ?_
        refine s_X3_isDigit ?_
        dsimp only [xK, xps]
        refine xr_beq (tgt := 89) (n := 53) dX3_takeNumber_50 (by decide) rfl (fun h50 => ?_) (fun h50 => ?_)
        · have hno : ¬ (b < n ∧ isDg (χ 0 b)) := fun z => h50 (by rw [show ch (χ 0) n b = χ 0 b from if_pos z.1]; exact z.2)
          rw [if_neg hno] at hR
          refine xr_iload_n (n := 90) dX3_takeNumber_89 rfl rfl ?_
          refine xr_ireturn dX3_takeNumber_90 rfl rfl rfl ?_
          rw [hR] at hq
          exact hq
        · have hbn : b < n := by
            by_cases e : b < n
            · exact e
            · have h := h50.1
              unfold ch at h
              rw [if_neg e, nt _ (by omega)] at h
              omega
          have hcb : ch (χ 0) n b = χ 0 b := if_pos hbn
          have hd2 : isDg (χ 0 b) := by rw [hcb] at h50; exact h50
          have hix2 := (ix_i (c := χ 0 b) (by have := hch b hbn; omega)).2
          rw [if_pos ⟨hbn, hd2⟩] at hR
          refine xr_iload_n (n := 54) dX3_takeNumber_53 rfl rfl ?_
          refine xr_bipush (v := nI 10) (n := 56) dX3_takeNumber_54 (by decide) rfl ?_
          refine xr_imul (n := 57) dX3_takeNumber_56 rfl ?_
          (first | (simp (disch := omega) only [nI_clamp, pk_mul, nI_add, oi1, up2_ss, up2_n, up2_sn, ur_s, ur_n, Nat.reduceMul, Nat.reduceAdd, Nat.add_zero]) | skip)
          refine xr_aload_n (n := 58) dX3_takeNumber_57 rfl rfl ?_
          refine xr_get (n := 61) dX3_takeNumber_58 fl_X3_18 (by first | exact qat_0 (qput_at _ _ _ _ _) | exact qat_r (qput_at _ _ _ _ _) (by decide) | exact xat_0 (bat_out hX hd)) (by rfl) rfl ?_
          refine xr_aload_n (n := 62) dX3_takeNumber_61 rfl rfl ?_
          refine xr_get (n := 65) dX3_takeNumber_62 fl_X3_35 (by first | exact qat_0 (qput_at _ _ _ _ _) | exact qat_r (qput_at _ _ _ _ _) (by decide) | exact xat_0 (bat_out hX hd)) (by rfl) rfl ?_
          (first | (simp (disch := omega) only [nI_clamp, pk_mul, nI_add, oi1, up2_ss, up2_n, up2_sn, ur_s, ur_n, Nat.reduceMul, Nat.reduceAdd, Nat.add_zero]) | skip)
          refine xr_callV (y2 := mX5_signAt) (As := [_]) (n := 68) dX3_takeNumber_65 lm_X3_102 pm_X5_signAt pi_X5_signAt (by first | exact qat_0 (qput_at _ _ _ _ _) | exact qat_r (qput_at _ _ _ _ _) (by decide) | exact xat_0 (bat_out hX hd)) rfl rfl rfl (by simp [Value.category]) rfl ⟨Nat.le_refl _, Nat.le_refl _⟩ ?_
          refine s_X5_signAt (bat_out hX hd) hn hn2 (by omega) ?_
          dsimp only [xK, xps]
          rw [hcb]
          refine xr_iadd (n := 69) dX3_takeNumber_68 rfl ?_
          rw [digit_a (by omega)]
          refine xr_bipush (v := nI 48) (n := 71) dX3_takeNumber_69 (by decide) rfl ?_
          refine xr_isub (n := 72) dX3_takeNumber_71 rfl ?_
          rw [digit_s (by omega)]
          refine xq_istore_n 1 (n := 73) dX3_takeNumber_72 rfl rfl rfl ?_
          simp only [xst, Nat.beq, List.filter, Bool.not_true, Bool.not_false]
          refine xr_aload_n (n := 74) dX3_takeNumber_73 rfl rfl ?_
          refine xr_dup (n := 75) dX3_takeNumber_74 rfl rfl ?_
          refine xr_get (n := 78) dX3_takeNumber_75 fl_X3_35 (by first | exact qat_0 (qput_at _ _ _ _ _) | exact qat_r (qput_at _ _ _ _ _) (by decide) | exact xat_0 (bat_out hX hd)) (by rfl) rfl ?_
          (first | (simp (disch := omega) only [nI_clamp, pk_mul, nI_add, oi1, up2_ss, up2_n, up2_sn, ur_s, ur_n, Nat.reduceMul, Nat.reduceAdd, Nat.add_zero]) | skip)
          refine xr_iconst (v := nI 1) (n := 79) dX3_takeNumber_78 (by decide) rfl ?_
          refine xr_iadd (n := 80) dX3_takeNumber_79 rfl ?_
          (first | (simp (disch := omega) only [nI_clamp, pk_mul, nI_add, oi1, up2_ss, up2_n, up2_sn, ur_s, ur_n, Nat.reduceMul, Nat.reduceAdd, Nat.add_zero]) | skip)
          refine xq_put (n := 83) dX3_takeNumber_80 fl_X3_35 rfl (by first | exact qat_0 (qput_at _ _ _ _ _) | exact qat_r (qput_at _ _ _ _ _) (by decide) | exact xat_0 (bat_out hX hd)) (by rfl) (by rfl) (by rfl) rfl ?_
          simp (disch := omega) only [nI_clamp, List.set, qw_0, qw_1, qw_2, qw_3]
          refine xr_iinc (n := 86) dX3_takeNumber_83 rfl rfl (rfl) rfl ?_
          simp only [xst, Nat.beq, List.filter, Bool.not_true, Bool.not_false]
          (first | (simp (disch := omega) only [nI_clamp, pk_mul, nI_add, oi1, up2_ss, up2_n, up2_sn, ur_s, ur_n, Nat.reduceMul, Nat.reduceAdd, Nat.add_zero]) | skip)
          refine xr_goto (n := 27) dX3_takeNumber_86 (by decide) ?_
          rw [up2_up2]
          have hdd := hd2.2
          have hdd1 := hd2.1
          rw [Nat.mul_comm v 10]
          refine ih _ _ (by omega) (by omega) (by omega) (by omega) (by omega) ?_
          rw [if_neg (by omega)]
          exact hR
  have hd2 := hdg.2
  have hd1 := hdg.1
  refine key 1 (by omega) (a + 1) (ix (χ 0 a) - 48) (by omega) (by omega) (by omega) (by omega) (by omega) ?_
  rw [← hNN]
  by_cases e0 : χ 0 a = nI 48
  · rw [if_pos e0, if_pos (by rw [e0, ix_n (by omega)]), hn3, if_pos ⟨hlt, hdg⟩]
    show nuF (χ 0) n 0 (a + 1) _ = _
    rw [Nat.mul_zero, Nat.zero_add]
    rfl
  · have hne : ¬ ix (χ 0 a) - 48 = 0 := fun z => e0 (by rw [i_eq, nt _ (by omega)]; omega)
    rw [if_neg e0, if_neg hne, hn3, if_pos ⟨hlt, hdg⟩, Nat.mul_zero, Nat.zero_add]
