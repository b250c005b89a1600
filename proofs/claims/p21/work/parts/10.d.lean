/-! THE LAW's programFits -/
theorem cnt_p {o : xO} {p : Nat} (hp : p ≤ 1) : cntV o p = oN o p := by
  rcases (show p = 0 ∨ p = 1 by omega) with rfl | rfl <;> rfl
theorem s_L_programFits {G : xG} {d : Nat} {f : Nat → xC} {r : Nat × Nat} {Q : Option Value → xM → Prop} {z p : Nat} {o : xO} (hO : OI f z o) (hp : p ≤ 1) (hq : Q (some (.int (nI 1))) (f, r)) : xMet G (d + 5) mL_programFits [.ref z, .int (nI p)] (f, r) r Q := by
  refine xMet_0 (by decide +kernel) rfl (Nat.le_of_ble_eq_true rfl) ?_
  show xX G (d + 5) mL_programFits r r (xΦ G r r Q) 0 [(0, .ref z), (1, .int (nI p))] [] (f, r)
  have hw := hO.2.wf hp
  have h60 := hO.2.n60 hp
  have hs := cntk_sum (oN o p) (fun s hs => (hw.1.2 s hs).1)
  have hd := dpm_b hw (oN o p) (Nat.le_refl _)
  have hb := setb_0 (n := oN o p) (fun s hs => (hw.1.2 s hs).2.1)
  have hg0 : prgV o p 0 = nI (oN o p) := rfl
  have hg1 : prgV o p 1 = nI (cntk (oP o p) 0 (oN o p)) := rfl
  have hg2 : prgV o p 2 = nI (cntk (oP o p) 1 (oN o p)) := rfl
  have hg3 : prgV o p 3 = nI (cntk (oP o p) 2 (oN o p)) := rfl
  have hg4 : prgV o p 4 = nI (cntk (oP o p) 3 (oN o p)) := rfl
  have hg5 : prgV o p 5 = nI (cntk (oP o p) 4 (oN o p)) := rfl
  have hg6 : prgV o p 6 = nI (dpm (oP o p) (oN o p)) := rfl
  have hg7 : prgV o p 7 = setb (oP o p) (oN o p) := rfl
  have hgc := cnt_p (o := o) hp
  unfold nst at hd
  clear hw
  generalize dpm (oP o p) (oN o p) = dp at *
  generalize setb (oP o p) (oN o p) = sb at *
  generalize cntk (oP o p) 0 (oN o p) = c0 at *
  generalize cntk (oP o p) 1 (oN o p) = c1 at *
  generalize cntk (oP o p) 2 (oN o p) = c2 at *
  generalize cntk (oP o p) 3 (oN o p) = c3 at *
  generalize cntk (oP o p) 4 (oN o p) = c4 at *
  generalize oN o p = n at *
  refine xr_iconst (v := nI 0) (n := 1) dL_programFits_0 (by decide) rfl ?_
  refine xq_istore_n 2 (n := 2) dL_programFits_1 rfl rfl rfl ?_
  simp only [xst, Nat.beq, List.filter, Bool.not_true, Bool.not_false]
  refine xr_iconst (v := nI 1) (n := 3) dL_programFits_2 (by decide) rfl ?_
  refine xq_istore_n 3 (n := 4) dL_programFits_3 rfl rfl rfl ?_
  simp only [xst, Nat.beq, List.filter, Bool.not_true, Bool.not_false]
  refine xr_iload_n (n := 5) dL_programFits_4 rfl rfl ?_
  refine xr_bipush (v := nI 6) (n := 7) dL_programFits_5 (by decide) rfl ?_
  refine xr_icmp_ge (tgt := 25) (n := 10) dL_programFits_7 (by decide) rfl (fun h7 => by (exfalso; revert h7; decide)) (fun h7 => ?_)
  refine xr_iload_n (n := 11) dL_programFits_10 rfl rfl ?_
  refine xr_aload_n (n := 12) dL_programFits_11 rfl rfl ?_
  refine xr_iload_n (n := 13) dL_programFits_12 rfl rfl ?_
  refine xr_iload_n (n := 14) dL_programFits_13 rfl rfl ?_
  refine xr_callV (y2 := mX7_program) (As := [_, _]) (n := 17) dL_programFits_14 lm_L_25 pm_X7_program pi_X7_program (by exact Exists.choose_spec hO.z) rfl rfl rfl (by simp [Value.category]) rfl ⟨Nat.le_refl _, Nat.le_refl _⟩ ?_
  refine q_program hO hp (by omega) ?_
  dsimp only [xK, xps]
  simp only [hg0, hg1, hg2, hg3, hg4, hg5, hg6, hg7, hgc]
  refine xr_iadd (n := 18) dL_programFits_17 rfl ?_
  (first | (simp (disch := omega) only [nI_clamp, pk_mul, nI_add, oi1, Nat.reduceMul, Nat.reduceAdd, Nat.add_zero]) | skip)
  refine xq_istore_n 2 (n := 19) dL_programFits_18 rfl rfl rfl ?_
  simp only [xst, Nat.beq, List.filter, Bool.not_true, Bool.not_false]
  refine xr_iinc (n := 22) dL_programFits_19 rfl rfl (rfl) rfl ?_
  simp only [xst, Nat.beq, List.filter, Bool.not_true, Bool.not_false]
  (first | (simp (disch := omega) only [nI_clamp, pk_mul, nI_add, oi1, Nat.reduceMul, Nat.reduceAdd, Nat.add_zero]) | skip)
  refine xr_goto (n := 4) dL_programFits_22 (by decide) ?_
  refine xr_iload_n (n := 5) dL_programFits_4 rfl rfl ?_
  refine xr_bipush (v := nI 6) (n := 7) dL_programFits_5 (by decide) rfl ?_
  refine xr_icmp_ge (tgt := 25) (n := 10) dL_programFits_7 (by decide) rfl (fun h7 => by (exfalso; revert h7; decide)) (fun h7 => ?_)
  refine xr_iload_n (n := 11) dL_programFits_10 rfl rfl ?_
  refine xr_aload_n (n := 12) dL_programFits_11 rfl rfl ?_
  refine xr_iload_n (n := 13) dL_programFits_12 rfl rfl ?_
  refine xr_iload_n (n := 14) dL_programFits_13 rfl rfl ?_
  refine xr_callV (y2 := mX7_program) (As := [_, _]) (n := 17) dL_programFits_14 lm_L_25 pm_X7_program pi_X7_program (by exact Exists.choose_spec hO.z) rfl rfl rfl (by simp [Value.category]) rfl ⟨Nat.le_refl _, Nat.le_refl _⟩ ?_
  refine q_program hO hp (by omega) ?_
  dsimp only [xK, xps]
  simp only [hg0, hg1, hg2, hg3, hg4, hg5, hg6, hg7, hgc]
  refine xr_iadd (n := 18) dL_programFits_17 rfl ?_
  (first | (simp (disch := omega) only [nI_clamp, pk_mul, nI_add, oi1, Nat.reduceMul, Nat.reduceAdd, Nat.add_zero]) | skip)
  refine xq_istore_n 2 (n := 19) dL_programFits_18 rfl rfl rfl ?_
  simp only [xst, Nat.beq, List.filter, Bool.not_true, Bool.not_false]
  refine xr_iinc (n := 22) dL_programFits_19 rfl rfl (rfl) rfl ?_
  simp only [xst, Nat.beq, List.filter, Bool.not_true, Bool.not_false]
  (first | (simp (disch := omega) only [nI_clamp, pk_mul, nI_add, oi1, Nat.reduceMul, Nat.reduceAdd, Nat.add_zero]) | skip)
  refine xr_goto (n := 4) dL_programFits_22 (by decide) ?_
  refine xr_iload_n (n := 5) dL_programFits_4 rfl rfl ?_
  refine xr_bipush (v := nI 6) (n := 7) dL_programFits_5 (by decide) rfl ?_
  refine xr_icmp_ge (tgt := 25) (n := 10) dL_programFits_7 (by decide) rfl (fun h7 => by (exfalso; revert h7; decide)) (fun h7 => ?_)
  refine xr_iload_n (n := 11) dL_programFits_10 rfl rfl ?_
  refine xr_aload_n (n := 12) dL_programFits_11 rfl rfl ?_
  refine xr_iload_n (n := 13) dL_programFits_12 rfl rfl ?_
  refine xr_iload_n (n := 14) dL_programFits_13 rfl rfl ?_
  refine xr_callV (y2 := mX7_program) (As := [_, _]) (n := 17) dL_programFits_14 lm_L_25 pm_X7_program pi_X7_program (by exact Exists.choose_spec hO.z) rfl rfl rfl (by simp [Value.category]) rfl ⟨Nat.le_refl _, Nat.le_refl _⟩ ?_
  refine q_program hO hp (by omega) ?_
  dsimp only [xK, xps]
  simp only [hg0, hg1, hg2, hg3, hg4, hg5, hg6, hg7, hgc]
  refine xr_iadd (n := 18) dL_programFits_17 rfl ?_
  (first | (simp (disch := omega) only [nI_clamp, pk_mul, nI_add, oi1, Nat.reduceMul, Nat.reduceAdd, Nat.add_zero]) | skip)
  refine xq_istore_n 2 (n := 19) dL_programFits_18 rfl rfl rfl ?_
  simp only [xst, Nat.beq, List.filter, Bool.not_true, Bool.not_false]
  refine xr_iinc (n := 22) dL_programFits_19 rfl rfl (rfl) rfl ?_
  simp only [xst, Nat.beq, List.filter, Bool.not_true, Bool.not_false]
  (first | (simp (disch := omega) only [nI_clamp, pk_mul, nI_add, oi1, Nat.reduceMul, Nat.reduceAdd, Nat.add_zero]) | skip)
  refine xr_goto (n := 4) dL_programFits_22 (by decide) ?_
  refine xr_iload_n (n := 5) dL_programFits_4 rfl rfl ?_
  refine xr_bipush (v := nI 6) (n := 7) dL_programFits_5 (by decide) rfl ?_
  refine xr_icmp_ge (tgt := 25) (n := 10) dL_programFits_7 (by decide) rfl (fun h7 => by (exfalso; revert h7; decide)) (fun h7 => ?_)
  refine xr_iload_n (n := 11) dL_programFits_10 rfl rfl ?_
  refine xr_aload_n (n := 12) dL_programFits_11 rfl rfl ?_
  refine xr_iload_n (n := 13) dL_programFits_12 rfl rfl ?_
  refine xr_iload_n (n := 14) dL_programFits_13 rfl rfl ?_
  refine xr_callV (y2 := mX7_program) (As := [_, _]) (n := 17) dL_programFits_14 lm_L_25 pm_X7_program pi_X7_program (by exact Exists.choose_spec hO.z) rfl rfl rfl (by simp [Value.category]) rfl ⟨Nat.le_refl _, Nat.le_refl _⟩ ?_
  refine q_program hO hp (by omega) ?_
  dsimp only [xK, xps]
  simp only [hg0, hg1, hg2, hg3, hg4, hg5, hg6, hg7, hgc]
  refine xr_iadd (n := 18) dL_programFits_17 rfl ?_
  (first | (simp (disch := omega) only [nI_clamp, pk_mul, nI_add, oi1, Nat.reduceMul, Nat.reduceAdd, Nat.add_zero]) | skip)
  refine xq_istore_n 2 (n := 19) dL_programFits_18 rfl rfl rfl ?_
  simp only [xst, Nat.beq, List.filter, Bool.not_true, Bool.not_false]
  refine xr_iinc (n := 22) dL_programFits_19 rfl rfl (rfl) rfl ?_
  simp only [xst, Nat.beq, List.filter, Bool.not_true, Bool.not_false]
  (first | (simp (disch := omega) only [nI_clamp, pk_mul, nI_add, oi1, Nat.reduceMul, Nat.reduceAdd, Nat.add_zero]) | skip)
  refine xr_goto (n := 4) dL_programFits_22 (by decide) ?_
  refine xr_iload_n (n := 5) dL_programFits_4 rfl rfl ?_
  refine xr_bipush (v := nI 6) (n := 7) dL_programFits_5 (by decide) rfl ?_
  refine xr_icmp_ge (tgt := 25) (n := 10) dL_programFits_7 (by decide) rfl (fun h7 => by (exfalso; revert h7; decide)) (fun h7 => ?_)
  refine xr_iload_n (n := 11) dL_programFits_10 rfl rfl ?_
  refine xr_aload_n (n := 12) dL_programFits_11 rfl rfl ?_
  refine xr_iload_n (n := 13) dL_programFits_12 rfl rfl ?_
  refine xr_iload_n (n := 14) dL_programFits_13 rfl rfl ?_
  refine xr_callV (y2 := mX7_program) (As := [_, _]) (n := 17) dL_programFits_14 lm_L_25 pm_X7_program pi_X7_program (by exact Exists.choose_spec hO.z) rfl rfl rfl (by simp [Value.category]) rfl ⟨Nat.le_refl _, Nat.le_refl _⟩ ?_
  refine q_program hO hp (by omega) ?_
  dsimp only [xK, xps]
  simp only [hg0, hg1, hg2, hg3, hg4, hg5, hg6, hg7, hgc]
  refine xr_iadd (n := 18) dL_programFits_17 rfl ?_
  (first | (simp (disch := omega) only [nI_clamp, pk_mul, nI_add, oi1, Nat.reduceMul, Nat.reduceAdd, Nat.add_zero]) | skip)
  refine xq_istore_n 2 (n := 19) dL_programFits_18 rfl rfl rfl ?_
  simp only [xst, Nat.beq, List.filter, Bool.not_true, Bool.not_false]
  refine xr_iinc (n := 22) dL_programFits_19 rfl rfl (rfl) rfl ?_
  simp only [xst, Nat.beq, List.filter, Bool.not_true, Bool.not_false]
  (first | (simp (disch := omega) only [nI_clamp, pk_mul, nI_add, oi1, Nat.reduceMul, Nat.reduceAdd, Nat.add_zero]) | skip)
  refine xr_goto (n := 4) dL_programFits_22 (by decide) ?_
  refine xr_iload_n (n := 5) dL_programFits_4 rfl rfl ?_
  refine xr_bipush (v := nI 6) (n := 7) dL_programFits_5 (by decide) rfl ?_
  refine xr_icmp_ge (tgt := 25) (n := 10) dL_programFits_7 (by decide) rfl (fun h7 => ?_) (fun h7 => by (exfalso; revert h7; decide))
  refine xr_aload_n (n := 26) dL_programFits_25 rfl rfl ?_
  refine xr_iload_n (n := 27) dL_programFits_26 rfl rfl ?_
  refine xr_iconst (v := nI 4) (n := 28) dL_programFits_27 (by decide) rfl ?_
  refine xr_callV (y2 := mX7_program) (As := [_, _]) (n := 31) dL_programFits_28 lm_L_25 pm_X7_program pi_X7_program (by exact Exists.choose_spec hO.z) rfl rfl rfl (by simp [Value.category]) rfl ⟨Nat.le_refl _, Nat.le_refl _⟩ ?_
  refine q_program hO hp (by omega) ?_
  dsimp only [xK, xps]
  simp only [hg0, hg1, hg2, hg3, hg4, hg5, hg6, hg7, hgc]
  refine xr_aload_n (n := 32) dL_programFits_31 rfl rfl ?_
  refine xr_iload_n (n := 33) dL_programFits_32 rfl rfl ?_
  refine xr_iconst (v := nI 5) (n := 34) dL_programFits_33 (by decide) rfl ?_
  refine xr_callV (y2 := mX7_program) (As := [_, _]) (n := 37) dL_programFits_34 lm_L_25 pm_X7_program pi_X7_program (by exact Exists.choose_spec hO.z) rfl rfl rfl (by simp [Value.category]) rfl ⟨Nat.le_refl _, Nat.le_refl _⟩ ?_
  refine q_program hO hp (by omega) ?_
  dsimp only [xK, xps]
  simp only [hg0, hg1, hg2, hg3, hg4, hg5, hg6, hg7, hgc]
  refine xr_iadd (n := 38) dL_programFits_37 rfl ?_
  (first | (simp (disch := omega) only [nI_clamp, pk_mul, nI_add, oi1, Nat.reduceMul, Nat.reduceAdd, Nat.add_zero]) | skip)
  refine xq_istore_n 3 (n := 39) dL_programFits_38 rfl rfl rfl ?_
  simp only [xst, Nat.beq, List.filter, Bool.not_true, Bool.not_false]
  refine xr_aload_n (n := 40) dL_programFits_39 rfl rfl ?_
  refine xr_iload_n (n := 41) dL_programFits_40 rfl rfl ?_
  refine xr_bipush (v := nI 6) (n := 43) dL_programFits_41 (by decide) rfl ?_
  refine xr_callV (y2 := mX7_program) (As := [_, _]) (n := 46) dL_programFits_43 lm_L_25 pm_X7_program pi_X7_program (by exact Exists.choose_spec hO.z) rfl rfl rfl (by simp [Value.category]) rfl ⟨Nat.le_refl _, Nat.le_refl _⟩ ?_
  refine q_program hO hp (by omega) ?_
  dsimp only [xK, xps]
  simp only [hg0, hg1, hg2, hg3, hg4, hg5, hg6, hg7, hgc]
  refine xr_istore (n := 48) dL_programFits_46 rfl rfl ?_
  simp only [xst, Nat.beq, List.filter, Bool.not_true, Bool.not_false]
  refine xr_aload_n (n := 49) dL_programFits_48 rfl rfl ?_
  refine xr_iload_n (n := 50) dL_programFits_49 rfl rfl ?_
  refine xr_callV (y2 := mX7_count) (As := [_]) (n := 53) dL_programFits_50 lm_L_19 pm_X7_count pi_X7_count (by exact Exists.choose_spec hO.z) rfl rfl rfl (by simp [Value.category]) rfl ⟨Nat.le_refl _, Nat.le_refl _⟩ ?_
  refine q_count hO (by omega) ?_
  dsimp only [xK, xps]
  simp only [hg0, hg1, hg2, hg3, hg4, hg5, hg6, hg7, hgc]
  refine xr_iload_n (n := 54) dL_programFits_53 rfl rfl ?_
  refine xr_icmp_ne (tgt := 156) (n := 57) dL_programFits_54 (by decide) rfl (fun h54 => by (exfalso; ((try simp (disch := omega) only [i_lt, i_le, i_eq, nt, i_m1, Int32.toInt_zero] at *); omega))) (fun h54 => ?_)
  refine xr_aload_n (n := 58) dL_programFits_57 rfl rfl ?_
  refine xr_iload_n (n := 59) dL_programFits_58 rfl rfl ?_
  refine xr_iconst (v := nI 0) (n := 60) dL_programFits_59 (by decide) rfl ?_
  refine xr_callV (y2 := mX7_program) (As := [_, _]) (n := 63) dL_programFits_60 lm_L_25 pm_X7_program pi_X7_program (by exact Exists.choose_spec hO.z) rfl rfl rfl (by simp [Value.category]) rfl ⟨Nat.le_refl _, Nat.le_refl _⟩ ?_
  refine q_program hO hp (by omega) ?_
  dsimp only [xK, xps]
  simp only [hg0, hg1, hg2, hg3, hg4, hg5, hg6, hg7, hgc]
  refine xr_iload_n (n := 64) dL_programFits_63 rfl rfl ?_
  refine xr_icmp_ne (tgt := 156) (n := 67) dL_programFits_64 (by decide) rfl (fun h64 => by (exfalso; ((try simp (disch := omega) only [i_lt, i_le, i_eq, nt, i_m1, Int32.toInt_zero] at *); omega))) (fun h64 => ?_)
  refine xr_iload_n (n := 68) dL_programFits_67 rfl rfl ?_
  refine xr_bipush (v := nI 60) (n := 70) dL_programFits_68 (by decide) rfl ?_
  refine xr_icmp_gt (tgt := 156) (n := 73) dL_programFits_70 (by decide) rfl (fun h70 => by (exfalso; ((try simp (disch := omega) only [i_lt, i_le, i_eq, nt, i_m1, Int32.toInt_zero] at *); omega))) (fun h70 => ?_)
  refine xr_iload (n := 75) dL_programFits_73 rfl rfl ?_
  refine xr_iconst (v := nI 5) (n := 76) dL_programFits_75 (by decide) rfl ?_
  refine xr_icmp_gt (tgt := 156) (n := 79) dL_programFits_76 (by decide) rfl (fun h76 => by (exfalso; ((try simp (disch := omega) only [i_lt, i_le, i_eq, nt, i_m1, Int32.toInt_zero] at *); omega))) (fun h76 => ?_)
  refine xr_iload (n := 81) dL_programFits_79 rfl rfl ?_
  refine xr_iload_n (n := 82) dL_programFits_81 rfl rfl ?_
  refine xr_icmp_gt (tgt := 156) (n := 85) dL_programFits_82 (by decide) rfl (fun h82 => by (exfalso; ((try simp (disch := omega) only [i_lt, i_le, i_eq, nt, i_m1, Int32.toInt_zero] at *); omega))) (fun h82 => ?_)
  refine xr_iload (n := 87) dL_programFits_85 rfl rfl ?_
  refine xr_if_ne (tgt := 94) (n := 90) dL_programFits_87 (by decide) rfl (fun h87 => ?_) (fun h87 => ?_)
  · refine xr_iconst (v := nI 0) (n := 95) dL_programFits_94 (by decide) rfl ?_
    refine xr_iload_n (n := 96) dL_programFits_95 rfl rfl ?_
    refine xr_if_ne (tgt := 103) (n := 99) dL_programFits_96 (by decide) rfl (fun h96 => ?_) (fun h96 => ?_)
    · refine xr_iconst (v := nI 0) (n := 104) dL_programFits_103 (by decide) rfl ?_
      refine xr_icmp_ne (tgt := 156) (n := 107) dL_programFits_104 (by decide) rfl (fun h104 => by (exfalso; revert h104; decide)) (fun h104 => ?_)
      refine xr_aload_n (n := 108) dL_programFits_107 rfl rfl ?_
      refine xr_iload_n (n := 109) dL_programFits_108 rfl rfl ?_
      refine xr_bipush (v := nI 7) (n := 111) dL_programFits_109 (by decide) rfl ?_
      refine xr_callV (y2 := mX7_program) (As := [_, _]) (n := 114) dL_programFits_111 lm_L_25 pm_X7_program pi_X7_program (by exact Exists.choose_spec hO.z) rfl rfl rfl (by simp [Value.category]) rfl ⟨Nat.le_refl _, Nat.le_refl _⟩ ?_
      refine q_program hO hp (by omega) ?_
      dsimp only [xK, xps]
      simp only [hg0, hg1, hg2, hg3, hg4, hg5, hg6, hg7, hgc]
      refine xr_if_ne (tgt := 121) (n := 117) dL_programFits_114 (by decide) rfl (fun h114 => ?_) (fun h114 => ?_)
      · refine xr_iconst (v := nI 0) (n := 122) dL_programFits_121 (by decide) rfl ?_
        refine xr_aload_n (n := 123) dL_programFits_122 rfl rfl ?_
        refine xr_iload_n (n := 124) dL_programFits_123 rfl rfl ?_
        refine xr_iconst (v := nI 1) (n := 125) dL_programFits_124 (by decide) rfl ?_
        refine xr_callV (y2 := mX7_program) (As := [_, _]) (n := 128) dL_programFits_125 lm_L_25 pm_X7_program pi_X7_program (by exact Exists.choose_spec hO.z) rfl rfl rfl (by simp [Value.category]) rfl ⟨Nat.le_refl _, Nat.le_refl _⟩ ?_
        refine q_program hO hp (by omega) ?_
        dsimp only [xK, xps]
        simp only [hg0, hg1, hg2, hg3, hg4, hg5, hg6, hg7, hgc]
        refine xr_if_ne (tgt := 135) (n := 131) dL_programFits_128 (by decide) rfl (fun h128 => ?_) (fun h128 => ?_)
        · refine xr_iconst (v := nI 0) (n := 136) dL_programFits_135 (by decide) rfl ?_
          refine xr_icmp_ne (tgt := 156) (n := 139) dL_programFits_136 (by decide) rfl (fun h136 => by (exfalso; revert h136; decide)) (fun h136 => ?_)
          refine xr_aload_n (n := 140) dL_programFits_139 rfl rfl ?_
          refine xr_iload_n (n := 141) dL_programFits_140 rfl rfl ?_
          refine xr_bipush (v := nI 8) (n := 143) dL_programFits_141 (by decide) rfl ?_
          refine xr_callV (y2 := mX7_program) (As := [_, _]) (n := 146) dL_programFits_143 lm_L_25 pm_X7_program pi_X7_program (by exact Exists.choose_spec hO.z) rfl rfl rfl (by simp [Value.category]) rfl ⟨Nat.le_refl _, Nat.le_refl _⟩ ?_
          refine q_program8 hO hp ?_
          dsimp only [xK, xps]
          refine xr_sipush (v := (-10001)) (n := 149) dL_programFits_146 (by decide) rfl ?_
          refine xr_icmp_ne (tgt := 156) (n := 152) dL_programFits_149 (by decide) rfl (fun h149 => by (exact absurd rfl h149)) (fun h149 => ?_)
          refine xr_iconst (v := nI 1) (n := 153) dL_programFits_152 (by decide) rfl ?_
          refine xr_goto (n := 157) dL_programFits_153 (by decide) ?_
          refine xr_ireturn dL_programFits_157 rfl (by first | exact b2i_nar | exact nar_1 | exact nar_0) rfl ?_
          exact hq
        · exfalso; ((try simp (disch := omega) only [i_lt, i_le, i_eq, nt, i_m1, Int32.toInt_zero] at *); omega)
      · refine xr_iconst (v := nI 1) (n := 118) dL_programFits_117 (by decide) rfl ?_
        refine xr_goto (n := 122) dL_programFits_118 (by decide) ?_
        refine xr_aload_n (n := 123) dL_programFits_122 rfl rfl ?_
        refine xr_iload_n (n := 124) dL_programFits_123 rfl rfl ?_
        refine xr_iconst (v := nI 1) (n := 125) dL_programFits_124 (by decide) rfl ?_
        refine xr_callV (y2 := mX7_program) (As := [_, _]) (n := 128) dL_programFits_125 lm_L_25 pm_X7_program pi_X7_program (by exact Exists.choose_spec hO.z) rfl rfl rfl (by simp [Value.category]) rfl ⟨Nat.le_refl _, Nat.le_refl _⟩ ?_
        refine q_program hO hp (by omega) ?_
        dsimp only [xK, xps]
        simp only [hg0, hg1, hg2, hg3, hg4, hg5, hg6, hg7, hgc]
        refine xr_if_ne (tgt := 135) (n := 131) dL_programFits_128 (by decide) rfl (fun h128 => ?_) (fun h128 => ?_)
        · exfalso; ((try simp (disch := omega) only [i_lt, i_le, i_eq, nt, i_m1, Int32.toInt_zero] at *); omega)
        · refine xr_iconst (v := nI 1) (n := 132) dL_programFits_131 (by decide) rfl ?_
          refine xr_goto (n := 136) dL_programFits_132 (by decide) ?_
          refine xr_icmp_ne (tgt := 156) (n := 139) dL_programFits_136 (by decide) rfl (fun h136 => by (exfalso; revert h136; decide)) (fun h136 => ?_)
          refine xr_aload_n (n := 140) dL_programFits_139 rfl rfl ?_
          refine xr_iload_n (n := 141) dL_programFits_140 rfl rfl ?_
          refine xr_bipush (v := nI 8) (n := 143) dL_programFits_141 (by decide) rfl ?_
          refine xr_callV (y2 := mX7_program) (As := [_, _]) (n := 146) dL_programFits_143 lm_L_25 pm_X7_program pi_X7_program (by exact Exists.choose_spec hO.z) rfl rfl rfl (by simp [Value.category]) rfl ⟨Nat.le_refl _, Nat.le_refl _⟩ ?_
          refine q_program8 hO hp ?_
          dsimp only [xK, xps]
          refine xr_sipush (v := (-10001)) (n := 149) dL_programFits_146 (by decide) rfl ?_
          refine xr_icmp_ne (tgt := 156) (n := 152) dL_programFits_149 (by decide) rfl (fun h149 => by (exact absurd rfl h149)) (fun h149 => ?_)
          refine xr_iconst (v := nI 1) (n := 153) dL_programFits_152 (by decide) rfl ?_
          refine xr_goto (n := 157) dL_programFits_153 (by decide) ?_
          refine xr_ireturn dL_programFits_157 rfl (by first | exact b2i_nar | exact nar_1 | exact nar_0) rfl ?_
          exact hq
    · exfalso; ((try simp (disch := omega) only [i_lt, i_le, i_eq, nt, i_m1, Int32.toInt_zero] at *); omega)
  · refine xr_iconst (v := nI 1) (n := 91) dL_programFits_90 (by decide) rfl ?_
    refine xr_goto (n := 95) dL_programFits_91 (by decide) ?_
    refine xr_iload_n (n := 96) dL_programFits_95 rfl rfl ?_
    refine xr_if_ne (tgt := 103) (n := 99) dL_programFits_96 (by decide) rfl (fun h96 => ?_) (fun h96 => ?_)
    · exfalso; ((try simp (disch := omega) only [i_lt, i_le, i_eq, nt, i_m1, Int32.toInt_zero] at *); omega)
    · refine xr_iconst (v := nI 1) (n := 100) dL_programFits_99 (by decide) rfl ?_
      refine xr_goto (n := 104) dL_programFits_100 (by decide) ?_
      refine xr_icmp_ne (tgt := 156) (n := 107) dL_programFits_104 (by decide) rfl (fun h104 => by (exfalso; revert h104; decide)) (fun h104 => ?_)
      refine xr_aload_n (n := 108) dL_programFits_107 rfl rfl ?_
      refine xr_iload_n (n := 109) dL_programFits_108 rfl rfl ?_
      refine xr_bipush (v := nI 7) (n := 111) dL_programFits_109 (by decide) rfl ?_
      refine xr_callV (y2 := mX7_program) (As := [_, _]) (n := 114) dL_programFits_111 lm_L_25 pm_X7_program pi_X7_program (by exact Exists.choose_spec hO.z) rfl rfl rfl (by simp [Value.category]) rfl ⟨Nat.le_refl _, Nat.le_refl _⟩ ?_
      refine q_program hO hp (by omega) ?_
      dsimp only [xK, xps]
      simp only [hg0, hg1, hg2, hg3, hg4, hg5, hg6, hg7, hgc]
      refine xr_if_ne (tgt := 121) (n := 117) dL_programFits_114 (by decide) rfl (fun h114 => ?_) (fun h114 => ?_)
      · refine xr_iconst (v := nI 0) (n := 122) dL_programFits_121 (by decide) rfl ?_
        refine xr_aload_n (n := 123) dL_programFits_122 rfl rfl ?_
        refine xr_iload_n (n := 124) dL_programFits_123 rfl rfl ?_
        refine xr_iconst (v := nI 1) (n := 125) dL_programFits_124 (by decide) rfl ?_
        refine xr_callV (y2 := mX7_program) (As := [_, _]) (n := 128) dL_programFits_125 lm_L_25 pm_X7_program pi_X7_program (by exact Exists.choose_spec hO.z) rfl rfl rfl (by simp [Value.category]) rfl ⟨Nat.le_refl _, Nat.le_refl _⟩ ?_
        refine q_program hO hp (by omega) ?_
        dsimp only [xK, xps]
        simp only [hg0, hg1, hg2, hg3, hg4, hg5, hg6, hg7, hgc]
        refine xr_if_ne (tgt := 135) (n := 131) dL_programFits_128 (by decide) rfl (fun h128 => ?_) (fun h128 => ?_)
        · refine xr_iconst (v := nI 0) (n := 136) dL_programFits_135 (by decide) rfl ?_
          refine xr_icmp_ne (tgt := 156) (n := 139) dL_programFits_136 (by decide) rfl (fun h136 => by (exfalso; revert h136; decide)) (fun h136 => ?_)
          refine xr_aload_n (n := 140) dL_programFits_139 rfl rfl ?_
          refine xr_iload_n (n := 141) dL_programFits_140 rfl rfl ?_
          refine xr_bipush (v := nI 8) (n := 143) dL_programFits_141 (by decide) rfl ?_
          refine xr_callV (y2 := mX7_program) (As := [_, _]) (n := 146) dL_programFits_143 lm_L_25 pm_X7_program pi_X7_program (by exact Exists.choose_spec hO.z) rfl rfl rfl (by simp [Value.category]) rfl ⟨Nat.le_refl _, Nat.le_refl _⟩ ?_
          refine q_program8 hO hp ?_
          dsimp only [xK, xps]
          refine xr_sipush (v := (-10001)) (n := 149) dL_programFits_146 (by decide) rfl ?_
          refine xr_icmp_ne (tgt := 156) (n := 152) dL_programFits_149 (by decide) rfl (fun h149 => by (exact absurd rfl h149)) (fun h149 => ?_)
          refine xr_iconst (v := nI 1) (n := 153) dL_programFits_152 (by decide) rfl ?_
          refine xr_goto (n := 157) dL_programFits_153 (by decide) ?_
          refine xr_ireturn dL_programFits_157 rfl (by first | exact b2i_nar | exact nar_1 | exact nar_0) rfl ?_
          exact hq
        · exfalso; ((try simp (disch := omega) only [i_lt, i_le, i_eq, nt, i_m1, Int32.toInt_zero] at *); omega)
      · refine xr_iconst (v := nI 1) (n := 118) dL_programFits_117 (by decide) rfl ?_
        refine xr_goto (n := 122) dL_programFits_118 (by decide) ?_
        refine xr_aload_n (n := 123) dL_programFits_122 rfl rfl ?_
        refine xr_iload_n (n := 124) dL_programFits_123 rfl rfl ?_
        refine xr_iconst (v := nI 1) (n := 125) dL_programFits_124 (by decide) rfl ?_
        refine xr_callV (y2 := mX7_program) (As := [_, _]) (n := 128) dL_programFits_125 lm_L_25 pm_X7_program pi_X7_program (by exact Exists.choose_spec hO.z) rfl rfl rfl (by simp [Value.category]) rfl ⟨Nat.le_refl _, Nat.le_refl _⟩ ?_
        refine q_program hO hp (by omega) ?_
        dsimp only [xK, xps]
        simp only [hg0, hg1, hg2, hg3, hg4, hg5, hg6, hg7, hgc]
        refine xr_if_ne (tgt := 135) (n := 131) dL_programFits_128 (by decide) rfl (fun h128 => ?_) (fun h128 => ?_)
        · exfalso; ((try simp (disch := omega) only [i_lt, i_le, i_eq, nt, i_m1, Int32.toInt_zero] at *); omega)
        · refine xr_iconst (v := nI 1) (n := 132) dL_programFits_131 (by decide) rfl ?_
          refine xr_goto (n := 136) dL_programFits_132 (by decide) ?_
          refine xr_icmp_ne (tgt := 156) (n := 139) dL_programFits_136 (by decide) rfl (fun h136 => by (exfalso; revert h136; decide)) (fun h136 => ?_)
          refine xr_aload_n (n := 140) dL_programFits_139 rfl rfl ?_
          refine xr_iload_n (n := 141) dL_programFits_140 rfl rfl ?_
          refine xr_bipush (v := nI 8) (n := 143) dL_programFits_141 (by decide) rfl ?_
          refine xr_callV (y2 := mX7_program) (As := [_, _]) (n := 146) dL_programFits_143 lm_L_25 pm_X7_program pi_X7_program (by exact Exists.choose_spec hO.z) rfl rfl rfl (by simp [Value.category]) rfl ⟨Nat.le_refl _, Nat.le_refl _⟩ ?_
          refine q_program8 hO hp ?_
          dsimp only [xK, xps]
          refine xr_sipush (v := (-10001)) (n := 149) dL_programFits_146 (by decide) rfl ?_
          refine xr_icmp_ne (tgt := 156) (n := 152) dL_programFits_149 (by decide) rfl (fun h149 => by (exact absurd rfl h149)) (fun h149 => ?_)
          refine xr_iconst (v := nI 1) (n := 153) dL_programFits_152 (by decide) rfl ?_
          refine xr_goto (n := 157) dL_programFits_153 (by decide) ?_
          refine xr_ireturn dL_programFits_157 rfl (by first | exact b2i_nar | exact nar_1 | exact nar_0) rfl ?_
          exact hq
