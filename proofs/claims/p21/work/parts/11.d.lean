/-! THE LAW's loop -/
theorem hpu_s {α : Type} (X : Nat → Nat → α) {sv : Nat} (Y : Nat → α) (h : sv < 5) (i : Nat) : hpu X sv Y sv i = Y i := by
  unfold hpu
  rw [if_neg (show ¬ sv = 5 by omega)]
  exact if_pos rfl
theorem s_L_cell {G : xG} {d b L k : Nat} {xs : Nat → Int32} {f : Nat → xC} {r : Nat × Nat} {Q : Option Value → xM → Prop} (hL : L ≤ 260) (hk : k < 1000) (hq : ∀ v : Int32, Q (some (.int v)) (f, r)) : xSMet G d b L xs mL_cell [.ref b, .int (nI k)] (f, r) r Q := by
  refine xSMet_of (by decide +kernel) ⟨Nat.le_refl _, Nat.le_refl _⟩ rfl (Nat.le_of_ble_eq_true rfl) ?_
  show xX G d mL_cell r r (xΦS G b L xs r r Q) 0 [(0, .ref b), (1, .int (nI k))] [] (f, r)
  refine xr_iload_n (n := 1) dL_cell_0 rfl rfl ?_
  refine xr_aload_n (n := 2) dL_cell_1 rfl rfl ?_
  refine xl_slen (n := 3) (L := L) (xs := xs) xΦS_x dL_cell_2 rfl ?_
  refine xr_icmp_ge (tgt := 12) (n := 6) dL_cell_3 (by decide) rfl (fun h3 => ?_) (fun h3 => ?_)
  · refine xr_ldc (v := 461845907) (n := 14) dL_cell_12 kk_L_7 rfl ?_
    refine xr_iload_n (n := 15) dL_cell_14 rfl rfl ?_
    refine xr_iconst (v := nI 1) (n := 16) dL_cell_15 (by decide) rfl ?_
    refine xr_iadd (n := 17) dL_cell_16 rfl ?_
    refine xr_imul (n := 18) dL_cell_17 rfl ?_
    exact xs_ireturn dL_cell_18 rfl rfl rfl (hq _)
  · have hkL : k < L := by rw [i_le, nt _ (by omega), nt _ (by omega)] at h3; omega
    refine xr_aload_n (n := 7) dL_cell_6 rfl rfl ?_
    refine xr_iload_n (n := 8) dL_cell_7 rfl rfl ?_
    refine xl_sld (n := 9) (L := L) (xs := xs) xΦS_x dL_cell_8 (vp_in_nI hkL (by omega)) rfl ?_
    refine xr_goto (n := 18) dL_cell_9 (by decide) ?_
    exact xs_ireturn dL_cell_18 rfl rfl rfl (hq _)
theorem law_loop {G : xG} {nm : String} {b L z : Nat} {sc : Nat → Int32} {r0 r : Nat × Nat} (hL : L ≤ 260) (hlim : r.1 - r0.1 ≤ 600000 ∧ r.2 - r0.2 ≤ 7302250) : ∀ k, k ≤ 9 → ∀ (o : xO) (f : Nat → xC), OI f z o → xX G 13 (mLw nm) r0 r (xΦL G b L sc) 16 [(0, .ref b), (1, .ref z), (2, .int (nI 1)), (3, .int (nI k))] [] (f, r) := by
  refine nat_down (P := fun k => ∀ (o : xO) (f : Nat → xC), OI f z o → xX G 13 (mLw nm) r0 r (xΦL G b L sc) 16 [(0, .ref b), (1, .ref z), (2, .int (nI 1)), (3, .int (nI k))] [] (f, r)) (N := 9) ?_ ?_
  · intro o f hO
    refine xr_iload_n (n := 17) dL_law_16 rfl rfl ?_
    refine xr_bipush (v := nI 9) (n := 19) dL_law_17 (by decide) rfl ?_
    refine xr_icmp_ge (tgt := 185) (n := 22) dL_law_19 (by decide) rfl (fun h19 => ?_) (fun h19 => by (exfalso; ((try simp (disch := omega) only [i_lt, i_le, i_eq, nt, i_m1, Int32.toInt_zero] at *); omega)))
    refine xr_iload_n (n := 186) dL_law_185 rfl rfl ?_
    rw [show nI 1 = (1 : Int32) from rfl]
    exact xl_ret dL_law_186 hlim
  · intro k hk ih o f hO
    have k157 : ∀ (x y : Int32) (h : Int64) (hd e : Int32) (o : xO) (f : Nat → xC), OI f z o → xX G 13 (mLw nm) r0 r (xΦL G b L sc) 157 [(0, .ref b), (1, .ref z), (2, .int (nI 1)), (3, .int (nI k)), (4, .int x), (5, .int y), (6, .long h), (8, .int hd), (9, .int e)] [] (f, r) := by
      intro x y h hd e o f hO
      refine xr_iload_n (n := 158) dL_law_157 rfl rfl ?_
      refine xr_if_eq (tgt := 177) (n := 161) dL_law_158 (by decide) rfl (fun h158 => by (exfalso; revert h158; decide)) (fun h158 => ?_)
      refine xr_aload_n (n := 162) dL_law_161 rfl rfl ?_
      refine xr_iload (n := 164) dL_law_162 rfl rfl ?_
      refine xr_iload (n := 166) dL_law_164 rfl rfl ?_
      refine xr_ixor (n := 167) dL_law_166 rfl ?_
      refine xr_callS (y2 := mL_fits) (As := [_, _]) (n := 170) dL_law_167 lm_L_116 pm_L_fits kp_static_yL_fits rfl rfl (by simp [Value.category]) rfl ⟨Nat.le_refl _, Nat.le_refl _⟩ ?_
      refine s_L_fits hO (fun f hO => ?_)
      dsimp only [xK, xps]
      refine xr_if_eq (tgt := 177) (n := 173) dL_law_170 (by decide) rfl (fun h170 => by (exfalso; revert h170; decide)) (fun h170 => ?_)
      refine xr_iconst (v := nI 1) (n := 174) dL_law_173 (by decide) rfl ?_
      refine xr_goto (n := 178) dL_law_174 (by decide) ?_
      refine xq_istore_n 2 (n := 179) dL_law_178 rfl rfl rfl ?_
      simp only [xst, Nat.beq, List.filter, Bool.not_true, Bool.not_false]
      refine xr_iinc (n := 182) dL_law_179 rfl rfl (rfl) rfl ?_
      simp only [xst, Nat.beq, List.filter, Bool.not_true, Bool.not_false]
      (first | (simp (disch := omega) only [nI_clamp, pk_mul, nI_add, oi1, Nat.reduceMul, Nat.reduceAdd, Nat.add_zero]) | skip)
      refine xr_goto (n := 16) dL_law_182 (by decide) ?_
      refine xX.drop 9 ?_
      simp only [List.filter, Nat.beq, Bool.not_true, Bool.not_false]
      refine xX.drop 8 ?_
      simp only [List.filter, Nat.beq, Bool.not_true, Bool.not_false]
      refine xX.drop 6 ?_
      simp only [List.filter, Nat.beq, Bool.not_true, Bool.not_false]
      refine xX.drop 5 ?_
      simp only [List.filter, Nat.beq, Bool.not_true, Bool.not_false]
      refine xX.drop 4 ?_
      simp only [List.filter, Nat.beq, Bool.not_true, Bool.not_false]
      exact ih o f hO
    have hS5 := hO.2.s5
    refine xr_iload_n (n := 17) dL_law_16 rfl rfl ?_
    refine xr_bipush (v := nI 9) (n := 19) dL_law_17 (by decide) rfl ?_
    refine xr_icmp_ge (tgt := 185) (n := 22) dL_law_19 (by decide) rfl (fun h19 => by (exfalso; ((try simp (disch := omega) only [i_lt, i_le, i_eq, nt, i_m1, Int32.toInt_zero] at *); omega))) (fun h19 => ?_)
    refine xr_iload_n (n := 23) dL_law_22 rfl rfl ?_
    refine xr_if_eq (tgt := 185) (n := 26) dL_law_23 (by decide) rfl (fun h23 => by (exfalso; revert h23; decide)) (fun h23 => ?_)
    refine xr_aload_n (n := 27) dL_law_26 rfl rfl ?_
    refine xr_iconst (v := nI 2) (n := 28) dL_law_27 (by decide) rfl ?_
    refine xr_iload_n (n := 29) dL_law_28 rfl rfl ?_
    refine xr_imul (n := 30) dL_law_29 rfl ?_
    (first | (simp (disch := omega) only [nI_clamp, pk_mul, nI_add, oi1, Nat.reduceMul, Nat.reduceAdd, Nat.add_zero]) | skip)
    refine xr_callSS (y2 := mL_cell) (As := [_, _]) (n := 33) (b := b) (L := L) (xs := sc) xΦL_x dL_law_30 lm_L_119 pm_L_cell kp_static_yL_cell rfl rfl (by simp [Value.category]) rfl ⟨Nat.le_refl _, Nat.le_refl _⟩ ?_
    refine s_L_cell hL (by omega) (fun x => ?_)
    dsimp only [xK, xps]
    refine xr_istore (n := 35) dL_law_33 rfl rfl ?_
    simp only [xst, Nat.beq, List.filter, Bool.not_true, Bool.not_false]
    refine xr_aload_n (n := 36) dL_law_35 rfl rfl ?_
    refine xr_iconst (v := nI 2) (n := 37) dL_law_36 (by decide) rfl ?_
    refine xr_iload_n (n := 38) dL_law_37 rfl rfl ?_
    refine xr_imul (n := 39) dL_law_38 rfl ?_
    (first | (simp (disch := omega) only [nI_clamp, pk_mul, nI_add, oi1, Nat.reduceMul, Nat.reduceAdd, Nat.add_zero]) | skip)
    refine xr_iconst (v := nI 1) (n := 40) dL_law_39 (by decide) rfl ?_
    refine xr_iadd (n := 41) dL_law_40 rfl ?_
    (first | (simp (disch := omega) only [nI_clamp, pk_mul, nI_add, oi1, Nat.reduceMul, Nat.reduceAdd, Nat.add_zero]) | skip)
    refine xr_callSS (y2 := mL_cell) (As := [_, _]) (n := 44) (b := b) (L := L) (xs := sc) xΦL_x dL_law_41 lm_L_119 pm_L_cell kp_static_yL_cell rfl rfl (by simp [Value.category]) rfl ⟨Nat.le_refl _, Nat.le_refl _⟩ ?_
    refine s_L_cell hL (by omega) (fun y => ?_)
    dsimp only [xK, xps]
    refine xr_istore (n := 46) dL_law_44 rfl rfl ?_
    simp only [xst, Nat.beq, List.filter, Bool.not_true, Bool.not_false]
    refine xr_aload_n (n := 47) dL_law_46 rfl rfl ?_
    refine xr_callS (y2 := mL_trace) (As := [_]) (n := 50) dL_law_47 lm_L_66 pm_L_trace kp_static_yL_trace rfl rfl (by simp [Value.category]) rfl ⟨Nat.le_refl _, Nat.le_refl _⟩ ?_
    refine s_L_trace hO (fun f hO => ?_)
    dsimp only [xK, xps]
    refine xr_lstore (n := 52) dL_law_50 rfl rfl ?_
    simp only [xst, Nat.beq, List.filter, Bool.not_true, Bool.not_false]
    refine xr_aload_n (n := 53) dL_law_52 rfl rfl ?_
    refine xr_iconst (v := nI 2) (n := 54) dL_law_53 (by decide) rfl ?_
    refine xr_callV (y2 := mX7_count) (As := [_]) (n := 57) dL_law_54 lm_L_19 pm_X7_count pi_X7_count (by exact Exists.choose_spec hO.z) rfl rfl rfl (by simp [Value.category]) rfl ⟨Nat.le_refl _, Nat.le_refl _⟩ ?_
    refine q_count hO (by omega) ?_
    dsimp only [xK, xps]
    rw [show cntV o 2 = oS o from rfl]
    refine xr_istore (n := 59) dL_law_57 rfl rfl ?_
    simp only [xst, Nat.beq, List.filter, Bool.not_true, Bool.not_false]
    refine xr_aload_n (n := 60) dL_law_59 rfl rfl ?_
    refine xr_iload (n := 62) dL_law_60 rfl rfl ?_
    refine xr_iload (n := 64) dL_law_62 rfl rfl ?_
    refine xr_callS (y2 := mL_goes) (As := [_, _, _]) (n := 67) dL_law_64 lm_L_122 pm_L_goes kp_static_yL_goes rfl rfl (by simp [Value.category]) rfl ⟨Nat.le_refl _, Nat.le_refl _⟩ ?_
    refine s_L_goes hO (fun e f t n he hO => ?_) (fun f t n N P hO => ?_)
    · dsimp only [xK, xps]
      have he1 : ¬ nI 1 ≤ e := by rcases he with rfl | rfl <;> decide
      have he0 : ¬ e = 0 := by rcases he with rfl | rfl <;> decide
      refine xr_istore (n := 69) dL_law_67 rfl rfl ?_
      simp only [xst, Nat.beq, List.filter, Bool.not_true, Bool.not_false]
      refine xr_iload (n := 71) dL_law_69 rfl rfl ?_
      refine xr_iconst (v := nI 1) (n := 72) dL_law_71 (by decide) rfl ?_
      refine xr_icmp_ge (tgt := 94) (n := 75) dL_law_72 (by decide) rfl (fun h72 => by (exact absurd h72 he1)) (fun h72 => ?_)
      refine xr_iload (n := 77) dL_law_75 rfl rfl ?_
      refine xr_if_eq (tgt := 90) (n := 80) dL_law_77 (by decide) rfl (fun h77 => by (exact absurd h77 he0)) (fun h77 => ?_)
      refine xr_aload_n (n := 81) dL_law_80 rfl rfl ?_
      refine xr_callS (y2 := mL_trace) (As := [_]) (n := 84) dL_law_81 lm_L_66 pm_L_trace kp_static_yL_trace rfl rfl (by simp [Value.category]) rfl ⟨Nat.le_refl _, Nat.le_refl _⟩ ?_
      refine s_L_trace hO (fun f hO => ?_)
      dsimp only [xK, xps]
      refine xr_lload (n := 86) dL_law_84 rfl rfl ?_
      refine xr_lcmp (n := 87) dL_law_86 rfl ?_
      rw [show tvV (oTx o t n) = tvV o from tvV_cg rfl (fun _ _ => rfl) (fun _ _ => rfl), lg_same]
      refine xr_if_ne (tgt := 94) (n := 90) dL_law_87 (by decide) rfl (fun h87 => by (exact absurd rfl h87)) (fun h87 => ?_)
      refine xr_iconst (v := nI 1) (n := 91) dL_law_90 (by decide) rfl ?_
      refine xr_goto (n := 95) dL_law_91 (by decide) ?_
      refine xq_istore_n 2 (n := 96) dL_law_95 rfl rfl rfl ?_
      simp only [xst, Nat.beq, List.filter, Bool.not_true, Bool.not_false]
      refine xr_iload_n (n := 97) dL_law_96 rfl rfl ?_
      refine xr_if_eq (tgt := 157) (n := 100) dL_law_97 (by decide) rfl (fun h97 => by (exfalso; revert h97; decide)) (fun h97 => ?_)
      refine xr_iload (n := 102) dL_law_100 rfl rfl ?_
      refine xr_if_ne (tgt := 157) (n := 105) dL_law_102 (by decide) rfl (fun h102 => ?_) (fun h102 => by (exact absurd h102 he0))
      exact k157 _ _ _ _ _ _ f hO
    · dsimp only [xK, xps]
      refine xr_istore (n := 69) dL_law_67 rfl rfl ?_
      simp only [xst, Nat.beq, List.filter, Bool.not_true, Bool.not_false]
      refine xr_iload (n := 71) dL_law_69 rfl rfl ?_
      refine xr_iconst (v := nI 1) (n := 72) dL_law_71 (by decide) rfl ?_
      refine xr_icmp_ge (tgt := 94) (n := 75) dL_law_72 (by decide) rfl (fun h72 => by (exfalso; revert h72; decide)) (fun h72 => ?_)
      refine xr_iload (n := 77) dL_law_75 rfl rfl ?_
      refine xr_if_eq (tgt := 90) (n := 80) dL_law_77 (by decide) rfl (fun h77 => ?_) (fun h77 => by (exfalso; revert h77; decide))
      refine xr_iconst (v := nI 1) (n := 91) dL_law_90 (by decide) rfl ?_
      refine xr_goto (n := 95) dL_law_91 (by decide) ?_
      refine xq_istore_n 2 (n := 96) dL_law_95 rfl rfl rfl ?_
      simp only [xst, Nat.beq, List.filter, Bool.not_true, Bool.not_false]
      refine xr_iload_n (n := 97) dL_law_96 rfl rfl ?_
      refine xr_if_eq (tgt := 157) (n := 100) dL_law_97 (by decide) rfl (fun h97 => by (exfalso; revert h97; decide)) (fun h97 => ?_)
      refine xr_iload (n := 102) dL_law_100 rfl rfl ?_
      refine xr_if_ne (tgt := 157) (n := 105) dL_law_102 (by decide) rfl (fun h102 => by (exfalso; revert h102; decide)) (fun h102 => ?_)
      refine xr_iload (n := 107) dL_law_105 rfl rfl ?_
      refine xr_iconst (v := nI 5) (n := 108) dL_law_107 (by decide) rfl ?_
      refine xr_icmp_ge (tgt := 157) (n := 111) dL_law_108 (by decide) rfl (fun h108 => ?_) (fun h108 => ?_)
      · exact k157 _ _ _ _ _ _ f hO
      · have hs5 : oS o < 5 := by (have h50 := hS5; ((try simp (disch := omega) only [i_lt, i_le, i_eq, nt, i_m1, Int32.toInt_zero] at *); omega))
        have hsp : oS (oPut (oTx o t n) N P) = oS o + 1 := by
          show spu (oS o) = _
          unfold spu
          rw [if_neg (by omega)]
        have htb : tvV (oBack (oPut (oTx o t n) N P) (oS o)) = tvV o := tvV_cg rfl (fun p _ => hpu_s (oHN o) (oN o) hs5 p) (fun p _ => hpu_s (oHP o) (oP o) hs5 p)
        refine xr_aload_n (n := 112) dL_law_111 rfl rfl ?_
        refine xr_iconst (v := nI 2) (n := 113) dL_law_112 (by decide) rfl ?_
        refine xr_callV (y2 := mX7_count) (As := [_]) (n := 116) dL_law_113 lm_L_19 pm_X7_count pi_X7_count (by exact Exists.choose_spec hO.z) rfl rfl rfl (by simp [Value.category]) rfl ⟨Nat.le_refl _, Nat.le_refl _⟩ ?_
        refine q_count hO (by omega) ?_
        dsimp only [xK, xps]
        rw [show cntV (oPut (oTx o t n) N P) 2 = oS o + 1 from hsp]
        refine xr_iload (n := 118) dL_law_116 rfl rfl ?_
        refine xr_iconst (v := nI 1) (n := 119) dL_law_118 (by decide) rfl ?_
        refine xr_iadd (n := 120) dL_law_119 rfl ?_
        (first | (simp (disch := omega) only [nI_clamp, pk_mul, nI_add, oi1, Nat.reduceMul, Nat.reduceAdd, Nat.add_zero]) | skip)
        refine xr_icmp_ne (tgt := 146) (n := 123) dL_law_120 (by decide) rfl (fun h120 => by (exact absurd rfl h120)) (fun h120 => ?_)
        refine xr_aload_n (n := 124) dL_law_123 rfl rfl ?_
        refine xr_callV (y2 := mX7_undo) (As := []) (n := 127) dL_law_124 lm_L_125 pm_X7_undo pi_X7_undo (by exact Exists.choose_spec hO.z) rfl rfl rfl (by simp [Value.category]) rfl ⟨Nat.le_refl _, Nat.le_refl _⟩ ?_
        refine q_undo hO (fun h9 => absurd (hsp.symm.trans h9) (by omega)) (fun q hq9 f hO => ?_)
        have eq9 : q = oS o := by have := hq9.symm.trans hsp; omega
        subst eq9
        dsimp only [xK, xps]
        refine xr_iload (n := 129) dL_law_127 rfl rfl ?_
        refine xr_icmp_ne (tgt := 146) (n := 132) dL_law_129 (by decide) rfl (fun h129 => by (exact absurd rfl h129)) (fun h129 => ?_)
        refine xr_aload_n (n := 133) dL_law_132 rfl rfl ?_
        refine xr_callS (y2 := mL_trace) (As := [_]) (n := 136) dL_law_133 lm_L_66 pm_L_trace kp_static_yL_trace rfl rfl (by simp [Value.category]) rfl ⟨Nat.le_refl _, Nat.le_refl _⟩ ?_
        refine s_L_trace hO (fun f hO => ?_)
        dsimp only [xK, xps]
        refine xr_lload (n := 138) dL_law_136 rfl rfl ?_
        refine xr_lcmp (n := 139) dL_law_138 rfl ?_
        rw [htb, lg_same]
        refine xr_if_ne (tgt := 146) (n := 142) dL_law_139 (by decide) rfl (fun h139 => by (exact absurd rfl h139)) (fun h139 => ?_)
        refine xr_iconst (v := nI 1) (n := 143) dL_law_142 (by decide) rfl ?_
        refine xr_goto (n := 147) dL_law_143 (by decide) ?_
        refine xq_istore_n 2 (n := 148) dL_law_147 rfl rfl rfl ?_
        simp only [xst, Nat.beq, List.filter, Bool.not_true, Bool.not_false]
        refine xr_aload_n (n := 149) dL_law_148 rfl rfl ?_
        refine xr_iload (n := 151) dL_law_149 rfl rfl ?_
        refine xr_iload (n := 153) dL_law_151 rfl rfl ?_
        refine xr_callS (y2 := mL_goes) (As := [_, _, _]) (n := 156) dL_law_153 lm_L_122 pm_L_goes kp_static_yL_goes rfl rfl (by simp [Value.category]) rfl ⟨Nat.le_refl _, Nat.le_refl _⟩ ?_
        refine s_L_goes hO (fun e2 f t2 n2 _ hO => ?_) (fun f t2 n2 N2 P2 hO => ?_)
        · dsimp only [xK, xps]
          refine xr_pop (n := 157) dL_law_156 rfl rfl ?_
          exact k157 _ _ _ _ _ _ f hO
        · dsimp only [xK, xps]
          refine xr_pop (n := 157) dL_law_156 rfl rfl ?_
          exact k157 _ _ _ _ _ _ f hO
