theorem s_X8_always {G : xG} {d : Nat} {f : Nat → xC} {r : Nat × Nat} {Q : Option Value → xM → Prop} {m : Nat} {μ : xS} {c : Int32} {N : Nat → Nat} {P : Nat → Nat → Nat → Nat} (hN : msP μ N P) (hq0 : ¬ (0 ≤ c.toInt ∧ c.toInt ≤ 5) → Q (some (.int (-10001))) (mput f m μ, r)) (hq : ∀ (cn : Nat) (ν : xS), cn ≤ 5 → c = nI cn → frm μ ν → Q (some (.int (algv N P cn 16))) (mput f m ν, r)) : xMet G (d + 6) mX8_always [.ref m, .int c] (mput f m μ, r) r Q := by
  refine xMet_0 (by decide +kernel) rfl (Nat.le_of_ble_eq_true rfl) ?_
  show xX G (d + 6) mX8_always r r (xΦ G r r Q) 0 [(0, .ref m), (1, .int c)] [] (mput f m μ, r)
  refine xr_iload_n (n := 1) dX8_always_0 rfl rfl ?_
  refine xr_callS (y2 := mX8_isCell) (As := [_]) (n := 4) dX8_always_1 lm_X8_180 pm_X8_isCell kp_static_yX8_isCell rfl rfl (by simp [Value.category]) rfl ⟨Nat.le_refl _, Nat.le_refl _⟩ ?_
  refine s_X8_isCell ?_
  dsimp only [xK, xps]
  refine xr_bne (tgt := 11) (n := 7) dX8_always_4 (by decide) rfl (fun h4 => ?_) (fun h4 => ?_)
  · obtain ⟨cn, hcn, rfl⟩ := k_of h4.1
    have hc6 : cn ≤ 5 := by ((try simp (disch := omega) only [i_lt, i_le, i_eq, nt, i_m1, Int32.toInt_zero] at *); omega)
    refine xr_bipush (v := nI 63) (n := 13) dX8_always_11 (by decide) rfl ?_
    refine xq_istore_n 2 (n := 14) dX8_always_13 rfl rfl rfl ?_
    simp only [xst, Nat.beq, List.filter, Bool.not_true, Bool.not_false]
    refine xr_iconst (v := nI 0) (n := 15) dX8_always_14 (by decide) rfl ?_
    refine xq_istore_n 3 (n := 16) dX8_always_15 rfl rfl rfl ?_
    simp only [xst, Nat.beq, List.filter, Bool.not_true, Bool.not_false]
    have key : ∀ k, k ≤ 16 → ∀ ν, frm μ ν → xX G (d + 6) mX8_always r r (xΦ G r r Q) 16 [(0, .ref m), (1, .int (nI cn)), (2, .int (algv N P cn k)), (3, .int (nI k))] [] (mput f m ν, r) := by
      refine nat_down (P := fun k => ∀ ν, frm μ ν → xX G (d + 6) mX8_always r r (xΦ G r r Q) 16 [(0, .ref m), (1, .int (nI cn)), (2, .int (algv N P cn k)), (3, .int (nI k))] [] (mput f m ν, r)) (N := 16) ?_ ?_
      · intro ν hfr
        refine xr_iload_n (n := 17) dX8_always_16 rfl rfl ?_
        refine xr_bipush (v := nI 16) (n := 19) dX8_always_17 (by decide) rfl ?_
        refine xr_icmp_ge (tgt := 46) (n := 22) dX8_always_19 (by decide) rfl (fun h19 => ?_) (fun h19 => by (exfalso; ((try simp (disch := omega) only [i_lt, i_le, i_eq, nt, i_m1, Int32.toInt_zero] at *); omega)))
        refine xr_iload_n (n := 47) dX8_always_46 rfl rfl ?_
        refine xr_ireturn dX8_always_47 rfl rfl rfl ?_
        exact hq cn ν hc6 rfl hfr
      · intro k hk ih ν hfr
        refine xr_iload_n (n := 17) dX8_always_16 rfl rfl ?_
        refine xr_bipush (v := nI 16) (n := 19) dX8_always_17 (by decide) rfl ?_
        refine xr_icmp_ge (tgt := 46) (n := 22) dX8_always_19 (by decide) rfl (fun h19 => by (exfalso; ((try simp (disch := omega) only [i_lt, i_le, i_eq, nt, i_m1, Int32.toInt_zero] at *); omega))) (fun h19 => ?_)
        refine xr_aload_n (n := 23) dX8_always_22 rfl rfl ?_
        refine xr_iload_n (n := 24) dX8_always_23 rfl rfl ?_
        refine xr_iconst (v := nI 4) (n := 25) dX8_always_24 (by decide) rfl ?_
        refine xr_idiv (n := 26) dX8_always_25 (by decide) rfl ?_
        rw [(dv4 k hk).1]
        refine xr_iload_n (n := 27) dX8_always_26 rfl rfl ?_
        refine xr_iconst (v := nI 4) (n := 28) dX8_always_27 (by decide) rfl ?_
        refine xr_irem (n := 29) dX8_always_28 (by decide) rfl ?_
        rw [(dv4 k hk).2]
        refine xr_callV (y2 := mX8_runsBoth) (As := [_, _]) (n := 32) dX8_always_29 lm_X8_192 pm_X8_runsBoth pi_X8_runsBoth (by first | exact mput_0 _ _ _ | exact mput_r (by decide)) rfl rfl rfl (by simp [Value.category]) rfl ⟨Nat.le_refl _, Nat.le_refl _⟩ ?_
        refine s_X8_runsBoth ((hN.ofr hfr) 0 (by omega)).1 (hN 0 (by omega)).2 ((hN.ofr hfr) 1 (by omega)).1 (hN 1 (by omega)).2 (fun ν1 t mk rd mo tl t1 mk1 rd1 mo1 tl1 hf1 h0 h1 => ?_)
        dsimp only [xK, xps]
        refine xr_iload_n (n := 33) dX8_always_32 rfl rfl ?_
        refine xr_aload_n (n := 34) dX8_always_33 rfl rfl ?_
        refine xr_iload_n (n := 35) dX8_always_34 rfl rfl ?_
        refine xr_callV (y2 := mX8_equalTo) (As := [_]) (n := 38) dX8_always_35 lm_X8_201 pm_X8_equalTo pi_X8_equalTo (by first | exact mput_0 _ _ _ | exact mput_r (by decide)) rfl rfl rfl (by simp [Value.category]) rfl ⟨Nat.le_refl _, Nat.le_refl _⟩ ?_
        refine s_X8_equalTo (by omega) h0 h1 ?_
        dsimp only [xK, xps]
        refine xr_iand (n := 39) dX8_always_38 rfl ?_
        refine xq_istore_n 2 (n := 40) dX8_always_39 rfl rfl rfl ?_
        simp only [xst, Nat.beq, List.filter, Bool.not_true, Bool.not_false]
        refine xr_iinc (n := 43) dX8_always_40 rfl rfl (rfl) rfl ?_
        simp only [xst, Nat.beq, List.filter, Bool.not_true, Bool.not_false]
        try simp (disch := omega) only [nI_clamp, pk_mul, nI_add, oi1, up2_a, ur_a, Nat.reduceEqDiff, Nat.reduceMul, Nat.reduceAdd, reduceIte, if_pos, if_neg]
        refine xr_goto (n := 16) dX8_always_43 (by decide) ?_
        exact ih ν1 (hfr.tr hf1)
    exact key 0 (Nat.zero_le _) μ frm.rfl
  · refine xr_sipush (v := (-10001)) (n := 10) dX8_always_7 (by decide) rfl ?_
    refine xr_ireturn dX8_always_10 rfl rfl rfl ?_
    exact hq0 h4

theorem i9 : (nI 9).toInt = 9 := nt 9 (by omega)
theorem im9 : (-9 : Int32).toInt = -9 := by decide +kernel
theorem nidx {lo hi : Int32} {i : Nat} (h : -9 ≤ lo.toInt) (h2 : lo.toInt ≤ hi.toInt) (h3 : hi.toInt ≤ 9) (hi' : i ≤ wid lo hi) : (hi < av lo i ↔ ¬ i < wid lo hi) := by
  have hw : ((wid lo hi : Nat) : Int) = hi.toInt - lo.toInt + 1 := by unfold wid; omega
  rw [i_lt, av_i h (by omega) (by omega)]
  omega
theorem wid_le {lo hi : Int32} (h : -9 ≤ lo.toInt) (h2 : lo.toInt ≤ hi.toInt) (h3 : hi.toInt ≤ 9) : wid lo hi ≤ 19 := by unfold wid; omega
theorem agC_n {g : Nat → Nat → Bool} {s : Nat × Option (Nat × Nat)} {i : Nat} : ∀ j, (agC g s i j).1 ≤ s.1 + j
  | 0 => Nat.le_refl _
  | j + 1 => by
    have := agC_n (g := g) (s := s) (i := i) j
    show (agN (agC g s i j) i j (g i j)).1 ≤ _
    cases g i j with
    | true => show (agC g s i j).1 + 1 ≤ _; omega
    | false => show (agC g s i j).1 ≤ _; omega
theorem agC_s {g : Nat → Nat → Bool} {s : Nat × Option (Nat × Nat)} {i j : Nat} : agC g s i (j + 1) = agN (agC g s i j) i j (g i j) := rfl
theorem s_X8_agree {G : xG} {d : Nat} {f : Nat → xC} {r : Nat × Nat} {Q : Option Value → xM → Prop} {m : Nat} {μ : xS} {lo hi w : Int32} {N : Nat → Nat} {P : Nat → Nat → Nat → Nat} (hN : msP μ N P) (hq0 : ¬ ((-9 ≤ lo.toInt ∧ lo.toInt ≤ 9) ∧ (lo.toInt ≤ hi.toInt ∧ hi.toInt ≤ 9) ∧ (0 ≤ w.toInt ∧ w.toInt ≤ 2)) → Q (some (.int (-10001))) (mput f m μ, r)) (hq : ∀ (wn : Nat) (ν : xS), ((-9 ≤ lo.toInt ∧ lo.toInt ≤ 9) ∧ (lo.toInt ≤ hi.toInt ∧ hi.toInt ≤ 9) ∧ (0 ≤ w.toInt ∧ w.toInt ≤ 2)) → wn ≤ 2 → w = nI wn → frm μ ν → Q (some (.int (agV N P lo hi wn))) (mput f m ν, r)) : xMet G (d + 7) mX8_agree [.ref m, .int lo, .int hi, .int w] (mput f m μ, r) r Q := by
  refine xMet_0 (by decide +kernel) rfl (Nat.le_of_ble_eq_true rfl) ?_
  show xX G (d + 7) mX8_agree r r (xΦ G r r Q) 0 [(0, .ref m), (1, .int lo), (2, .int hi), (3, .int w)] [] (mput f m μ, r)
  refine xr_iload_n (n := 1) dX8_agree_0 rfl rfl ?_
  refine xr_bipush (v := (-9)) (n := 3) dX8_agree_1 (by decide) rfl ?_
  refine xr_bipush (v := nI 9) (n := 5) dX8_agree_3 (by decide) rfl ?_
  refine xr_callS (y2 := mX8_within) (As := [_, _, _]) (n := 8) dX8_agree_5 lm_X8_61 pm_X8_within kp_static_yX8_within rfl rfl (by simp [Value.category]) rfl ⟨Nat.le_refl _, Nat.le_refl _⟩ ?_
  refine s_X8_within ?_
  dsimp only [xK, xps]
  rw [b2i_iff (q := -9 ≤ lo.toInt ∧ lo.toInt ≤ 9) (by first | exact Iff.rfl | (simp only [im9, i9, nt 0 (by omega), nt 2 (by omega)]; exact Iff.rfl))]
  refine xr_beq (tgt := 30) (n := 11) dX8_agree_8 (by decide) rfl (fun h8 => ?_) (fun h8 => ?_)
  · refine xr_sipush (v := (-10001)) (n := 33) dX8_agree_30 (by decide) rfl ?_
    refine xr_ireturn dX8_agree_33 rfl rfl rfl ?_
    first | exact hq0 (fun q => h8 q.1) | exact hq0 (fun q => h18 q.2.1) | exact hq0 (fun q => h27 q.2.2)
  · refine xr_iload_n (n := 12) dX8_agree_11 rfl rfl ?_
    refine xr_iload_n (n := 13) dX8_agree_12 rfl rfl ?_
    refine xr_bipush (v := nI 9) (n := 15) dX8_agree_13 (by decide) rfl ?_
    refine xr_callS (y2 := mX8_within) (As := [_, _, _]) (n := 18) dX8_agree_15 lm_X8_61 pm_X8_within kp_static_yX8_within rfl rfl (by simp [Value.category]) rfl ⟨Nat.le_refl _, Nat.le_refl _⟩ ?_
    refine s_X8_within ?_
    dsimp only [xK, xps]
    rw [b2i_iff (q := lo.toInt ≤ hi.toInt ∧ hi.toInt ≤ 9) (by first | exact Iff.rfl | (simp only [im9, i9, nt 0 (by omega), nt 2 (by omega)]; exact Iff.rfl))]
    refine xr_beq (tgt := 30) (n := 21) dX8_agree_18 (by decide) rfl (fun h18 => ?_) (fun h18 => ?_)
    · refine xr_sipush (v := (-10001)) (n := 33) dX8_agree_30 (by decide) rfl ?_
      refine xr_ireturn dX8_agree_33 rfl rfl rfl ?_
      first | exact hq0 (fun q => h8 q.1) | exact hq0 (fun q => h18 q.2.1) | exact hq0 (fun q => h27 q.2.2)
    · refine xr_iload_n (n := 22) dX8_agree_21 rfl rfl ?_
      refine xr_iconst (v := nI 0) (n := 23) dX8_agree_22 (by decide) rfl ?_
      refine xr_iconst (v := nI 2) (n := 24) dX8_agree_23 (by decide) rfl ?_
      refine xr_callS (y2 := mX8_within) (As := [_, _, _]) (n := 27) dX8_agree_24 lm_X8_61 pm_X8_within kp_static_yX8_within rfl rfl (by simp [Value.category]) rfl ⟨Nat.le_refl _, Nat.le_refl _⟩ ?_
      refine s_X8_within ?_
      dsimp only [xK, xps]
      rw [b2i_iff (q := 0 ≤ w.toInt ∧ w.toInt ≤ 2) (by first | exact Iff.rfl | (simp only [im9, i9, nt 0 (by omega), nt 2 (by omega)]; exact Iff.rfl))]
      refine xr_bne (tgt := 34) (n := 30) dX8_agree_27 (by decide) rfl (fun h27 => ?_) (fun h27 => ?_)
      · obtain ⟨wn, hwn, rfl⟩ := k_of h27.1
        have hw6 : wn ≤ 2 := by ((try simp (disch := omega) only [i_lt, i_le, i_eq, nt, i_m1, Int32.toInt_zero] at *); omega)
        refine xr_iconst (v := nI 0) (n := 35) dX8_agree_34 (by decide) rfl ?_
        refine xr_istore (n := 37) dX8_agree_35 rfl rfl ?_
        simp only [xst, Nat.beq, List.filter, Bool.not_true, Bool.not_false]
        refine xr_sipush (v := (-10009)) (n := 40) dX8_agree_37 (by decide) rfl ?_
        refine xr_istore (n := 42) dX8_agree_40 rfl rfl ?_
        simp only [xst, Nat.beq, List.filter, Bool.not_true, Bool.not_false]
        refine xr_sipush (v := (-10009)) (n := 45) dX8_agree_42 (by decide) rfl ?_
        refine xr_istore (n := 47) dX8_agree_45 rfl rfl ?_
        simp only [xst, Nat.beq, List.filter, Bool.not_true, Bool.not_false]
        refine xr_iload_n (n := 48) dX8_agree_47 rfl rfl ?_
        refine xr_istore (n := 50) dX8_agree_48 rfl rfl ?_
        simp only [xst, Nat.beq, List.filter, Bool.not_true, Bool.not_false]
        have hwd := wid_le h8.1 h18.1 h18.2
        have key : ∀ i, i ≤ wid lo hi → ∀ ν, frm μ ν → xX G (d + 7) mX8_agree r r (xΦ G r r Q) 50 [(0, .ref m), (1, .int lo), (2, .int hi), (3, .int (nI wn)), (4, .int (nI (agR (agB N P lo) (wid lo hi) i).1)), (5, .int (agF lo (agR (agB N P lo) (wid lo hi) i).2)), (6, .int (agS lo (agR (agB N P lo) (wid lo hi) i).2)), (7, .int (av lo i))] [] (mput f m ν, r) := by
          refine nat_down (P := fun i => ∀ ν, frm μ ν → xX G (d + 7) mX8_agree r r (xΦ G r r Q) 50 [(0, .ref m), (1, .int lo), (2, .int hi), (3, .int (nI wn)), (4, .int (nI (agR (agB N P lo) (wid lo hi) i).1)), (5, .int (agF lo (agR (agB N P lo) (wid lo hi) i).2)), (6, .int (agS lo (agR (agB N P lo) (wid lo hi) i).2)), (7, .int (av lo i))] [] (mput f m ν, r)) (N := wid lo hi) ?_ ?_
          · intro ν hfr
            refine xr_iload (n := 52) dX8_agree_50 rfl rfl ?_
            refine xr_iload_n (n := 53) dX8_agree_52 rfl rfl ?_
            refine xr_icmp_gt (tgt := 150) (n := 56) dX8_agree_53 (by decide) rfl (fun h53 => ?_) (fun h53 => by (exact absurd ((nidx h8.1 h18.1 h18.2 (Nat.le_refl _)).mpr (Nat.lt_irrefl _)) h53))
            refine xr_iload_n (n := 151) dX8_agree_150 rfl rfl ?_
            refine xr_if_ne (tgt := 159) (n := 154) dX8_agree_151 (by decide) rfl (fun h151 => ?_) (fun h151 => ?_)
            · refine xr_iload_n (n := 160) dX8_agree_159 rfl rfl ?_
              refine xr_iconst (v := nI 1) (n := 161) dX8_agree_160 (by decide) rfl ?_
              refine xr_icmp_ne (tgt := 169) (n := 164) dX8_agree_161 (by decide) rfl (fun h161 => ?_) (fun h161 => ?_)
              · refine xr_iload (n := 171) dX8_agree_169 rfl rfl ?_
                refine xr_ireturn dX8_agree_171 rfl rfl rfl ?_
                refine qi (hq wn ν ⟨h8, h18, h27⟩ hw6 rfl hfr) ?_
                unfold agV
                first | (rw [if_pos (by ((try simp (disch := omega) only [i_lt, i_le, i_eq, nt, i_m1, Int32.toInt_zero] at *); omega))]; done) | (rw [if_neg (by ((try simp (disch := omega) only [i_lt, i_le, i_eq, nt, i_m1, Int32.toInt_zero] at *); omega)), if_pos (by ((try simp (disch := omega) only [i_lt, i_le, i_eq, nt, i_m1, Int32.toInt_zero] at *); omega))]; done) | (rw [if_neg (by ((try simp (disch := omega) only [i_lt, i_le, i_eq, nt, i_m1, Int32.toInt_zero] at *); omega)), if_neg (by ((try simp (disch := omega) only [i_lt, i_le, i_eq, nt, i_m1, Int32.toInt_zero] at *); omega))]; done)
              · refine xr_iload (n := 166) dX8_agree_164 rfl rfl ?_
                refine xr_goto (n := 171) dX8_agree_166 (by decide) ?_
                refine xr_ireturn dX8_agree_171 rfl rfl rfl ?_
                refine qi (hq wn ν ⟨h8, h18, h27⟩ hw6 rfl hfr) ?_
                unfold agV
                first | (rw [if_pos (by ((try simp (disch := omega) only [i_lt, i_le, i_eq, nt, i_m1, Int32.toInt_zero] at *); omega))]; done) | (rw [if_neg (by ((try simp (disch := omega) only [i_lt, i_le, i_eq, nt, i_m1, Int32.toInt_zero] at *); omega)), if_pos (by ((try simp (disch := omega) only [i_lt, i_le, i_eq, nt, i_m1, Int32.toInt_zero] at *); omega))]; done) | (rw [if_neg (by ((try simp (disch := omega) only [i_lt, i_le, i_eq, nt, i_m1, Int32.toInt_zero] at *); omega)), if_neg (by ((try simp (disch := omega) only [i_lt, i_le, i_eq, nt, i_m1, Int32.toInt_zero] at *); omega))]; done)
            · refine xr_iload (n := 156) dX8_agree_154 rfl rfl ?_
              refine xr_goto (n := 171) dX8_agree_156 (by decide) ?_
              refine xr_ireturn dX8_agree_171 rfl rfl rfl ?_
              refine qi (hq wn ν ⟨h8, h18, h27⟩ hw6 rfl hfr) ?_
              unfold agV
              first | (rw [if_pos (by ((try simp (disch := omega) only [i_lt, i_le, i_eq, nt, i_m1, Int32.toInt_zero] at *); omega))]; done) | (rw [if_neg (by ((try simp (disch := omega) only [i_lt, i_le, i_eq, nt, i_m1, Int32.toInt_zero] at *); omega)), if_pos (by ((try simp (disch := omega) only [i_lt, i_le, i_eq, nt, i_m1, Int32.toInt_zero] at *); omega))]; done) | (rw [if_neg (by ((try simp (disch := omega) only [i_lt, i_le, i_eq, nt, i_m1, Int32.toInt_zero] at *); omega)), if_neg (by ((try simp (disch := omega) only [i_lt, i_le, i_eq, nt, i_m1, Int32.toInt_zero] at *); omega))]; done)
          · intro i hI ih ν hfr
            have hin : ∀ j, j ≤ wid lo hi → ∀ ν, frm μ ν → xX G (d + 7) mX8_agree r r (xΦ G r r Q) 59 [(0, .ref m), (1, .int lo), (2, .int hi), (3, .int (nI wn)), (4, .int (nI (agC (agB N P lo) (agR (agB N P lo) (wid lo hi) i) i j).1)), (5, .int (agF lo (agC (agB N P lo) (agR (agB N P lo) (wid lo hi) i) i j).2)), (6, .int (agS lo (agC (agB N P lo) (agR (agB N P lo) (wid lo hi) i) i j).2)), (7, .int (av lo i)), (8, .int (av lo j))] [] (mput f m ν, r) := by
              refine nat_down (P := fun j => ∀ ν, frm μ ν → xX G (d + 7) mX8_agree r r (xΦ G r r Q) 59 [(0, .ref m), (1, .int lo), (2, .int hi), (3, .int (nI wn)), (4, .int (nI (agC (agB N P lo) (agR (agB N P lo) (wid lo hi) i) i j).1)), (5, .int (agF lo (agC (agB N P lo) (agR (agB N P lo) (wid lo hi) i) i j).2)), (6, .int (agS lo (agC (agB N P lo) (agR (agB N P lo) (wid lo hi) i) i j).2)), (7, .int (av lo i)), (8, .int (av lo j))] [] (mput f m ν, r)) (N := wid lo hi) ?_ ?_
              · intro ν hfr
                refine xr_iload (n := 61) dX8_agree_59 rfl rfl ?_
                refine xr_iload_n (n := 62) dX8_agree_61 rfl rfl ?_
                refine xr_icmp_gt (tgt := 144) (n := 65) dX8_agree_62 (by decide) rfl (fun h62 => ?_) (fun h62 => by (exact absurd ((nidx h8.1 h18.1 h18.2 (Nat.le_refl _)).mpr (Nat.lt_irrefl _)) h62))
                refine xr_iinc (n := 147) dX8_agree_144 rfl rfl (rfl) rfl ?_
                simp only [xst, Nat.beq, List.filter, Bool.not_true, Bool.not_false]
                rw [show Int32.ofInt 1 = nI 1 from rfl, av_s h8.1 h8.2 (by omega)]
                refine xr_goto (n := 50) dX8_agree_147 (by decide) ?_
                refine xX.drop 8 ?_
                simp only [xst, Nat.beq, List.filter, Bool.not_true, Bool.not_false]
                exact ih ν hfr
              · intro j hj ih2 ν hfr
                have hok := agC_ok (g := agB N P lo) (i := i) (by omega) (agR_ok (g := agB N P lo) hwd i (by omega)) j (by omega)
                have hnn := agF_none h8.1 h8.2 hok
                refine xr_iload (n := 61) dX8_agree_59 rfl rfl ?_
                refine xr_iload_n (n := 62) dX8_agree_61 rfl rfl ?_
                refine xr_icmp_gt (tgt := 144) (n := 65) dX8_agree_62 (by decide) rfl (fun h62 => by (exact absurd hj ((nidx h8.1 h18.1 h18.2 (by omega)).mp h62))) (fun h62 => ?_)
                refine xr_aload_n (n := 66) dX8_agree_65 rfl rfl ?_
                refine xr_iload (n := 68) dX8_agree_66 rfl rfl ?_
                refine xr_iload (n := 70) dX8_agree_68 rfl rfl ?_
                refine xr_callV (y2 := mX8_agreeOn) (As := [_, _]) (n := 73) dX8_agree_70 lm_X8_207 pm_X8_agreeOn pi_X8_agreeOn (by first | exact mput_0 _ _ _ | exact mput_r (by decide)) rfl rfl rfl (by simp [Value.category]) rfl ⟨Nat.le_refl _, Nat.le_refl _⟩ ?_
                refine s_X8_agreeOn (hN.ofr hfr) (by unfold inpt; rw [av_i h8.1 h8.2 (by omega), av_i h8.1 h8.2 (by omega)]; omega) (fun ν1 hf1 => ?_)
                dsimp only [xK, xps]
                refine xr_istore (n := 75) dX8_agree_73 rfl rfl ?_
                simp only [xst, Nat.beq, List.filter, Bool.not_true, Bool.not_false]
                refine xr_iload (n := 77) dX8_agree_75 rfl rfl ?_
                refine xr_iload (n := 79) dX8_agree_77 rfl rfl ?_
                refine xr_beq (tgt := 86) (n := 82) dX8_agree_79 (by decide) rfl (fun h79 => ?_) (fun h79 => ?_)
                · refine xr_iconst (v := nI 0) (n := 87) dX8_agree_86 (by decide) rfl ?_
                  refine xr_iadd (n := 88) dX8_agree_87 rfl ?_
                  try rw [nI_add]
                  refine xr_istore (n := 90) dX8_agree_88 rfl rfl ?_
                  simp only [xst, Nat.beq, List.filter, Bool.not_true, Bool.not_false]
                  refine xr_iload (n := 92) dX8_agree_90 rfl rfl ?_
                  refine xr_bne (tgt := 107) (n := 95) dX8_agree_92 (by decide) rfl (fun h92 => ?_) (fun h92 => ?_)
                  · refine xr_iconst (v := nI 0) (n := 108) dX8_agree_107 (by decide) rfl ?_
                    refine xr_istore (n := 110) dX8_agree_108 rfl rfl ?_
                    simp only [xst, Nat.beq, List.filter, Bool.not_true, Bool.not_false]
                    refine xr_iload (n := 112) dX8_agree_110 rfl rfl ?_
                    refine xr_if_eq (tgt := 120) (n := 115) dX8_agree_112 (by decide) rfl (fun h112 => ?_) (fun h112 => by (exfalso; revert h112; decide))
                    refine xr_iload (n := 122) dX8_agree_120 rfl rfl ?_
                    refine xr_istore (n := 124) dX8_agree_122 rfl rfl ?_
                    simp only [xst, Nat.beq, List.filter, Bool.not_true, Bool.not_false]
                    refine xr_iload (n := 126) dX8_agree_124 rfl rfl ?_
                    refine xr_if_eq (tgt := 134) (n := 129) dX8_agree_126 (by decide) rfl (fun h126 => ?_) (fun h126 => by (exfalso; revert h126; decide))
                    refine xr_iload (n := 136) dX8_agree_134 rfl rfl ?_
                    refine xr_istore (n := 138) dX8_agree_136 rfl rfl ?_
                    simp only [xst, Nat.beq, List.filter, Bool.not_true, Bool.not_false]
                    refine xr_iinc (n := 141) dX8_agree_138 rfl rfl (rfl) rfl ?_
                    simp only [xst, Nat.beq, List.filter, Bool.not_true, Bool.not_false]
                    rw [show Int32.ofInt 1 = nI 1 from rfl, av_s h8.1 h8.2 (by omega)]
                    refine xr_goto (n := 59) dX8_agree_141 (by decide) ?_
                    exact absurd h92 h79
                  · refine xr_iload (n := 97) dX8_agree_95 rfl rfl ?_
                    refine xr_sipush (v := (-10009)) (n := 100) dX8_agree_97 (by decide) rfl ?_
                    refine xr_icmp_ne (tgt := 107) (n := 103) dX8_agree_100 (by decide) rfl (fun h100 => ?_) (fun h100 => ?_)
                    · refine xr_iconst (v := nI 0) (n := 108) dX8_agree_107 (by decide) rfl ?_
                      refine xr_istore (n := 110) dX8_agree_108 rfl rfl ?_
                      simp only [xst, Nat.beq, List.filter, Bool.not_true, Bool.not_false]
                      refine xr_iload (n := 112) dX8_agree_110 rfl rfl ?_
                      refine xr_if_eq (tgt := 120) (n := 115) dX8_agree_112 (by decide) rfl (fun h112 => ?_) (fun h112 => by (exfalso; revert h112; decide))
                      refine xr_iload (n := 122) dX8_agree_120 rfl rfl ?_
                      refine xr_istore (n := 124) dX8_agree_122 rfl rfl ?_
                      simp only [xst, Nat.beq, List.filter, Bool.not_true, Bool.not_false]
                      refine xr_iload (n := 126) dX8_agree_124 rfl rfl ?_
                      refine xr_if_eq (tgt := 134) (n := 129) dX8_agree_126 (by decide) rfl (fun h126 => ?_) (fun h126 => by (exfalso; revert h126; decide))
                      refine xr_iload (n := 136) dX8_agree_134 rfl rfl ?_
                      refine xr_istore (n := 138) dX8_agree_136 rfl rfl ?_
                      simp only [xst, Nat.beq, List.filter, Bool.not_true, Bool.not_false]
                      refine xr_iinc (n := 141) dX8_agree_138 rfl rfl (rfl) rfl ?_
                      simp only [xst, Nat.beq, List.filter, Bool.not_true, Bool.not_false]
                      rw [show Int32.ofInt 1 = nI 1 from rfl, av_s h8.1 h8.2 (by omega)]
                      refine xr_goto (n := 59) dX8_agree_141 (by decide) ?_
                      refine xX.drop 9 ?_
                      simp only [xst, Nat.beq, List.filter, Bool.not_true, Bool.not_false]
                      refine xX.drop 10 ?_
                      simp only [xst, Nat.beq, List.filter, Bool.not_true, Bool.not_false]
                      refine xX.eq rfl ?_ rfl rfl (ih2 ν1 (hfr.tr hf1))
                      rw [agC_s]
                      rw [show agB N P lo i j = false from decide_eq_false h79]
                      have hO := fun q => h100 (hnn.mpr q)
                      unfold agN
                      generalize (agC (agB N P lo) (agR (agB N P lo) (wid lo hi) i) i j) = tt at *
                      obtain ⟨c0, o0⟩ := tt
                      cases o0 with
                      | none => exact absurd rfl hO
                      | some u => rfl
                    · refine xr_iconst (v := nI 1) (n := 104) dX8_agree_103 (by decide) rfl ?_
                      refine xr_goto (n := 108) dX8_agree_104 (by decide) ?_
                      refine xr_istore (n := 110) dX8_agree_108 rfl rfl ?_
                      simp only [xst, Nat.beq, List.filter, Bool.not_true, Bool.not_false]
                      refine xr_iload (n := 112) dX8_agree_110 rfl rfl ?_
                      refine xr_if_eq (tgt := 120) (n := 115) dX8_agree_112 (by decide) rfl (fun h112 => by (exfalso; revert h112; decide)) (fun h112 => ?_)
                      refine xr_iload (n := 117) dX8_agree_115 rfl rfl ?_
                      refine xr_goto (n := 122) dX8_agree_117 (by decide) ?_
                      refine xr_istore (n := 124) dX8_agree_122 rfl rfl ?_
                      simp only [xst, Nat.beq, List.filter, Bool.not_true, Bool.not_false]
                      refine xr_iload (n := 126) dX8_agree_124 rfl rfl ?_
                      refine xr_if_eq (tgt := 134) (n := 129) dX8_agree_126 (by decide) rfl (fun h126 => by (exfalso; revert h126; decide)) (fun h126 => ?_)
                      refine xr_iload (n := 131) dX8_agree_129 rfl rfl ?_
                      refine xr_goto (n := 136) dX8_agree_131 (by decide) ?_
                      refine xr_istore (n := 138) dX8_agree_136 rfl rfl ?_
                      simp only [xst, Nat.beq, List.filter, Bool.not_true, Bool.not_false]
                      refine xr_iinc (n := 141) dX8_agree_138 rfl rfl (rfl) rfl ?_
                      simp only [xst, Nat.beq, List.filter, Bool.not_true, Bool.not_false]
                      rw [show Int32.ofInt 1 = nI 1 from rfl, av_s h8.1 h8.2 (by omega)]
                      refine xr_goto (n := 59) dX8_agree_141 (by decide) ?_
                      refine xX.drop 9 ?_
                      simp only [xst, Nat.beq, List.filter, Bool.not_true, Bool.not_false]
                      refine xX.drop 10 ?_
                      simp only [xst, Nat.beq, List.filter, Bool.not_true, Bool.not_false]
                      refine xX.eq rfl ?_ rfl rfl (ih2 ν1 (hfr.tr hf1))
                      rw [agC_s]
                      rw [show agB N P lo i j = false from decide_eq_false h79]
                      have hO := hnn.mp (by first | exact h100 | exact Decidable.not_not.mp h100)
                      unfold agN
                      rw [hO]
                      rfl
                · refine xr_iconst (v := nI 1) (n := 83) dX8_agree_82 (by decide) rfl ?_
                  refine xr_goto (n := 87) dX8_agree_83 (by decide) ?_
                  refine xr_iadd (n := 88) dX8_agree_87 rfl ?_
                  try rw [nI_add]
                  refine xr_istore (n := 90) dX8_agree_88 rfl rfl ?_
                  simp only [xst, Nat.beq, List.filter, Bool.not_true, Bool.not_false]
                  refine xr_iload (n := 92) dX8_agree_90 rfl rfl ?_
                  refine xr_bne (tgt := 107) (n := 95) dX8_agree_92 (by decide) rfl (fun h92 => ?_) (fun h92 => ?_)
                  · refine xr_iconst (v := nI 0) (n := 108) dX8_agree_107 (by decide) rfl ?_
                    refine xr_istore (n := 110) dX8_agree_108 rfl rfl ?_
                    simp only [xst, Nat.beq, List.filter, Bool.not_true, Bool.not_false]
                    refine xr_iload (n := 112) dX8_agree_110 rfl rfl ?_
                    refine xr_if_eq (tgt := 120) (n := 115) dX8_agree_112 (by decide) rfl (fun h112 => ?_) (fun h112 => by (exfalso; revert h112; decide))
                    refine xr_iload (n := 122) dX8_agree_120 rfl rfl ?_
                    refine xr_istore (n := 124) dX8_agree_122 rfl rfl ?_
                    simp only [xst, Nat.beq, List.filter, Bool.not_true, Bool.not_false]
                    refine xr_iload (n := 126) dX8_agree_124 rfl rfl ?_
                    refine xr_if_eq (tgt := 134) (n := 129) dX8_agree_126 (by decide) rfl (fun h126 => ?_) (fun h126 => by (exfalso; revert h126; decide))
                    refine xr_iload (n := 136) dX8_agree_134 rfl rfl ?_
                    refine xr_istore (n := 138) dX8_agree_136 rfl rfl ?_
                    simp only [xst, Nat.beq, List.filter, Bool.not_true, Bool.not_false]
                    refine xr_iinc (n := 141) dX8_agree_138 rfl rfl (rfl) rfl ?_
                    simp only [xst, Nat.beq, List.filter, Bool.not_true, Bool.not_false]
                    rw [show Int32.ofInt 1 = nI 1 from rfl, av_s h8.1 h8.2 (by omega)]
                    refine xr_goto (n := 59) dX8_agree_141 (by decide) ?_
                    refine xX.drop 9 ?_
                    simp only [xst, Nat.beq, List.filter, Bool.not_true, Bool.not_false]
                    refine xX.drop 10 ?_
                    simp only [xst, Nat.beq, List.filter, Bool.not_true, Bool.not_false]
                    refine xX.eq rfl ?_ rfl rfl (ih2 ν1 (hfr.tr hf1))
                    rw [agC_s]
                    rw [show agB N P lo i j = true from decide_eq_true h79]
                    rfl
                  · refine xr_iload (n := 97) dX8_agree_95 rfl rfl ?_
                    refine xr_sipush (v := (-10009)) (n := 100) dX8_agree_97 (by decide) rfl ?_
                    refine xr_icmp_ne (tgt := 107) (n := 103) dX8_agree_100 (by decide) rfl (fun h100 => ?_) (fun h100 => ?_)
                    · refine xr_iconst (v := nI 0) (n := 108) dX8_agree_107 (by decide) rfl ?_
                      refine xr_istore (n := 110) dX8_agree_108 rfl rfl ?_
                      simp only [xst, Nat.beq, List.filter, Bool.not_true, Bool.not_false]
                      refine xr_iload (n := 112) dX8_agree_110 rfl rfl ?_
                      refine xr_if_eq (tgt := 120) (n := 115) dX8_agree_112 (by decide) rfl (fun h112 => ?_) (fun h112 => by (exfalso; revert h112; decide))
                      refine xr_iload (n := 122) dX8_agree_120 rfl rfl ?_
                      refine xr_istore (n := 124) dX8_agree_122 rfl rfl ?_
                      simp only [xst, Nat.beq, List.filter, Bool.not_true, Bool.not_false]
                      refine xr_iload (n := 126) dX8_agree_124 rfl rfl ?_
                      refine xr_if_eq (tgt := 134) (n := 129) dX8_agree_126 (by decide) rfl (fun h126 => ?_) (fun h126 => by (exfalso; revert h126; decide))
                      refine xr_iload (n := 136) dX8_agree_134 rfl rfl ?_
                      refine xr_istore (n := 138) dX8_agree_136 rfl rfl ?_
                      simp only [xst, Nat.beq, List.filter, Bool.not_true, Bool.not_false]
                      refine xr_iinc (n := 141) dX8_agree_138 rfl rfl (rfl) rfl ?_
                      simp only [xst, Nat.beq, List.filter, Bool.not_true, Bool.not_false]
                      rw [show Int32.ofInt 1 = nI 1 from rfl, av_s h8.1 h8.2 (by omega)]
                      refine xr_goto (n := 59) dX8_agree_141 (by decide) ?_
                      exact absurd h79 h92
                    · refine xr_iconst (v := nI 1) (n := 104) dX8_agree_103 (by decide) rfl ?_
                      refine xr_goto (n := 108) dX8_agree_104 (by decide) ?_
                      refine xr_istore (n := 110) dX8_agree_108 rfl rfl ?_
                      simp only [xst, Nat.beq, List.filter, Bool.not_true, Bool.not_false]
                      refine xr_iload (n := 112) dX8_agree_110 rfl rfl ?_
                      refine xr_if_eq (tgt := 120) (n := 115) dX8_agree_112 (by decide) rfl (fun h112 => by (exfalso; revert h112; decide)) (fun h112 => ?_)
                      refine xr_iload (n := 117) dX8_agree_115 rfl rfl ?_
                      refine xr_goto (n := 122) dX8_agree_117 (by decide) ?_
                      refine xr_istore (n := 124) dX8_agree_122 rfl rfl ?_
                      simp only [xst, Nat.beq, List.filter, Bool.not_true, Bool.not_false]
                      refine xr_iload (n := 126) dX8_agree_124 rfl rfl ?_
                      refine xr_if_eq (tgt := 134) (n := 129) dX8_agree_126 (by decide) rfl (fun h126 => by (exfalso; revert h126; decide)) (fun h126 => ?_)
                      refine xr_iload (n := 131) dX8_agree_129 rfl rfl ?_
                      refine xr_goto (n := 136) dX8_agree_131 (by decide) ?_
                      refine xr_istore (n := 138) dX8_agree_136 rfl rfl ?_
                      simp only [xst, Nat.beq, List.filter, Bool.not_true, Bool.not_false]
                      refine xr_iinc (n := 141) dX8_agree_138 rfl rfl (rfl) rfl ?_
                      simp only [xst, Nat.beq, List.filter, Bool.not_true, Bool.not_false]
                      rw [show Int32.ofInt 1 = nI 1 from rfl, av_s h8.1 h8.2 (by omega)]
                      refine xr_goto (n := 59) dX8_agree_141 (by decide) ?_
                      exact absurd h79 h92
            refine xr_iload (n := 52) dX8_agree_50 rfl rfl ?_
            refine xr_iload_n (n := 53) dX8_agree_52 rfl rfl ?_
            refine xr_icmp_gt (tgt := 150) (n := 56) dX8_agree_53 (by decide) rfl (fun h53 => by (exact absurd hI ((nidx h8.1 h18.1 h18.2 (by omega)).mp h53))) (fun h53 => ?_)
            refine xr_iload_n (n := 57) dX8_agree_56 rfl rfl ?_
            refine xr_istore (n := 59) dX8_agree_57 rfl rfl ?_
            simp only [xst, Nat.beq, List.filter, Bool.not_true, Bool.not_false]
            have i0 := hin 0 (Nat.zero_le _) ν hfr
            rw [av_0] at i0
            exact i0
        have k0 := key 0 (Nat.zero_le _) μ frm.rfl
        rw [av_0] at k0
        exact k0
      · refine xr_sipush (v := (-10001)) (n := 33) dX8_agree_30 (by decide) rfl ?_
        refine xr_ireturn dX8_agree_33 rfl rfl rfl ?_
        first | exact hq0 (fun q => h8 q.1) | exact hq0 (fun q => h18 q.2.1) | exact hq0 (fun q => h27 q.2.2)
