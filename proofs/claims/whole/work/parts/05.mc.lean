theorem s_X8_here_l {G : xG} {d : Nat} {f : Nat → xC} {r : Nat × Nat} {Q : Option Value → xM → Prop} {m n : Nat} : ∀ (k a : Nat) (μ : xS), n - a ≤ k → pst μ n a → Q (some (.int (ch (μ 3) n (skp (μ 3) n a)))) (mput f m (up2 μ 6 0 (nI (skp (μ 3) n a))), r) → xX G d mX8_here r r (xΦ G r r Q) 0 [(0, .ref m)] [] (mput f m μ, r) := by
  intro k
  induction k with
  | zero =>
    intro a μ hk hp hq
    obtain ⟨hn, ha, ha2, hn2⟩ := id hp
    have he : a = n := by omega
    rw [skp_eq, if_neg (by omega), up2_id ha] at hq
    refine xr_aload_n (n := 1) dX8_here_0 rfl rfl ?_
    refine xr_get (n := 4) dX8_here_1 fl_X8_72 (by first | exact mput_0 _ _ _ | exact mput_r (by decide)) (by rfl) rfl ?_
    try simp (disch := omega) only [nI_clamp, pk_mul, nI_add, oi1, up2_a, ur_a, Nat.reduceEqDiff, Nat.reduceMul, Nat.reduceAdd, reduceIte, if_pos, if_neg, hn, ha]
    refine xr_aload_n (n := 5) dX8_here_4 rfl rfl ?_
    refine xr_get (n := 8) dX8_here_5 fl_X8_69 (by first | exact mput_0 _ _ _ | exact mput_r (by decide)) (by rfl) rfl ?_
    try simp (disch := omega) only [nI_clamp, pk_mul, nI_add, oi1, up2_a, ur_a, Nat.reduceEqDiff, Nat.reduceMul, Nat.reduceAdd, reduceIte, if_pos, if_neg, hn, ha]
    refine xr_icmp_ge (tgt := 38) (n := 11) dX8_here_8 (by decide) rfl (fun h8 => ?_) (fun h8 => by (exfalso; ((try simp (disch := omega) only [i_lt, i_le, i_eq, nt, i_m1, Int32.toInt_zero] at *); omega)))
    refine xr_aload_n (n := 39) dX8_here_38 rfl rfl ?_
    refine xr_get (n := 42) dX8_here_39 fl_X8_72 (by first | exact mput_0 _ _ _ | exact mput_r (by decide)) (by rfl) rfl ?_
    try simp (disch := omega) only [nI_clamp, pk_mul, nI_add, oi1, up2_a, ur_a, Nat.reduceEqDiff, Nat.reduceMul, Nat.reduceAdd, reduceIte, if_pos, if_neg, hn, ha]
    refine xr_aload_n (n := 43) dX8_here_42 rfl rfl ?_
    refine xr_get (n := 46) dX8_here_43 fl_X8_69 (by first | exact mput_0 _ _ _ | exact mput_r (by decide)) (by rfl) rfl ?_
    try simp (disch := omega) only [nI_clamp, pk_mul, nI_add, oi1, up2_a, ur_a, Nat.reduceEqDiff, Nat.reduceMul, Nat.reduceAdd, reduceIte, if_pos, if_neg, hn, ha]
    refine xr_icmp_ge (tgt := 61) (n := 49) dX8_here_46 (by decide) rfl (fun h46 => ?_) (fun h46 => by (exfalso; ((try simp (disch := omega) only [i_lt, i_le, i_eq, nt, i_m1, Int32.toInt_zero] at *); omega)))
    refine xr_iconst (v := nI 0) (n := 62) dX8_here_61 (by decide) rfl ?_
    refine xr_ireturn dX8_here_62 rfl rfl rfl ?_
    rw [show ch (μ 3) n a = nI 0 from if_neg (by omega)] at hq
    exact hq
  | succ k ih =>
    intro a μ hk hp hq
    obtain ⟨hn, ha, ha2, hn2⟩ := id hp
    rw [skp_eq] at hq
    refine xr_aload_n (n := 1) dX8_here_0 rfl rfl ?_
    refine xr_get (n := 4) dX8_here_1 fl_X8_72 (by first | exact mput_0 _ _ _ | exact mput_r (by decide)) (by rfl) rfl ?_
    try simp (disch := omega) only [nI_clamp, pk_mul, nI_add, oi1, up2_a, ur_a, Nat.reduceEqDiff, Nat.reduceMul, Nat.reduceAdd, reduceIte, if_pos, if_neg, hn, ha]
    refine xr_aload_n (n := 5) dX8_here_4 rfl rfl ?_
    refine xr_get (n := 8) dX8_here_5 fl_X8_69 (by first | exact mput_0 _ _ _ | exact mput_r (by decide)) (by rfl) rfl ?_
    try simp (disch := omega) only [nI_clamp, pk_mul, nI_add, oi1, up2_a, ur_a, Nat.reduceEqDiff, Nat.reduceMul, Nat.reduceAdd, reduceIte, if_pos, if_neg, hn, ha]
    refine xr_icmp_ge (tgt := 38) (n := 11) dX8_here_8 (by decide) rfl (fun h8 => ?_) (fun h8 => ?_)
    · rw [if_neg (by ((try simp (disch := omega) only [i_lt, i_le, i_eq, nt, i_m1, Int32.toInt_zero] at *); omega)), up2_id ha] at hq
      refine xr_aload_n (n := 39) dX8_here_38 rfl rfl ?_
      refine xr_get (n := 42) dX8_here_39 fl_X8_72 (by first | exact mput_0 _ _ _ | exact mput_r (by decide)) (by rfl) rfl ?_
      try simp (disch := omega) only [nI_clamp, pk_mul, nI_add, oi1, up2_a, ur_a, Nat.reduceEqDiff, Nat.reduceMul, Nat.reduceAdd, reduceIte, if_pos, if_neg, hn, ha]
      refine xr_aload_n (n := 43) dX8_here_42 rfl rfl ?_
      refine xr_get (n := 46) dX8_here_43 fl_X8_69 (by first | exact mput_0 _ _ _ | exact mput_r (by decide)) (by rfl) rfl ?_
      try simp (disch := omega) only [nI_clamp, pk_mul, nI_add, oi1, up2_a, ur_a, Nat.reduceEqDiff, Nat.reduceMul, Nat.reduceAdd, reduceIte, if_pos, if_neg, hn, ha]
      refine xr_icmp_ge (tgt := 61) (n := 49) dX8_here_46 (by decide) rfl (fun h46 => ?_) (fun h46 => ?_)
      · refine xr_iconst (v := nI 0) (n := 62) dX8_here_61 (by decide) rfl ?_
        refine xr_ireturn dX8_here_62 rfl rfl rfl ?_
        first | (rw [show ch (μ 3) n a = nI 0 from if_neg (by ((try simp (disch := omega) only [i_lt, i_le, i_eq, nt, i_m1, Int32.toInt_zero] at *); omega))] at hq; exact hq) | (rw [show ch (μ 3) n a = μ 3 a from if_pos (by ((try simp (disch := omega) only [i_lt, i_le, i_eq, nt, i_m1, Int32.toInt_zero] at *); omega))] at hq; exact hq)
      · have h46b : a < n := by ((try simp (disch := omega) only [i_lt, i_le, i_eq, nt, i_m1, Int32.toInt_zero] at *); omega)
        refine xr_aload_n (n := 50) dX8_here_49 rfl rfl ?_
        refine xr_get (n := 53) dX8_here_50 fl_X8_16 (by first | exact mput_0 _ _ _ | exact mput_r (by decide)) (by rfl) rfl ?_
        refine xr_aload_n (n := 54) dX8_here_53 rfl rfl ?_
        refine xr_get (n := 57) dX8_here_54 fl_X8_72 (by first | exact mput_0 _ _ _ | exact mput_r (by decide)) (by rfl) rfl ?_
        try simp (disch := omega) only [nI_clamp, pk_mul, nI_add, oi1, up2_a, ur_a, Nat.reduceEqDiff, Nat.reduceMul, Nat.reduceAdd, reduceIte, if_pos, if_neg, hn, ha]
        refine xr_iaload (n := 58) dX8_here_57 (by first | exact mput_0 _ _ _ | exact mput_r (by decide)) (by first | exact vp_in_nI (by omega) (by omega)) rfl ?_
        try simp (disch := omega) only [nI_clamp, pk_mul, nI_add, oi1, up2_a, ur_a, Nat.reduceEqDiff, Nat.reduceMul, Nat.reduceAdd, reduceIte, if_pos, if_neg, hn, ha]
        refine xr_goto (n := 62) dX8_here_58 (by decide) ?_
        refine xr_ireturn dX8_here_62 rfl rfl rfl ?_
        first | (rw [show ch (μ 3) n a = nI 0 from if_neg (by ((try simp (disch := omega) only [i_lt, i_le, i_eq, nt, i_m1, Int32.toInt_zero] at *); omega))] at hq; exact hq) | (rw [show ch (μ 3) n a = μ 3 a from if_pos (by ((try simp (disch := omega) only [i_lt, i_le, i_eq, nt, i_m1, Int32.toInt_zero] at *); omega))] at hq; exact hq)
    · have h8b : a < n := by ((try simp (disch := omega) only [i_lt, i_le, i_eq, nt, i_m1, Int32.toInt_zero] at *); omega)
      refine xr_aload_n (n := 12) dX8_here_11 rfl rfl ?_
      refine xr_get (n := 15) dX8_here_12 fl_X8_16 (by first | exact mput_0 _ _ _ | exact mput_r (by decide)) (by rfl) rfl ?_
      refine xr_aload_n (n := 16) dX8_here_15 rfl rfl ?_
      refine xr_get (n := 19) dX8_here_16 fl_X8_72 (by first | exact mput_0 _ _ _ | exact mput_r (by decide)) (by rfl) rfl ?_
      try simp (disch := omega) only [nI_clamp, pk_mul, nI_add, oi1, up2_a, ur_a, Nat.reduceEqDiff, Nat.reduceMul, Nat.reduceAdd, reduceIte, if_pos, if_neg, hn, ha]
      refine xr_iaload (n := 20) dX8_here_19 (by first | exact mput_0 _ _ _ | exact mput_r (by decide)) (by first | exact vp_in_nI (by omega) (by omega)) rfl ?_
      try simp (disch := omega) only [nI_clamp, pk_mul, nI_add, oi1, up2_a, ur_a, Nat.reduceEqDiff, Nat.reduceMul, Nat.reduceAdd, reduceIte, if_pos, if_neg, hn, ha]
      refine xr_bipush (v := nI 32) (n := 22) dX8_here_20 (by decide) rfl ?_
      refine xr_icmp_ne (tgt := 38) (n := 25) dX8_here_22 (by decide) rfl (fun h22 => ?_) (fun h22 => ?_)
      · rw [if_neg (fun q => h22 q.2), up2_id ha] at hq
        refine xr_aload_n (n := 39) dX8_here_38 rfl rfl ?_
        refine xr_get (n := 42) dX8_here_39 fl_X8_72 (by first | exact mput_0 _ _ _ | exact mput_r (by decide)) (by rfl) rfl ?_
        try simp (disch := omega) only [nI_clamp, pk_mul, nI_add, oi1, up2_a, ur_a, Nat.reduceEqDiff, Nat.reduceMul, Nat.reduceAdd, reduceIte, if_pos, if_neg, hn, ha]
        refine xr_aload_n (n := 43) dX8_here_42 rfl rfl ?_
        refine xr_get (n := 46) dX8_here_43 fl_X8_69 (by first | exact mput_0 _ _ _ | exact mput_r (by decide)) (by rfl) rfl ?_
        try simp (disch := omega) only [nI_clamp, pk_mul, nI_add, oi1, up2_a, ur_a, Nat.reduceEqDiff, Nat.reduceMul, Nat.reduceAdd, reduceIte, if_pos, if_neg, hn, ha]
        refine xr_icmp_ge (tgt := 61) (n := 49) dX8_here_46 (by decide) rfl (fun h46 => ?_) (fun h46 => ?_)
        · refine xr_iconst (v := nI 0) (n := 62) dX8_here_61 (by decide) rfl ?_
          refine xr_ireturn dX8_here_62 rfl rfl rfl ?_
          first | (rw [show ch (μ 3) n a = nI 0 from if_neg (by ((try simp (disch := omega) only [i_lt, i_le, i_eq, nt, i_m1, Int32.toInt_zero] at *); omega))] at hq; exact hq) | (rw [show ch (μ 3) n a = μ 3 a from if_pos (by ((try simp (disch := omega) only [i_lt, i_le, i_eq, nt, i_m1, Int32.toInt_zero] at *); omega))] at hq; exact hq)
        · have h46b : a < n := by ((try simp (disch := omega) only [i_lt, i_le, i_eq, nt, i_m1, Int32.toInt_zero] at *); omega)
          refine xr_aload_n (n := 50) dX8_here_49 rfl rfl ?_
          refine xr_get (n := 53) dX8_here_50 fl_X8_16 (by first | exact mput_0 _ _ _ | exact mput_r (by decide)) (by rfl) rfl ?_
          refine xr_aload_n (n := 54) dX8_here_53 rfl rfl ?_
          refine xr_get (n := 57) dX8_here_54 fl_X8_72 (by first | exact mput_0 _ _ _ | exact mput_r (by decide)) (by rfl) rfl ?_
          try simp (disch := omega) only [nI_clamp, pk_mul, nI_add, oi1, up2_a, ur_a, Nat.reduceEqDiff, Nat.reduceMul, Nat.reduceAdd, reduceIte, if_pos, if_neg, hn, ha]
          refine xr_iaload (n := 58) dX8_here_57 (by first | exact mput_0 _ _ _ | exact mput_r (by decide)) (by first | exact vp_in_nI (by omega) (by omega)) rfl ?_
          try simp (disch := omega) only [nI_clamp, pk_mul, nI_add, oi1, up2_a, ur_a, Nat.reduceEqDiff, Nat.reduceMul, Nat.reduceAdd, reduceIte, if_pos, if_neg, hn, ha]
          refine xr_goto (n := 62) dX8_here_58 (by decide) ?_
          refine xr_ireturn dX8_here_62 rfl rfl rfl ?_
          first | (rw [show ch (μ 3) n a = nI 0 from if_neg (by ((try simp (disch := omega) only [i_lt, i_le, i_eq, nt, i_m1, Int32.toInt_zero] at *); omega))] at hq; exact hq) | (rw [show ch (μ 3) n a = μ 3 a from if_pos (by ((try simp (disch := omega) only [i_lt, i_le, i_eq, nt, i_m1, Int32.toInt_zero] at *); omega))] at hq; exact hq)
      · have h22e : μ 3 a = nI 32 := by first | exact h22 | exact Decidable.not_not.mp h22
        refine xr_aload_n (n := 26) dX8_here_25 rfl rfl ?_
        refine xr_dup (n := 27) dX8_here_26 rfl rfl ?_
        refine xr_get (n := 30) dX8_here_27 fl_X8_72 (by first | exact mput_0 _ _ _ | exact mput_r (by decide)) (by rfl) rfl ?_
        try simp (disch := omega) only [nI_clamp, pk_mul, nI_add, oi1, up2_a, ur_a, Nat.reduceEqDiff, Nat.reduceMul, Nat.reduceAdd, reduceIte, if_pos, if_neg, hn, ha]
        refine xr_iconst (v := nI 1) (n := 31) dX8_here_30 (by decide) rfl ?_
        refine xr_iadd (n := 32) dX8_here_31 rfl ?_
        try simp (disch := omega) only [nI_clamp, pk_mul, nI_add, oi1, up2_a, ur_a, Nat.reduceEqDiff, Nat.reduceMul, Nat.reduceAdd, reduceIte, if_pos, if_neg, hn, ha]
        refine xq_put (n := 35) dX8_here_32 fl_X8_72 rfl (by first | exact mput_0 _ _ _ | exact mput_r (by decide)) (by rfl) (by rfl) (by rfl) rfl ?_
        simp (disch := omega) only [nI_clamp, List.set, mw_0, mw_1, mw_2, mw_3, mw_4, mw_5, mw_6, mw_7, mw_8, mw_9, mw_10, mw_11, mw_12, mw_13, mw_14, mw_15, mw_16, mw_17, mw_18, mw_19]
        refine xr_goto (n := 0) dX8_here_35 (by decide) ?_
        rw [if_pos ⟨by ((try simp (disch := omega) only [i_lt, i_le, i_eq, nt, i_m1, Int32.toInt_zero] at *); omega), h22e⟩] at hq
        refine ih (a + 1) _ (by omega) (hp.at (by ((try simp (disch := omega) only [i_lt, i_le, i_eq, nt, i_m1, Int32.toInt_zero] at *); omega))) ?_
        rw [up2_up2]
        exact hq

theorem s_X8_here {G : xG} {d : Nat} {f : Nat → xC} {r : Nat × Nat} {Q : Option Value → xM → Prop} {m n a : Nat} {μ : xS} (hp : pst μ n a) (hq : Q (some (.int (ch (μ 3) n (skp (μ 3) n a)))) (mput f m (up2 μ 6 0 (nI (skp (μ 3) n a))), r)) : xMet G d mX8_here [.ref m] (mput f m μ, r) r Q := by
  refine xMet_0 (by decide +kernel) rfl (Nat.le_of_ble_eq_true rfl) ?_
  exact s_X8_here_l (n - a) a μ (Nat.le_refl _) hp hq

theorem s_X8_saves {G : xG} {d : Nat} {f : Nat → xC} {r : Nat × Nat} {Q : Option Value → xM → Prop} {m : Nat} {μ : xS} {sv : Nat} (hs : μ 2 0 = nI sv) (hs2 : sv ≤ 5) (hq : Q none (mput f m (msave μ sv), r)) : xMet G d mX8_saves [.ref m] (mput f m μ, r) r Q := by
  refine xMet_0 (by decide +kernel) rfl (Nat.le_of_ble_eq_true rfl) ?_
  show xX G d mX8_saves r r (xΦ G r r Q) 0 [(0, .ref m)] [] (mput f m μ, r)
  refine xr_aload_n (n := 1) dX8_saves_0 rfl rfl ?_
  refine xr_get (n := 4) dX8_saves_1 fl_X8_65 (by first | exact mput_0 _ _ _ | exact mput_r (by decide)) (by rfl) rfl ?_
  try simp (disch := omega) only [nI_clamp, pk_mul, nI_add, oi1, up2_a, ur_a, Nat.reduceEqDiff, Nat.reduceMul, Nat.reduceAdd, reduceIte, if_pos, if_neg, hs]
  refine xr_iconst (v := nI 5) (n := 5) dX8_saves_4 (by decide) rfl ?_
  refine xr_icmp_ne (tgt := 49) (n := 8) dX8_saves_5 (by decide) rfl (fun h5 => ?_) (fun h5 => ?_)
  · have e5 : ¬ sv = 5 := by ((try simp (disch := omega) only [i_lt, i_le, i_eq, nt, i_m1, Int32.toInt_zero] at *); omega)
    unfold msave at hq
    rw [if_neg e5] at hq
    refine xr_iconst (v := nI 0) (n := 50) dX8_saves_49 (by decide) rfl ?_
    refine xq_istore_n 1 (n := 51) dX8_saves_50 rfl rfl rfl ?_
    simp only [xst, Nat.beq, List.filter, Bool.not_true, Bool.not_false]
    rw [show mput f m (μ) = mput f m (ur (μ) 1 (fo (fun j => (μ) 0 j) ((μ) 1) (842 * sv) 0)) from by rw [ur_fo0]]
    refine nat_down (P := fun k => xX G d mX8_saves r r (xΦ G r r Q) 51 [(0, .ref m), (1, .int (nI k))] [] (mput f m (ur (μ) 1 (fo (fun j => (μ) 0 j) ((μ) 1) (842 * sv) k)), r)) (N := 842) ?_ ?_ 0 (by omega)
    · refine xr_iload_n (n := 52) dX8_saves_51 rfl rfl ?_
      refine xr_sipush (v := nI 842) (n := 55) dX8_saves_52 (by decide) rfl ?_
      refine xr_icmp_ge (tgt := 85) (n := 58) dX8_saves_55 (by decide) rfl (fun h55 => ?_) (fun h55 => by (exfalso; ((try simp (disch := omega) only [i_lt, i_le, i_eq, nt, i_m1, Int32.toInt_zero] at *); omega)))
      refine xr_aload_n (n := 86) dX8_saves_85 rfl rfl ?_
      refine xr_dup (n := 87) dX8_saves_86 rfl rfl ?_
      refine xr_get (n := 90) dX8_saves_87 fl_X8_65 (by first | exact mput_0 _ _ _ | exact mput_r (by decide)) (by rfl) rfl ?_
      try simp (disch := omega) only [nI_clamp, pk_mul, nI_add, oi1, up2_a, ur_a, Nat.reduceEqDiff, Nat.reduceMul, Nat.reduceAdd, reduceIte, if_pos, if_neg, hs]
      refine xr_iconst (v := nI 1) (n := 91) dX8_saves_90 (by decide) rfl ?_
      refine xr_iadd (n := 92) dX8_saves_91 rfl ?_
      try simp (disch := omega) only [nI_clamp, pk_mul, nI_add, oi1, up2_a, ur_a, Nat.reduceEqDiff, Nat.reduceMul, Nat.reduceAdd, reduceIte, if_pos, if_neg, hs]
      refine xq_put (n := 95) dX8_saves_92 fl_X8_65 rfl (by first | exact mput_0 _ _ _ | exact mput_r (by decide)) (by rfl) (by rfl) (by rfl) rfl ?_
      simp (disch := omega) only [nI_clamp, List.set, mw_0, mw_1, mw_2, mw_3, mw_4, mw_5, mw_6, mw_7, mw_8, mw_9, mw_10, mw_11, mw_12, mw_13, mw_14, mw_15, mw_16, mw_17, mw_18, mw_19]
      refine xr_return dX8_saves_95 rfl rfl ?_
      unfold mput1 at hq
      exact hq
    · intro k hk ih
      refine xr_iload_n (n := 52) dX8_saves_51 rfl rfl ?_
      refine xr_sipush (v := nI 842) (n := 55) dX8_saves_52 (by decide) rfl ?_
      refine xr_icmp_ge (tgt := 85) (n := 58) dX8_saves_55 (by decide) rfl (fun h55 => by (exfalso; ((try simp (disch := omega) only [i_lt, i_le, i_eq, nt, i_m1, Int32.toInt_zero] at *); omega))) (fun h55 => ?_)
      refine xr_aload_n (n := 59) dX8_saves_58 rfl rfl ?_
      refine xr_get (n := 62) dX8_saves_59 fl_X8_13 (by first | exact mput_0 _ _ _ | exact mput_r (by decide)) (by rfl) rfl ?_
      refine xr_sipush (v := nI 842) (n := 65) dX8_saves_62 (by decide) rfl ?_
      refine xr_aload_n (n := 66) dX8_saves_65 rfl rfl ?_
      refine xr_get (n := 69) dX8_saves_66 fl_X8_65 (by first | exact mput_0 _ _ _ | exact mput_r (by decide)) (by rfl) rfl ?_
      try simp (disch := omega) only [nI_clamp, pk_mul, nI_add, oi1, up2_a, ur_a, Nat.reduceEqDiff, Nat.reduceMul, Nat.reduceAdd, reduceIte, if_pos, if_neg, hs]
      refine xr_imul (n := 70) dX8_saves_69 rfl ?_
      try simp (disch := omega) only [nI_clamp, pk_mul, nI_add, oi1, up2_a, ur_a, Nat.reduceEqDiff, Nat.reduceMul, Nat.reduceAdd, reduceIte, if_pos, if_neg, hs]
      refine xr_iload_n (n := 71) dX8_saves_70 rfl rfl ?_
      refine xr_iadd (n := 72) dX8_saves_71 rfl ?_
      try simp (disch := omega) only [nI_clamp, pk_mul, nI_add, oi1, up2_a, ur_a, Nat.reduceEqDiff, Nat.reduceMul, Nat.reduceAdd, reduceIte, if_pos, if_neg, hs]
      refine xr_aload_n (n := 73) dX8_saves_72 rfl rfl ?_
      refine xr_get (n := 76) dX8_saves_73 fl_X8_7 (by first | exact mput_0 _ _ _ | exact mput_r (by decide)) (by rfl) rfl ?_
      refine xr_iload_n (n := 77) dX8_saves_76 rfl rfl ?_
      refine xr_iaload (n := 78) dX8_saves_77 (by first | exact mput_0 _ _ _ | exact mput_r (by decide)) (by first | exact vp_in_nI (by omega) (by omega)) rfl ?_
      try simp (disch := omega) only [nI_clamp, pk_mul, nI_add, oi1, up2_a, ur_a, Nat.reduceEqDiff, Nat.reduceMul, Nat.reduceAdd, reduceIte, if_pos, if_neg, hs]
      refine xq_iastore (n := 79) dX8_saves_78 (by first | exact mput_0 _ _ _ | exact mput_r (by decide)) (by first | exact vp_in_nI (by omega) (by omega)) rfl ?_
      simp (disch := omega) only [nI_clamp, List.set, mw_0, mw_1, mw_2, mw_3, mw_4, mw_5, mw_6, mw_7, mw_8, mw_9, mw_10, mw_11, mw_12, mw_13, mw_14, mw_15, mw_16, mw_17, mw_18, mw_19]
      refine xr_iinc (n := 82) dX8_saves_79 rfl rfl (rfl) rfl ?_
      simp only [xst, Nat.beq, List.filter, Bool.not_true, Bool.not_false]
      try simp (disch := omega) only [nI_clamp, pk_mul, nI_add, oi1, up2_a, ur_a, Nat.reduceEqDiff, Nat.reduceMul, Nat.reduceAdd, reduceIte, if_pos, if_neg, hs]
      refine xr_goto (n := 51) dX8_saves_82 (by decide) ?_
      refine xX.eq rfl rfl rfl ?_ ih
      rw [← ur_fo (g := fun j => (μ) 0 j) (v := (μ) 0 k) rfl]
  · have e5 : sv = 5 := by ((try simp (disch := omega) only [i_lt, i_le, i_eq, nt, i_m1, Int32.toInt_zero] at *); omega)
    unfold msave at hq
    rw [if_pos e5] at hq
    subst e5
    refine xr_iconst (v := nI 0) (n := 9) dX8_saves_8 (by decide) rfl ?_
    refine xq_istore_n 1 (n := 10) dX8_saves_9 rfl rfl rfl ?_
    simp only [xst, Nat.beq, List.filter, Bool.not_true, Bool.not_false]
    rw [show mput f m μ = mput f m (ur μ 1 (fo (fun j => μ 1 (j + 842)) (μ 1) 0 0)) from by rw [ur_fo0]]
    refine nat_down (P := fun k => xX G d mX8_saves r r (xΦ G r r Q) 10 [(0, .ref m), (1, .int (nI k))] [] (mput f m (ur μ 1 (fo (fun j => μ 1 (j + 842)) (μ 1) 0 k)), r)) (N := 3368) ?_ ?_ 0 (by omega)
    · refine xr_iload_n (n := 11) dX8_saves_10 rfl rfl ?_
      refine xr_sipush (v := nI 3368) (n := 14) dX8_saves_11 (by decide) rfl ?_
      refine xr_icmp_ge (tgt := 39) (n := 17) dX8_saves_14 (by decide) rfl (fun h14 => ?_) (fun h14 => by (exfalso; ((try simp (disch := omega) only [i_lt, i_le, i_eq, nt, i_m1, Int32.toInt_zero] at *); omega)))
      refine xr_aload_n (n := 40) dX8_saves_39 rfl rfl ?_
      refine xr_dup (n := 41) dX8_saves_40 rfl rfl ?_
      refine xr_get (n := 44) dX8_saves_41 fl_X8_65 (by first | exact mput_0 _ _ _ | exact mput_r (by decide)) (by rfl) rfl ?_
      try simp (disch := omega) only [nI_clamp, pk_mul, nI_add, oi1, up2_a, ur_a, Nat.reduceEqDiff, Nat.reduceMul, Nat.reduceAdd, reduceIte, if_pos, if_neg, fo_a, hs, pk_sub]
      refine xr_iconst (v := nI 1) (n := 45) dX8_saves_44 (by decide) rfl ?_
      refine xr_isub (n := 46) dX8_saves_45 rfl ?_
      try simp (disch := omega) only [nI_clamp, pk_mul, nI_add, oi1, up2_a, ur_a, Nat.reduceEqDiff, Nat.reduceMul, Nat.reduceAdd, reduceIte, if_pos, if_neg, fo_a, hs, pk_sub]
      refine xq_put (n := 49) dX8_saves_46 fl_X8_65 rfl (by first | exact mput_0 _ _ _ | exact mput_r (by decide)) (by rfl) (by rfl) (by rfl) rfl ?_
      simp (disch := omega) only [nI_clamp, List.set, mw_0, mw_1, mw_2, mw_3, mw_4, mw_5, mw_6, mw_7, mw_8, mw_9, mw_10, mw_11, mw_12, mw_13, mw_14, mw_15, mw_16, mw_17, mw_18, mw_19]
      refine xr_iconst (v := nI 0) (n := 50) dX8_saves_49 (by decide) rfl ?_
      refine xq_istore_n 1 (n := 51) dX8_saves_50 rfl rfl rfl ?_
      simp only [xst, Nat.beq, List.filter, Bool.not_true, Bool.not_false]
      have hs9 : mshift μ 2 0 = nI 4 := up2_ss _ _ _ _
      rw [show up2 (ur μ 1 (fo (fun j => μ 1 (j + 842)) (μ 1) 0 3368)) 2 0 (nI (5 - 1)) = mshift μ from rfl]
      rw [show mput f m (mshift μ) = mput f m (ur (mshift μ) 1 (fo (fun j => (mshift μ) 0 j) ((mshift μ) 1) (842 * 4) 0)) from by rw [ur_fo0]]
      refine nat_down (P := fun k => xX G d mX8_saves r r (xΦ G r r Q) 51 [(0, .ref m), (1, .int (nI k))] [] (mput f m (ur (mshift μ) 1 (fo (fun j => (mshift μ) 0 j) ((mshift μ) 1) (842 * 4) k)), r)) (N := 842) ?_ ?_ 0 (by omega)
      · refine xr_iload_n (n := 52) dX8_saves_51 rfl rfl ?_
        refine xr_sipush (v := nI 842) (n := 55) dX8_saves_52 (by decide) rfl ?_
        refine xr_icmp_ge (tgt := 85) (n := 58) dX8_saves_55 (by decide) rfl (fun h55 => ?_) (fun h55 => by (exfalso; ((try simp (disch := omega) only [i_lt, i_le, i_eq, nt, i_m1, Int32.toInt_zero] at *); omega)))
        refine xr_aload_n (n := 86) dX8_saves_85 rfl rfl ?_
        refine xr_dup (n := 87) dX8_saves_86 rfl rfl ?_
        refine xr_get (n := 90) dX8_saves_87 fl_X8_65 (by first | exact mput_0 _ _ _ | exact mput_r (by decide)) (by rfl) rfl ?_
        try simp (disch := omega) only [nI_clamp, pk_mul, nI_add, oi1, up2_a, ur_a, Nat.reduceEqDiff, Nat.reduceMul, Nat.reduceAdd, reduceIte, if_pos, if_neg, hs9]
        refine xr_iconst (v := nI 1) (n := 91) dX8_saves_90 (by decide) rfl ?_
        refine xr_iadd (n := 92) dX8_saves_91 rfl ?_
        try simp (disch := omega) only [nI_clamp, pk_mul, nI_add, oi1, up2_a, ur_a, Nat.reduceEqDiff, Nat.reduceMul, Nat.reduceAdd, reduceIte, if_pos, if_neg, hs9]
        refine xq_put (n := 95) dX8_saves_92 fl_X8_65 rfl (by first | exact mput_0 _ _ _ | exact mput_r (by decide)) (by rfl) (by rfl) (by rfl) rfl ?_
        simp (disch := omega) only [nI_clamp, List.set, mw_0, mw_1, mw_2, mw_3, mw_4, mw_5, mw_6, mw_7, mw_8, mw_9, mw_10, mw_11, mw_12, mw_13, mw_14, mw_15, mw_16, mw_17, mw_18, mw_19]
        refine xr_return dX8_saves_95 rfl rfl ?_
        unfold mput1 at hq
        exact hq
      · intro k hk ih
        refine xr_iload_n (n := 52) dX8_saves_51 rfl rfl ?_
        refine xr_sipush (v := nI 842) (n := 55) dX8_saves_52 (by decide) rfl ?_
        refine xr_icmp_ge (tgt := 85) (n := 58) dX8_saves_55 (by decide) rfl (fun h55 => by (exfalso; ((try simp (disch := omega) only [i_lt, i_le, i_eq, nt, i_m1, Int32.toInt_zero] at *); omega))) (fun h55 => ?_)
        refine xr_aload_n (n := 59) dX8_saves_58 rfl rfl ?_
        refine xr_get (n := 62) dX8_saves_59 fl_X8_13 (by first | exact mput_0 _ _ _ | exact mput_r (by decide)) (by rfl) rfl ?_
        refine xr_sipush (v := nI 842) (n := 65) dX8_saves_62 (by decide) rfl ?_
        refine xr_aload_n (n := 66) dX8_saves_65 rfl rfl ?_
        refine xr_get (n := 69) dX8_saves_66 fl_X8_65 (by first | exact mput_0 _ _ _ | exact mput_r (by decide)) (by rfl) rfl ?_
        try simp (disch := omega) only [nI_clamp, pk_mul, nI_add, oi1, up2_a, ur_a, Nat.reduceEqDiff, Nat.reduceMul, Nat.reduceAdd, reduceIte, if_pos, if_neg, hs9]
        refine xr_imul (n := 70) dX8_saves_69 rfl ?_
        try simp (disch := omega) only [nI_clamp, pk_mul, nI_add, oi1, up2_a, ur_a, Nat.reduceEqDiff, Nat.reduceMul, Nat.reduceAdd, reduceIte, if_pos, if_neg, hs9]
        refine xr_iload_n (n := 71) dX8_saves_70 rfl rfl ?_
        refine xr_iadd (n := 72) dX8_saves_71 rfl ?_
        try simp (disch := omega) only [nI_clamp, pk_mul, nI_add, oi1, up2_a, ur_a, Nat.reduceEqDiff, Nat.reduceMul, Nat.reduceAdd, reduceIte, if_pos, if_neg, hs9]
        refine xr_aload_n (n := 73) dX8_saves_72 rfl rfl ?_
        refine xr_get (n := 76) dX8_saves_73 fl_X8_7 (by first | exact mput_0 _ _ _ | exact mput_r (by decide)) (by rfl) rfl ?_
        refine xr_iload_n (n := 77) dX8_saves_76 rfl rfl ?_
        refine xr_iaload (n := 78) dX8_saves_77 (by first | exact mput_0 _ _ _ | exact mput_r (by decide)) (by first | exact vp_in_nI (by omega) (by omega)) rfl ?_
        try simp (disch := omega) only [nI_clamp, pk_mul, nI_add, oi1, up2_a, ur_a, Nat.reduceEqDiff, Nat.reduceMul, Nat.reduceAdd, reduceIte, if_pos, if_neg, hs9]
        refine xq_iastore (n := 79) dX8_saves_78 (by first | exact mput_0 _ _ _ | exact mput_r (by decide)) (by first | exact vp_in_nI (by omega) (by omega)) rfl ?_
        simp (disch := omega) only [nI_clamp, List.set, mw_0, mw_1, mw_2, mw_3, mw_4, mw_5, mw_6, mw_7, mw_8, mw_9, mw_10, mw_11, mw_12, mw_13, mw_14, mw_15, mw_16, mw_17, mw_18, mw_19]
        refine xr_iinc (n := 82) dX8_saves_79 rfl rfl (rfl) rfl ?_
        simp only [xst, Nat.beq, List.filter, Bool.not_true, Bool.not_false]
        try simp (disch := omega) only [nI_clamp, pk_mul, nI_add, oi1, up2_a, ur_a, Nat.reduceEqDiff, Nat.reduceMul, Nat.reduceAdd, reduceIte, if_pos, if_neg, hs9]
        refine xr_goto (n := 51) dX8_saves_82 (by decide) ?_
        refine xX.eq rfl rfl rfl ?_ ih
        rw [← ur_fo (g := fun j => (mshift μ) 0 j) (v := (mshift μ) 0 k) rfl]
    · intro k hk ih
      refine xr_iload_n (n := 11) dX8_saves_10 rfl rfl ?_
      refine xr_sipush (v := nI 3368) (n := 14) dX8_saves_11 (by decide) rfl ?_
      refine xr_icmp_ge (tgt := 39) (n := 17) dX8_saves_14 (by decide) rfl (fun h14 => by (exfalso; ((try simp (disch := omega) only [i_lt, i_le, i_eq, nt, i_m1, Int32.toInt_zero] at *); omega))) (fun h14 => ?_)
      refine xr_aload_n (n := 18) dX8_saves_17 rfl rfl ?_
      refine xr_get (n := 21) dX8_saves_18 fl_X8_13 (by first | exact mput_0 _ _ _ | exact mput_r (by decide)) (by rfl) rfl ?_
      refine xr_iload_n (n := 22) dX8_saves_21 rfl rfl ?_
      refine xr_aload_n (n := 23) dX8_saves_22 rfl rfl ?_
      refine xr_get (n := 26) dX8_saves_23 fl_X8_13 (by first | exact mput_0 _ _ _ | exact mput_r (by decide)) (by rfl) rfl ?_
      refine xr_iload_n (n := 27) dX8_saves_26 rfl rfl ?_
      refine xr_sipush (v := nI 842) (n := 30) dX8_saves_27 (by decide) rfl ?_
      refine xr_iadd (n := 31) dX8_saves_30 rfl ?_
      try simp (disch := omega) only [nI_clamp, pk_mul, nI_add, oi1, up2_a, ur_a, Nat.reduceEqDiff, Nat.reduceMul, Nat.reduceAdd, reduceIte, if_pos, if_neg, fo_a, hs, pk_sub]
      refine xr_iaload (n := 32) dX8_saves_31 (by first | exact mput_0 _ _ _ | exact mput_r (by decide)) (by first | exact vp_in_nI (by omega) (by omega)) rfl ?_
      try simp (disch := omega) only [nI_clamp, pk_mul, nI_add, oi1, up2_a, ur_a, Nat.reduceEqDiff, Nat.reduceMul, Nat.reduceAdd, reduceIte, if_pos, if_neg, fo_a, hs, pk_sub]
      refine xq_iastore (n := 33) dX8_saves_32 (by first | exact mput_0 _ _ _ | exact mput_r (by decide)) (by first | exact vp_in_nI (by omega) (by omega)) rfl ?_
      simp (disch := omega) only [nI_clamp, List.set, mw_0, mw_1, mw_2, mw_3, mw_4, mw_5, mw_6, mw_7, mw_8, mw_9, mw_10, mw_11, mw_12, mw_13, mw_14, mw_15, mw_16, mw_17, mw_18, mw_19]
      refine xr_iinc (n := 36) dX8_saves_33 rfl rfl (rfl) rfl ?_
      simp only [xst, Nat.beq, List.filter, Bool.not_true, Bool.not_false]
      try simp (disch := omega) only [nI_clamp, pk_mul, nI_add, oi1, up2_a, ur_a, Nat.reduceEqDiff, Nat.reduceMul, Nat.reduceAdd, reduceIte, if_pos, if_neg, fo_a, hs, pk_sub]
      refine xr_goto (n := 10) dX8_saves_36 (by decide) ?_
      refine xX.eq rfl rfl rfl ?_ ih
      rw [← ur_fo (g := fun j => μ 1 (j + 842)) (v := μ 1 (k + 842)) rfl, Nat.zero_add]

theorem s_X8_undo {G : xG} {d : Nat} {f : Nat → xC} {r : Nat × Nat} {Q : Option Value → xM → Prop} {m : Nat} {μ : xS} {sv : Nat} (hs : μ 2 0 = nI sv) (hs2 : sv ≤ 5) (hq0 : sv = 0 → Q (some (.int (-10002))) (mput f m μ, r)) (hq : ∀ k, sv = k + 1 → Q (some (.int (nI k))) (mput f m (mback μ k), r)) : xMet G d mX8_undo [.ref m] (mput f m μ, r) r Q := by
  refine xMet_0 (by decide +kernel) rfl (Nat.le_of_ble_eq_true rfl) ?_
  show xX G d mX8_undo r r (xΦ G r r Q) 0 [(0, .ref m)] [] (mput f m μ, r)
  refine xr_aload_n (n := 1) dX8_undo_0 rfl rfl ?_
  refine xr_get (n := 4) dX8_undo_1 fl_X8_65 (by first | exact mput_0 _ _ _ | exact mput_r (by decide)) (by rfl) rfl ?_
  try simp (disch := omega) only [nI_clamp, pk_mul, nI_add, oi1, up2_a, ur_a, Nat.reduceEqDiff, Nat.reduceMul, Nat.reduceAdd, reduceIte, if_pos, if_neg, hs, pk_sub, Nat.add_sub_cancel]
  refine xr_if_ne (tgt := 11) (n := 7) dX8_undo_4 (by decide) rfl (fun h4 => ?_) (fun h4 => ?_)
  · have e0 : ¬ sv = 0 := by ((try simp (disch := omega) only [i_lt, i_le, i_eq, nt, i_m1, Int32.toInt_zero] at *); omega)
    obtain ⟨k1, rfl⟩ : ∃ k1, sv = k1 + 1 := ⟨sv - 1, by omega⟩
    refine xr_aload_n (n := 12) dX8_undo_11 rfl rfl ?_
    refine xr_dup (n := 13) dX8_undo_12 rfl rfl ?_
    refine xr_get (n := 16) dX8_undo_13 fl_X8_65 (by first | exact mput_0 _ _ _ | exact mput_r (by decide)) (by rfl) rfl ?_
    try simp (disch := omega) only [nI_clamp, pk_mul, nI_add, oi1, up2_a, ur_a, Nat.reduceEqDiff, Nat.reduceMul, Nat.reduceAdd, reduceIte, if_pos, if_neg, hs, pk_sub, Nat.add_sub_cancel]
    refine xr_iconst (v := nI 1) (n := 17) dX8_undo_16 (by decide) rfl ?_
    refine xr_isub (n := 18) dX8_undo_17 rfl ?_
    try simp (disch := omega) only [nI_clamp, pk_mul, nI_add, oi1, up2_a, ur_a, Nat.reduceEqDiff, Nat.reduceMul, Nat.reduceAdd, reduceIte, if_pos, if_neg, hs, pk_sub, Nat.add_sub_cancel]
    refine xq_put (n := 21) dX8_undo_18 fl_X8_65 rfl (by first | exact mput_0 _ _ _ | exact mput_r (by decide)) (by rfl) (by rfl) (by rfl) rfl ?_
    simp (disch := omega) only [nI_clamp, List.set, mw_0, mw_1, mw_2, mw_3, mw_4, mw_5, mw_6, mw_7, mw_8, mw_9, mw_10, mw_11, mw_12, mw_13, mw_14, mw_15, mw_16, mw_17, mw_18, mw_19]
    refine xr_iconst (v := nI 0) (n := 22) dX8_undo_21 (by decide) rfl ?_
    refine xq_istore_n 1 (n := 23) dX8_undo_22 rfl rfl rfl ?_
    simp only [xst, Nat.beq, List.filter, Bool.not_true, Bool.not_false]
    have hs9 : (up2 μ 2 0 (nI k1)) 2 0 = nI k1 := up2_ss _ _ _ _
    rw [show mput f m (up2 μ 2 0 (nI k1)) = mput f m (ur (up2 μ 2 0 (nI k1)) 0 (fo (fun j => μ 1 (842 * k1 + j)) ((up2 μ 2 0 (nI k1)) 0) 0 0)) from by rw [ur_fo0]]
    refine nat_down (P := fun k => xX G d mX8_undo r r (xΦ G r r Q) 23 [(0, .ref m), (1, .int (nI k))] [] (mput f m (ur (up2 μ 2 0 (nI k1)) 0 (fo (fun j => μ 1 (842 * k1 + j)) ((up2 μ 2 0 (nI k1)) 0) 0 k)), r)) (N := 842) ?_ ?_ 0 (by omega)
    · refine xr_iload_n (n := 24) dX8_undo_23 rfl rfl ?_
      refine xr_sipush (v := nI 842) (n := 27) dX8_undo_24 (by decide) rfl ?_
      refine xr_icmp_ge (tgt := 57) (n := 30) dX8_undo_27 (by decide) rfl (fun h27 => ?_) (fun h27 => by (exfalso; ((try simp (disch := omega) only [i_lt, i_le, i_eq, nt, i_m1, Int32.toInt_zero] at *); omega)))
      refine xr_aload_n (n := 58) dX8_undo_57 rfl rfl ?_
      refine xr_get (n := 61) dX8_undo_58 fl_X8_65 (by first | exact mput_0 _ _ _ | exact mput_r (by decide)) (by rfl) rfl ?_
      try simp (disch := omega) only [nI_clamp, pk_mul, nI_add, oi1, up2_a, ur_a, Nat.reduceEqDiff, Nat.reduceMul, Nat.reduceAdd, reduceIte, if_pos, if_neg, hs, pk_sub, Nat.add_sub_cancel]
      refine xr_ireturn dX8_undo_61 rfl rfl rfl ?_
      exact hq k1 rfl
    · intro k hk ih
      refine xr_iload_n (n := 24) dX8_undo_23 rfl rfl ?_
      refine xr_sipush (v := nI 842) (n := 27) dX8_undo_24 (by decide) rfl ?_
      refine xr_icmp_ge (tgt := 57) (n := 30) dX8_undo_27 (by decide) rfl (fun h27 => by (exfalso; ((try simp (disch := omega) only [i_lt, i_le, i_eq, nt, i_m1, Int32.toInt_zero] at *); omega))) (fun h27 => ?_)
      refine xr_aload_n (n := 31) dX8_undo_30 rfl rfl ?_
      refine xr_get (n := 34) dX8_undo_31 fl_X8_7 (by first | exact mput_0 _ _ _ | exact mput_r (by decide)) (by rfl) rfl ?_
      refine xr_iload_n (n := 35) dX8_undo_34 rfl rfl ?_
      refine xr_aload_n (n := 36) dX8_undo_35 rfl rfl ?_
      refine xr_get (n := 39) dX8_undo_36 fl_X8_13 (by first | exact mput_0 _ _ _ | exact mput_r (by decide)) (by rfl) rfl ?_
      refine xr_sipush (v := nI 842) (n := 42) dX8_undo_39 (by decide) rfl ?_
      refine xr_aload_n (n := 43) dX8_undo_42 rfl rfl ?_
      refine xr_get (n := 46) dX8_undo_43 fl_X8_65 (by first | exact mput_0 _ _ _ | exact mput_r (by decide)) (by rfl) rfl ?_
      try simp (disch := omega) only [nI_clamp, pk_mul, nI_add, oi1, up2_a, ur_a, Nat.reduceEqDiff, Nat.reduceMul, Nat.reduceAdd, reduceIte, if_pos, if_neg, hs, pk_sub, Nat.add_sub_cancel]
      refine xr_imul (n := 47) dX8_undo_46 rfl ?_
      try simp (disch := omega) only [nI_clamp, pk_mul, nI_add, oi1, up2_a, ur_a, Nat.reduceEqDiff, Nat.reduceMul, Nat.reduceAdd, reduceIte, if_pos, if_neg, hs, pk_sub, Nat.add_sub_cancel]
      refine xr_iload_n (n := 48) dX8_undo_47 rfl rfl ?_
      refine xr_iadd (n := 49) dX8_undo_48 rfl ?_
      try simp (disch := omega) only [nI_clamp, pk_mul, nI_add, oi1, up2_a, ur_a, Nat.reduceEqDiff, Nat.reduceMul, Nat.reduceAdd, reduceIte, if_pos, if_neg, hs, pk_sub, Nat.add_sub_cancel]
      refine xr_iaload (n := 50) dX8_undo_49 (by first | exact mput_0 _ _ _ | exact mput_r (by decide)) (by first | exact vp_in_nI (by omega) (by omega)) rfl ?_
      try simp (disch := omega) only [nI_clamp, pk_mul, nI_add, oi1, up2_a, ur_a, Nat.reduceEqDiff, Nat.reduceMul, Nat.reduceAdd, reduceIte, if_pos, if_neg, hs, pk_sub, Nat.add_sub_cancel]
      refine xq_iastore (n := 51) dX8_undo_50 (by first | exact mput_0 _ _ _ | exact mput_r (by decide)) (by first | exact vp_in_nI (by omega) (by omega)) rfl ?_
      simp (disch := omega) only [nI_clamp, List.set, mw_0, mw_1, mw_2, mw_3, mw_4, mw_5, mw_6, mw_7, mw_8, mw_9, mw_10, mw_11, mw_12, mw_13, mw_14, mw_15, mw_16, mw_17, mw_18, mw_19]
      refine xr_iinc (n := 54) dX8_undo_51 rfl rfl (rfl) rfl ?_
      simp only [xst, Nat.beq, List.filter, Bool.not_true, Bool.not_false]
      try simp (disch := omega) only [nI_clamp, pk_mul, nI_add, oi1, up2_a, ur_a, Nat.reduceEqDiff, Nat.reduceMul, Nat.reduceAdd, reduceIte, if_pos, if_neg, hs, pk_sub, Nat.add_sub_cancel]
      refine xr_goto (n := 23) dX8_undo_54 (by decide) ?_
      refine xX.eq rfl rfl rfl ?_ ih
      rw [← ur_fo (g := fun j => μ 1 (842 * k1 + j)) (v := μ 1 (842 * k1 + k)) rfl, Nat.zero_add]
  · refine xr_sipush (v := (-10002)) (n := 10) dX8_undo_7 (by decide) rfl ?_
    refine xr_ireturn dX8_undo_10 rfl rfl rfl ?_
    exact hq0 (by ((try simp (disch := omega) only [i_lt, i_le, i_eq, nt, i_m1, Int32.toInt_zero] at *); omega))
