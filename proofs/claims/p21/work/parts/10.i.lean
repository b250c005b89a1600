/-! THE LAW's agreesOn and agreeFits -/
theorem av_add {lo : Int32} {i : Nat} (h : -9 ≤ lo.toInt) (h2 : lo.toInt ≤ 9) (hi : i ≤ 20) : lo + nI i = av lo i := by
  have e := nt i (by omega)
  rw [i_eq, av_i h h2 hi, i_add (by omega) (by omega), e]
theorem av_in {lo : Int32} {i j : Nat} (h : -9 ≤ lo.toInt) (h2 : lo.toInt ≤ 9) (hi : i ≤ 20) (hj : j ≤ 20) : inpt (av lo i) (av lo j) := by
  unfold inpt
  rw [av_i h h2 hi, av_i h h2 hj]
  omega
/-- the four inputs of a range of two, from the last to the first -/
def agT (g : Nat → Nat → Bool) (lo : Int32) : Nat → Nat → Nat × Int32 × Int32
  | 0, _ => (0, (-10009), (-10009))
  | m + 1, k => if g (k / 2) (k % 2) = true then ((agT g lo m (k + 1)).1 + 1, (agT g lo m (k + 1)).2.1, (agT g lo m (k + 1)).2.2) else ((agT g lo m (k + 1)).1, av lo (k / 2), av lo (k % 2))
theorem agT_t {g : Nat → Nat → Bool} {lo : Int32} {k : Nat} (hk : k < 4) (h : g (k / 2) (k % 2) = true) : agT g lo (4 - k) k = ((agT g lo (4 - (k + 1)) (k + 1)).1 + 1, (agT g lo (4 - (k + 1)) (k + 1)).2.1, (agT g lo (4 - (k + 1)) (k + 1)).2.2) := by
  rw [show 4 - k = (4 - (k + 1)) + 1 from by omega]
  exact if_pos h
theorem agT_f {g : Nat → Nat → Bool} {lo : Int32} {k : Nat} (hk : k < 4) (h : ¬ g (k / 2) (k % 2) = true) : agT g lo (4 - k) k = ((agT g lo (4 - (k + 1)) (k + 1)).1, av lo (k / 2), av lo (k % 2)) := by
  rw [show 4 - k = (4 - (k + 1)) + 1 from by omega]
  exact if_neg h
theorem agT_le (g : Nat → Nat → Bool) (lo : Int32) : ∀ m k, (agT g lo m k).1 ≤ m
  | 0, _ => Nat.le_refl _
  | m + 1, k => by
    have := agT_le g lo m (k + 1)
    unfold agT
    split
    · show (agT g lo m (k + 1)).1 + 1 ≤ m + 1; omega
    · show (agT g lo m (k + 1)).1 ≤ m + 1; omega
theorem agT_fin (g : Nat → Nat → Bool) (lo : Int32) : agT g lo 4 0 = ((agR g 2 2).1, agF lo (agR g 2 2).2, agS lo (agR g 2 2).2) := by
  cases h00 : g 0 0 <;> cases h01 : g 0 1 <;> cases h10 : g 1 0 <;> cases h11 : g 1 1 <;> simp [agT, agR, agC, agN, agF, agS, h00, h01, h10, h11]
theorem wid2 {lo : Int32} (h : -9 ≤ lo.toInt) (h2 : lo.toInt ≤ 8) : (lo + nI 1).toInt = lo.toInt + 1 ∧ wid lo (lo + nI 1) = 2 := by
  have e := nt 1 (by omega)
  have e2 : (lo + nI 1).toInt = lo.toInt + 1 := by rw [i_add (by omega) (by omega), e]; rfl
  refine ⟨e2, ?_⟩
  unfold wid
  omega
theorem s_L_agreesOn {G : xG} {d : Nat} {f : Nat → xC} {r : Nat × Nat} {Q : Option Value → xM → Prop} {z : Nat} {a b : Int32} {o : xO} (hO : OI f z o) (hin : inpt a b) (hq : ∀ f', OI f' z o → Q (some (.int (b2i (agP (oN o 0) (oN o 1) (RO o 0 a b) (RO o 1 a b))))) (f', r)) : xMet G (d + 10) mL_agreesOn [.ref z, .int a, .int b] (f, r) r Q := by
  refine xMet_0 (by decide +kernel) rfl (Nat.le_of_ble_eq_true rfl) ?_
  show xX G (d + 10) mL_agreesOn r r (xΦ G r r Q) 0 [(0, .ref z), (1, .int a), (2, .int b)] [] (f, r)
  refine xr_aload_n (n := 1) dL_agreesOn_0 rfl rfl ?_
  refine xr_iconst (v := nI 0) (n := 2) dL_agreesOn_1 (by decide) rfl ?_
  refine xr_iload_n (n := 3) dL_agreesOn_2 rfl rfl ?_
  refine xr_iload_n (n := 4) dL_agreesOn_3 rfl rfl ?_
  refine xr_iconst (v := nI 1) (n := 5) dL_agreesOn_4 (by decide) rfl ?_
  refine xr_callV (y2 := mX7_run) (As := [_, _, _, _]) (n := 8) dL_agreesOn_5 lm_L_28 pm_X7_run pi_X7_run (by exact Exists.choose_spec hO.z) rfl rfl rfl (by simp [Value.category]) rfl ⟨Nat.le_refl _, Nat.le_refl _⟩ ?_
  refine q_run (p := 0) hO (by omega) hin (by omega) (fun f hO => ?_)
  dsimp only [xK, xps]
  refine xr_if_ne (tgt := 57) (n := 11) dL_agreesOn_8 (by decide) rfl (fun h8 => ?_) (fun h8 => ?_)
  · refine xr_iconst (v := nI 0) (n := 58) dL_agreesOn_57 (by decide) rfl ?_
    refine xr_ireturn dL_agreesOn_58 rfl (by first | exact b2i_nar | exact nar_1 | exact nar_0) rfl ?_
    rw [b2i_f (fun q => h8 (q.1.trans nI_0))] at hq
    exact hq f hO
  · refine xr_aload_n (n := 12) dL_agreesOn_11 rfl rfl ?_
    refine xr_iconst (v := nI 1) (n := 13) dL_agreesOn_12 (by decide) rfl ?_
    refine xr_iload_n (n := 14) dL_agreesOn_13 rfl rfl ?_
    refine xr_iload_n (n := 15) dL_agreesOn_14 rfl rfl ?_
    refine xr_iconst (v := nI 1) (n := 16) dL_agreesOn_15 (by decide) rfl ?_
    refine xr_callV (y2 := mX7_run) (As := [_, _, _, _]) (n := 19) dL_agreesOn_16 lm_L_28 pm_X7_run pi_X7_run (by exact Exists.choose_spec hO.z) rfl rfl rfl (by simp [Value.category]) rfl ⟨Nat.le_refl _, Nat.le_refl _⟩ ?_
    refine q_run (p := 1) hO (by omega) hin (by omega) (fun f hO => ?_)
    dsimp only [xK, xps]
    refine xr_if_ne (tgt := 57) (n := 22) dL_agreesOn_19 (by decide) rfl (fun h19 => ?_) (fun h19 => ?_)
    · refine xr_iconst (v := nI 0) (n := 58) dL_agreesOn_57 (by decide) rfl ?_
      refine xr_ireturn dL_agreesOn_58 rfl (by first | exact b2i_nar | exact nar_1 | exact nar_0) rfl ?_
      rw [b2i_f (fun q => h19 (q.2.1.trans nI_0))] at hq
      exact hq f hO
    · refine xr_aload_n (n := 23) dL_agreesOn_22 rfl rfl ?_
      refine xr_iconst (v := nI 0) (n := 24) dL_agreesOn_23 (by decide) rfl ?_
      refine xr_iload_n (n := 25) dL_agreesOn_24 rfl rfl ?_
      refine xr_iload_n (n := 26) dL_agreesOn_25 rfl rfl ?_
      refine xr_iconst (v := nI 2) (n := 27) dL_agreesOn_26 (by decide) rfl ?_
      refine xr_callV (y2 := mX7_run) (As := [_, _, _, _]) (n := 30) dL_agreesOn_27 lm_L_28 pm_X7_run pi_X7_run (by exact Exists.choose_spec hO.z) rfl rfl rfl (by simp [Value.category]) rfl ⟨Nat.le_refl _, Nat.le_refl _⟩ ?_
      refine q_run (p := 0) hO (by omega) hin (by omega) (fun f hO => ?_)
      dsimp only [xK, xps]
      refine xr_aload_n (n := 31) dL_agreesOn_30 rfl rfl ?_
      refine xr_iconst (v := nI 1) (n := 32) dL_agreesOn_31 (by decide) rfl ?_
      refine xr_iload_n (n := 33) dL_agreesOn_32 rfl rfl ?_
      refine xr_iload_n (n := 34) dL_agreesOn_33 rfl rfl ?_
      refine xr_iconst (v := nI 2) (n := 35) dL_agreesOn_34 (by decide) rfl ?_
      refine xr_callV (y2 := mX7_run) (As := [_, _, _, _]) (n := 38) dL_agreesOn_35 lm_L_28 pm_X7_run pi_X7_run (by exact Exists.choose_spec hO.z) rfl rfl rfl (by simp [Value.category]) rfl ⟨Nat.le_refl _, Nat.le_refl _⟩ ?_
      refine q_run (p := 1) hO (by omega) hin (by omega) (fun f hO => ?_)
      dsimp only [xK, xps]
      refine xr_icmp_ne (tgt := 57) (n := 41) dL_agreesOn_38 (by decide) rfl (fun h38 => ?_) (fun h38 => ?_)
      · refine xr_iconst (v := nI 0) (n := 58) dL_agreesOn_57 (by decide) rfl ?_
        refine xr_ireturn dL_agreesOn_58 rfl (by first | exact b2i_nar | exact nar_1 | exact nar_0) rfl ?_
        rw [b2i_f (fun q => h38 q.2.2.1)] at hq
        exact hq f hO
      · refine xr_aload_n (n := 42) dL_agreesOn_41 rfl rfl ?_
        refine xr_iload_n (n := 43) dL_agreesOn_42 rfl rfl ?_
        refine xr_iload_n (n := 44) dL_agreesOn_43 rfl rfl ?_
        refine xr_callV (y2 := mX7_difference) (As := [_, _]) (n := 47) dL_agreesOn_44 lm_L_57 pm_X7_difference pi_X7_difference (by exact Exists.choose_spec hO.z) rfl rfl rfl (by simp [Value.category]) rfl ⟨Nat.le_refl _, Nat.le_refl _⟩ ?_
        refine q_difference hO hin (fun f hO => ?_)
        dsimp only [xK, xps]
        refine xr_sipush (v := (-10009)) (n := 50) dL_agreesOn_47 (by decide) rfl ?_
        refine xr_icmp_ne (tgt := 57) (n := 53) dL_agreesOn_50 (by decide) rfl (fun h50 => ?_) (fun h50 => ?_)
        · refine xr_iconst (v := nI 0) (n := 58) dL_agreesOn_57 (by decide) rfl ?_
          refine xr_ireturn dL_agreesOn_58 rfl (by first | exact b2i_nar | exact nar_1 | exact nar_0) rfl ?_
          rw [b2i_f (fun q => h50 q.2.2.2)] at hq
          exact hq f hO
        · refine xr_iconst (v := nI 1) (n := 54) dL_agreesOn_53 (by decide) rfl ?_
          refine xr_goto (n := 58) dL_agreesOn_54 (by decide) ?_
          refine xr_ireturn dL_agreesOn_58 rfl (by first | exact b2i_nar | exact nar_1 | exact nar_0) rfl ?_
          rw [b2i_t ⟨h8.trans nI_0.symm, h19.trans nI_0.symm, h38, h50⟩] at hq
          exact hq f hO

theorem s_L_agreeFits {G : xG} {d : Nat} {f : Nat → xC} {r : Nat × Nat} {Q : Option Value → xM → Prop} {z : Nat} {a : Int32} {o : xO} (hO : OI f z o) (h1 : -9 ≤ a.toInt) (h2 : a.toInt ≤ 8) (hq : ∀ f', OI f' z o → Q (some (.int (nI 1))) (f', r)) : xMet G (d + 11) mL_agreeFits [.ref z, .int a] (f, r) r Q := by
  refine xMet_0 (by decide +kernel) rfl (Nat.le_of_ble_eq_true rfl) ?_
  show xX G (d + 11) mL_agreeFits r r (xΦ G r r Q) 0 [(0, .ref z), (1, .int a)] [] (f, r)
  obtain ⟨g, hg⟩ : ∃ g, agB (oN o) (oP o) a = g := ⟨_, rfl⟩
  obtain ⟨ew, hw2⟩ := wid2 h1 h2
  have hfin := agT_fin g a
  have hv0 : agV (oN o) (oP o) a (a + nI 1) 0 = nI (agT g a (4 - 0) 0).1 := by
    show nI (agR (agB (oN o) (oP o) a) (wid a (a + nI 1)) (wid a (a + nI 1))).1 = _
    rw [hw2, hg, hfin]
  have hv1 : agV (oN o) (oP o) a (a + nI 1) 1 = (agT g a (4 - 0) 0).2.1 := by
    show agF a (agR (agB (oN o) (oP o) a) (wid a (a + nI 1)) (wid a (a + nI 1))).2 = _
    rw [hw2, hg, hfin]
  have hv2 : agV (oN o) (oP o) a (a + nI 1) 2 = (agT g a (4 - 0) 0).2.2 := by
    show agS a (agR (agB (oN o) (oP o) a) (wid a (a + nI 1)) (wid a (a + nI 1))).2 = _
    rw [hw2, hg, hfin]
  have hgk : ∀ k, (agP (oN o 0) (oN o 1) (RO o 0 (av a (k / 2)) (av a (k % 2))) (RO o 1 (av a (k / 2)) (av a (k % 2)))) ↔ g (k / 2) (k % 2) = true := fun k => by
    rw [← hg]
    unfold agB
    rw [decide_eq_true_eq]
    exact Iff.rfl
  have hle := agT_le g a
  have base : ∀ f, OI f z o → xX G (d + 11) mL_agreeFits r r (xΦ G r r Q) 14 [(0, .ref z), (1, .int a), (2, .int (nI (agT g a (4 - 0) 0).1)), (3, .int (agT g a (4 - 0) 0).2.1), (4, .int (agT g a (4 - 0) 0).2.2), (5, .int (-1))] [] (f, r) := by
    intro f hO
    refine xr_iload (n := 16) dL_agreeFits_14 rfl rfl ?_
    refine xr_if_lt (tgt := 90) (n := 19) dL_agreeFits_16 (by decide) rfl (fun h16 => ?_) (fun h16 => by (exfalso; revert h16; decide))
    refine xr_aload_n (n := 91) dL_agreeFits_90 rfl rfl ?_
    refine xr_iload_n (n := 92) dL_agreeFits_91 rfl rfl ?_
    refine xr_iload_n (n := 93) dL_agreeFits_92 rfl rfl ?_
    refine xr_iconst (v := nI 1) (n := 94) dL_agreeFits_93 (by decide) rfl ?_
    refine xr_iadd (n := 95) dL_agreeFits_94 rfl ?_
    refine xr_iconst (v := nI 0) (n := 96) dL_agreeFits_95 (by decide) rfl ?_
    refine xr_callV (y2 := mX7_agree) (As := [_, _, _]) (n := 99) dL_agreeFits_96 lm_L_63 pm_X7_agree pi_X7_agree (by exact Exists.choose_spec hO.z) rfl rfl rfl (by simp [Value.category]) rfl ⟨Nat.le_refl _, Nat.le_refl _⟩ ?_
    refine q_agree hO ⟨by omega, by omega⟩ ⟨by omega, by omega⟩ (by omega) (fun f hO => ?_)
    dsimp only [xK, xps]
    refine xr_iload_n (n := 100) dL_agreeFits_99 rfl rfl ?_
    refine xr_icmp_ne (tgt := 134) (n := 103) dL_agreeFits_100 (by decide) rfl (fun h100 => by (exact absurd hv0 h100)) (fun h100 => ?_)
    refine xr_aload_n (n := 104) dL_agreeFits_103 rfl rfl ?_
    refine xr_iload_n (n := 105) dL_agreeFits_104 rfl rfl ?_
    refine xr_iload_n (n := 106) dL_agreeFits_105 rfl rfl ?_
    refine xr_iconst (v := nI 1) (n := 107) dL_agreeFits_106 (by decide) rfl ?_
    refine xr_iadd (n := 108) dL_agreeFits_107 rfl ?_
    refine xr_iconst (v := nI 1) (n := 109) dL_agreeFits_108 (by decide) rfl ?_
    refine xr_callV (y2 := mX7_agree) (As := [_, _, _]) (n := 112) dL_agreeFits_109 lm_L_63 pm_X7_agree pi_X7_agree (by exact Exists.choose_spec hO.z) rfl rfl rfl (by simp [Value.category]) rfl ⟨Nat.le_refl _, Nat.le_refl _⟩ ?_
    refine q_agree hO ⟨by omega, by omega⟩ ⟨by omega, by omega⟩ (by omega) (fun f hO => ?_)
    dsimp only [xK, xps]
    refine xr_iload_n (n := 113) dL_agreeFits_112 rfl rfl ?_
    refine xr_icmp_ne (tgt := 134) (n := 116) dL_agreeFits_113 (by decide) rfl (fun h113 => by (exact absurd hv1 h113)) (fun h113 => ?_)
    refine xr_aload_n (n := 117) dL_agreeFits_116 rfl rfl ?_
    refine xr_iload_n (n := 118) dL_agreeFits_117 rfl rfl ?_
    refine xr_iload_n (n := 119) dL_agreeFits_118 rfl rfl ?_
    refine xr_iconst (v := nI 1) (n := 120) dL_agreeFits_119 (by decide) rfl ?_
    refine xr_iadd (n := 121) dL_agreeFits_120 rfl ?_
    refine xr_iconst (v := nI 2) (n := 122) dL_agreeFits_121 (by decide) rfl ?_
    refine xr_callV (y2 := mX7_agree) (As := [_, _, _]) (n := 125) dL_agreeFits_122 lm_L_63 pm_X7_agree pi_X7_agree (by exact Exists.choose_spec hO.z) rfl rfl rfl (by simp [Value.category]) rfl ⟨Nat.le_refl _, Nat.le_refl _⟩ ?_
    refine q_agree hO ⟨by omega, by omega⟩ ⟨by omega, by omega⟩ (by omega) (fun f hO => ?_)
    dsimp only [xK, xps]
    refine xr_iload (n := 127) dL_agreeFits_125 rfl rfl ?_
    refine xr_icmp_ne (tgt := 134) (n := 130) dL_agreeFits_127 (by decide) rfl (fun h127 => by (exact absurd hv2 h127)) (fun h127 => ?_)
    refine xr_iconst (v := nI 1) (n := 131) dL_agreeFits_130 (by decide) rfl ?_
    refine xr_goto (n := 135) dL_agreeFits_131 (by decide) ?_
    refine xr_ireturn dL_agreeFits_135 rfl (by first | exact b2i_nar | exact nar_1 | exact nar_0) rfl ?_
    exact hq f hO
  have key : ∀ j, j < 4 → ∀ f, OI f z o → xX G (d + 11) mL_agreeFits r r (xΦ G r r Q) 14 [(0, .ref z), (1, .int a), (2, .int (nI (agT g a (4 - (j + 1)) (j + 1)).1)), (3, .int (agT g a (4 - (j + 1)) (j + 1)).2.1), (4, .int (agT g a (4 - (j + 1)) (j + 1)).2.2), (5, .int (nI j))] [] (f, r) := by
    intro j
    induction j with
    | zero =>
      intro hj f hO
      have hj0 := hgk 0
      refine xr_iload (n := 16) dL_agreeFits_14 rfl rfl ?_
      refine xr_if_lt (tgt := 90) (n := 19) dL_agreeFits_16 (by decide) rfl (fun h16 => by (exfalso; revert h16; decide)) (fun h16 => ?_)
      refine xr_iload_n (n := 20) dL_agreeFits_19 rfl rfl ?_
      refine xr_iload (n := 22) dL_agreeFits_20 rfl rfl ?_
      refine xr_iconst (v := nI 2) (n := 23) dL_agreeFits_22 (by decide) rfl ?_
      refine xr_idiv (n := 24) dL_agreeFits_23 (by decide) rfl ?_
      rw [pk_div (by omega) (by omega) (by omega)]
      refine xr_iadd (n := 25) dL_agreeFits_24 rfl ?_
      rw [av_add h1 (by omega) (by omega)]
      refine xr_istore (n := 27) dL_agreeFits_25 rfl rfl ?_
      simp only [xst, Nat.beq, List.filter, Bool.not_true, Bool.not_false]
      refine xr_iload_n (n := 28) dL_agreeFits_27 rfl rfl ?_
      refine xr_iload (n := 30) dL_agreeFits_28 rfl rfl ?_
      refine xr_iconst (v := nI 2) (n := 31) dL_agreeFits_30 (by decide) rfl ?_
      refine xr_irem (n := 32) dL_agreeFits_31 (by decide) rfl ?_
      rw [pk_rem (by omega) (by omega) (by omega)]
      refine xr_iadd (n := 33) dL_agreeFits_32 rfl ?_
      rw [av_add h1 (by omega) (by omega)]
      refine xr_istore (n := 35) dL_agreeFits_33 rfl rfl ?_
      simp only [xst, Nat.beq, List.filter, Bool.not_true, Bool.not_false]
      refine xr_aload_n (n := 36) dL_agreeFits_35 rfl rfl ?_
      refine xr_iload (n := 38) dL_agreeFits_36 rfl rfl ?_
      refine xr_iload (n := 40) dL_agreeFits_38 rfl rfl ?_
      refine xr_callS (y2 := mL_agreesOn) (As := [_, _, _]) (n := 43) dL_agreeFits_40 lm_L_60 pm_L_agreesOn kp_static_yL_agreesOn rfl rfl (by simp [Value.category]) rfl ⟨Nat.le_refl _, Nat.le_refl _⟩ ?_
      refine s_L_agreesOn hO (av_in h1 (by omega) (by omega) (by omega)) (fun f hO => ?_)
      dsimp only [xK, xps]
      refine xr_istore (n := 45) dL_agreeFits_43 rfl rfl ?_
      simp only [xst, Nat.beq, List.filter, Bool.not_true, Bool.not_false]
      refine xr_iload_n (n := 46) dL_agreeFits_45 rfl rfl ?_
      refine xr_iload (n := 48) dL_agreeFits_46 rfl rfl ?_
      refine xr_beq (tgt := 55) (n := 51) dL_agreeFits_48 (by decide) rfl (fun h48 => ?_) (fun h48 => ?_)
      · refine xr_iconst (v := nI 0) (n := 56) dL_agreeFits_55 (by decide) rfl ?_
        refine xr_iadd (n := 57) dL_agreeFits_56 rfl ?_
        (first | (simp (disch := omega) only [nI_clamp, pk_mul, nI_add, oi1, Nat.reduceMul, Nat.reduceAdd, Nat.add_zero]) | skip)
        refine xq_istore_n 2 (n := 58) dL_agreeFits_57 rfl rfl rfl ?_
        simp only [xst, Nat.beq, List.filter, Bool.not_true, Bool.not_false]
        refine xr_iload (n := 60) dL_agreeFits_58 rfl rfl ?_
        refine xr_beq (tgt := 67) (n := 63) dL_agreeFits_60 (by decide) rfl (fun h60 => ?_) (fun h60 => by (exact absurd h60 h48))
        refine xr_iload (n := 69) dL_agreeFits_67 rfl rfl ?_
        refine xq_istore_n 3 (n := 70) dL_agreeFits_69 rfl rfl rfl ?_
        simp only [xst, Nat.beq, List.filter, Bool.not_true, Bool.not_false]
        refine xr_iload (n := 72) dL_agreeFits_70 rfl rfl ?_
        refine xr_beq (tgt := 80) (n := 75) dL_agreeFits_72 (by decide) rfl (fun h72 => ?_) (fun h72 => by (exact absurd h72 h48))
        refine xr_iload (n := 82) dL_agreeFits_80 rfl rfl ?_
        refine xr_istore (n := 84) dL_agreeFits_82 rfl rfl ?_
        simp only [xst, Nat.beq, List.filter, Bool.not_true, Bool.not_false]
        refine xr_iinc (n := 87) dL_agreeFits_84 rfl rfl (rfl) rfl ?_
        simp only [xst, Nat.beq, List.filter, Bool.not_true, Bool.not_false]
        refine xr_goto (n := 14) dL_agreeFits_87 (by decide) ?_
        have hgg := (fun q => h48 ((hgk _).mpr q))
        refine xX.drop 8 ?_
        simp only [List.filter, Nat.beq, Bool.not_true, Bool.not_false]
        refine xX.drop 7 ?_
        simp only [List.filter, Nat.beq, Bool.not_true, Bool.not_false]
        refine xX.drop 6 ?_
        simp only [List.filter, Nat.beq, Bool.not_true, Bool.not_false]
        have h9 := base f hO
        rw [agT_f (by omega) hgg] at h9
        exact h9
      · refine xr_iconst (v := nI 1) (n := 52) dL_agreeFits_51 (by decide) rfl ?_
        refine xr_goto (n := 56) dL_agreeFits_52 (by decide) ?_
        refine xr_iadd (n := 57) dL_agreeFits_56 rfl ?_
        (first | (simp (disch := omega) only [nI_clamp, pk_mul, nI_add, oi1, Nat.reduceMul, Nat.reduceAdd, Nat.add_zero]) | skip)
        refine xq_istore_n 2 (n := 58) dL_agreeFits_57 rfl rfl rfl ?_
        simp only [xst, Nat.beq, List.filter, Bool.not_true, Bool.not_false]
        refine xr_iload (n := 60) dL_agreeFits_58 rfl rfl ?_
        refine xr_beq (tgt := 67) (n := 63) dL_agreeFits_60 (by decide) rfl (fun h60 => by (exact absurd h48 h60)) (fun h60 => ?_)
        refine xr_iload_n (n := 64) dL_agreeFits_63 rfl rfl ?_
        refine xr_goto (n := 69) dL_agreeFits_64 (by decide) ?_
        refine xq_istore_n 3 (n := 70) dL_agreeFits_69 rfl rfl rfl ?_
        simp only [xst, Nat.beq, List.filter, Bool.not_true, Bool.not_false]
        refine xr_iload (n := 72) dL_agreeFits_70 rfl rfl ?_
        refine xr_beq (tgt := 80) (n := 75) dL_agreeFits_72 (by decide) rfl (fun h72 => by (exact absurd h48 h72)) (fun h72 => ?_)
        refine xr_iload (n := 77) dL_agreeFits_75 rfl rfl ?_
        refine xr_goto (n := 82) dL_agreeFits_77 (by decide) ?_
        refine xr_istore (n := 84) dL_agreeFits_82 rfl rfl ?_
        simp only [xst, Nat.beq, List.filter, Bool.not_true, Bool.not_false]
        refine xr_iinc (n := 87) dL_agreeFits_84 rfl rfl (rfl) rfl ?_
        simp only [xst, Nat.beq, List.filter, Bool.not_true, Bool.not_false]
        refine xr_goto (n := 14) dL_agreeFits_87 (by decide) ?_
        have hgg := (hgk _).mp h48
        refine xX.drop 8 ?_
        simp only [List.filter, Nat.beq, Bool.not_true, Bool.not_false]
        refine xX.drop 7 ?_
        simp only [List.filter, Nat.beq, Bool.not_true, Bool.not_false]
        refine xX.drop 6 ?_
        simp only [List.filter, Nat.beq, Bool.not_true, Bool.not_false]
        have h9 := base f hO
        rw [agT_t (by omega) hgg] at h9
        exact h9
    | succ j ih =>
      intro hj f hO
      refine xr_iload (n := 16) dL_agreeFits_14 rfl rfl ?_
      refine xr_if_lt (tgt := 90) (n := 19) dL_agreeFits_16 (by decide) rfl (fun h16 => by (exfalso; ((try simp (disch := omega) only [i_lt, i_le, i_eq, nt, i_m1, Int32.toInt_zero] at *); omega))) (fun h16 => ?_)
      refine xr_iload_n (n := 20) dL_agreeFits_19 rfl rfl ?_
      refine xr_iload (n := 22) dL_agreeFits_20 rfl rfl ?_
      refine xr_iconst (v := nI 2) (n := 23) dL_agreeFits_22 (by decide) rfl ?_
      refine xr_idiv (n := 24) dL_agreeFits_23 (by decide) rfl ?_
      rw [pk_div (by omega) (by omega) (by omega)]
      refine xr_iadd (n := 25) dL_agreeFits_24 rfl ?_
      rw [av_add h1 (by omega) (by omega)]
      refine xr_istore (n := 27) dL_agreeFits_25 rfl rfl ?_
      simp only [xst, Nat.beq, List.filter, Bool.not_true, Bool.not_false]
      refine xr_iload_n (n := 28) dL_agreeFits_27 rfl rfl ?_
      refine xr_iload (n := 30) dL_agreeFits_28 rfl rfl ?_
      refine xr_iconst (v := nI 2) (n := 31) dL_agreeFits_30 (by decide) rfl ?_
      refine xr_irem (n := 32) dL_agreeFits_31 (by decide) rfl ?_
      rw [pk_rem (by omega) (by omega) (by omega)]
      refine xr_iadd (n := 33) dL_agreeFits_32 rfl ?_
      rw [av_add h1 (by omega) (by omega)]
      refine xr_istore (n := 35) dL_agreeFits_33 rfl rfl ?_
      simp only [xst, Nat.beq, List.filter, Bool.not_true, Bool.not_false]
      refine xr_aload_n (n := 36) dL_agreeFits_35 rfl rfl ?_
      refine xr_iload (n := 38) dL_agreeFits_36 rfl rfl ?_
      refine xr_iload (n := 40) dL_agreeFits_38 rfl rfl ?_
      refine xr_callS (y2 := mL_agreesOn) (As := [_, _, _]) (n := 43) dL_agreeFits_40 lm_L_60 pm_L_agreesOn kp_static_yL_agreesOn rfl rfl (by simp [Value.category]) rfl ⟨Nat.le_refl _, Nat.le_refl _⟩ ?_
      refine s_L_agreesOn hO (av_in h1 (by omega) (by omega) (by omega)) (fun f hO => ?_)
      dsimp only [xK, xps]
      refine xr_istore (n := 45) dL_agreeFits_43 rfl rfl ?_
      simp only [xst, Nat.beq, List.filter, Bool.not_true, Bool.not_false]
      refine xr_iload_n (n := 46) dL_agreeFits_45 rfl rfl ?_
      refine xr_iload (n := 48) dL_agreeFits_46 rfl rfl ?_
      refine xr_beq (tgt := 55) (n := 51) dL_agreeFits_48 (by decide) rfl (fun h48 => ?_) (fun h48 => ?_)
      · refine xr_iconst (v := nI 0) (n := 56) dL_agreeFits_55 (by decide) rfl ?_
        refine xr_iadd (n := 57) dL_agreeFits_56 rfl ?_
        (first | (simp (disch := omega) only [nI_clamp, pk_mul, nI_add, oi1, Nat.reduceMul, Nat.reduceAdd, Nat.add_zero]) | skip)
        refine xq_istore_n 2 (n := 58) dL_agreeFits_57 rfl rfl rfl ?_
        simp only [xst, Nat.beq, List.filter, Bool.not_true, Bool.not_false]
        refine xr_iload (n := 60) dL_agreeFits_58 rfl rfl ?_
        refine xr_beq (tgt := 67) (n := 63) dL_agreeFits_60 (by decide) rfl (fun h60 => ?_) (fun h60 => by (exact absurd h60 h48))
        refine xr_iload (n := 69) dL_agreeFits_67 rfl rfl ?_
        refine xq_istore_n 3 (n := 70) dL_agreeFits_69 rfl rfl rfl ?_
        simp only [xst, Nat.beq, List.filter, Bool.not_true, Bool.not_false]
        refine xr_iload (n := 72) dL_agreeFits_70 rfl rfl ?_
        refine xr_beq (tgt := 80) (n := 75) dL_agreeFits_72 (by decide) rfl (fun h72 => ?_) (fun h72 => by (exact absurd h72 h48))
        refine xr_iload (n := 82) dL_agreeFits_80 rfl rfl ?_
        refine xr_istore (n := 84) dL_agreeFits_82 rfl rfl ?_
        simp only [xst, Nat.beq, List.filter, Bool.not_true, Bool.not_false]
        refine xr_iinc (n := 87) dL_agreeFits_84 rfl rfl (pk_m1 j) rfl ?_
        simp only [xst, Nat.beq, List.filter, Bool.not_true, Bool.not_false]
        refine xr_goto (n := 14) dL_agreeFits_87 (by decide) ?_
        have hgg := (fun q => h48 ((hgk _).mpr q))
        refine xX.drop 8 ?_
        simp only [List.filter, Nat.beq, Bool.not_true, Bool.not_false]
        refine xX.drop 7 ?_
        simp only [List.filter, Nat.beq, Bool.not_true, Bool.not_false]
        refine xX.drop 6 ?_
        simp only [List.filter, Nat.beq, Bool.not_true, Bool.not_false]
        have h9 := ih (by omega) f hO
        rw [agT_f (by omega) hgg] at h9
        exact h9
      · refine xr_iconst (v := nI 1) (n := 52) dL_agreeFits_51 (by decide) rfl ?_
        refine xr_goto (n := 56) dL_agreeFits_52 (by decide) ?_
        refine xr_iadd (n := 57) dL_agreeFits_56 rfl ?_
        (first | (simp (disch := omega) only [nI_clamp, pk_mul, nI_add, oi1, Nat.reduceMul, Nat.reduceAdd, Nat.add_zero]) | skip)
        refine xq_istore_n 2 (n := 58) dL_agreeFits_57 rfl rfl rfl ?_
        simp only [xst, Nat.beq, List.filter, Bool.not_true, Bool.not_false]
        refine xr_iload (n := 60) dL_agreeFits_58 rfl rfl ?_
        refine xr_beq (tgt := 67) (n := 63) dL_agreeFits_60 (by decide) rfl (fun h60 => by (exact absurd h48 h60)) (fun h60 => ?_)
        refine xr_iload_n (n := 64) dL_agreeFits_63 rfl rfl ?_
        refine xr_goto (n := 69) dL_agreeFits_64 (by decide) ?_
        refine xq_istore_n 3 (n := 70) dL_agreeFits_69 rfl rfl rfl ?_
        simp only [xst, Nat.beq, List.filter, Bool.not_true, Bool.not_false]
        refine xr_iload (n := 72) dL_agreeFits_70 rfl rfl ?_
        refine xr_beq (tgt := 80) (n := 75) dL_agreeFits_72 (by decide) rfl (fun h72 => by (exact absurd h48 h72)) (fun h72 => ?_)
        refine xr_iload (n := 77) dL_agreeFits_75 rfl rfl ?_
        refine xr_goto (n := 82) dL_agreeFits_77 (by decide) ?_
        refine xr_istore (n := 84) dL_agreeFits_82 rfl rfl ?_
        simp only [xst, Nat.beq, List.filter, Bool.not_true, Bool.not_false]
        refine xr_iinc (n := 87) dL_agreeFits_84 rfl rfl (pk_m1 j) rfl ?_
        simp only [xst, Nat.beq, List.filter, Bool.not_true, Bool.not_false]
        refine xr_goto (n := 14) dL_agreeFits_87 (by decide) ?_
        have hgg := (hgk _).mp h48
        refine xX.drop 8 ?_
        simp only [List.filter, Nat.beq, Bool.not_true, Bool.not_false]
        refine xX.drop 7 ?_
        simp only [List.filter, Nat.beq, Bool.not_true, Bool.not_false]
        refine xX.drop 6 ?_
        simp only [List.filter, Nat.beq, Bool.not_true, Bool.not_false]
        have h9 := ih (by omega) f hO
        rw [agT_t (by omega) hgg] at h9
        exact h9
  refine xr_iconst (v := nI 0) (n := 1) dL_agreeFits_0 (by decide) rfl ?_
  refine xq_istore_n 2 (n := 2) dL_agreeFits_1 rfl rfl rfl ?_
  simp only [xst, Nat.beq, List.filter, Bool.not_true, Bool.not_false]
  refine xr_sipush (v := (-10009)) (n := 5) dL_agreeFits_2 (by decide) rfl ?_
  refine xq_istore_n 3 (n := 6) dL_agreeFits_5 rfl rfl rfl ?_
  simp only [xst, Nat.beq, List.filter, Bool.not_true, Bool.not_false]
  refine xr_sipush (v := (-10009)) (n := 9) dL_agreeFits_6 (by decide) rfl ?_
  refine xr_istore (n := 11) dL_agreeFits_9 rfl rfl ?_
  simp only [xst, Nat.beq, List.filter, Bool.not_true, Bool.not_false]
  refine xr_iconst (v := nI 3) (n := 12) dL_agreeFits_11 (by decide) rfl ?_
  refine xr_istore (n := 14) dL_agreeFits_12 rfl rfl ?_
  simp only [xst, Nat.beq, List.filter, Bool.not_true, Bool.not_false]
  exact key 3 (by omega) f hO
