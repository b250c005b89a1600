/-! THE LAW's fits and types -/
theorem lg_same (x : Int64) : lg_cmp x x = 0 := by simp [lg_cmp]
theorem lo_sub {v : Int32} {n k : Nat} (hn : 0 < n) (hn2 : n < 10000) (hk : k < 10000) : (nI (lo v n) - nI k).toInt = (lo v n : Int) - k ∧ lo v n < n := by
  have h := lo_lt v hn
  exact ⟨pk_sub_toInt (by omega) (by omega), h⟩
/-- a sign is put behind the text -/
def oApp (o : xO) (c : Int32) : xO := oTx o (upd (oT o) (oL o) c) (oL o + 1)
theorem oL_app (o : xO) (c : Int32) : oL (oApp o c) = oL o + 1 := rfl
theorem q_app {G : xG} {d : Nat} {f : Nat → xC} {r : Nat × Nat} {Q : Option Value → xM → Prop} {z : Nat} {o : xO} {c : Nat} (hO : OI f z o) (hc : 1 ≤ c ∧ c ≤ 255) (hl : oL o < 120) (hq : ∀ f', OI f' z (oApp o (nI c)) → Q (some (.int (nI (oL o + 1)))) (f', r)) : xMet G (d + 2) mX7_append [.ref z, .int (nI c)] (f, r) r Q := by
  have e := nt c (by omega)
  exact q_append hO (fun h => absurd ⟨by omega, by omega⟩ h) (fun _ h => by omega) (fun _ _ f' h => hq f' h)
theorem s_L_fits {G : xG} {d : Nat} {f : Nat → xC} {r : Nat × Nat} {Q : Option Value → xM → Prop} {z : Nat} {v : Int32} {o : xO} (hO : OI f z o) (hq : ∀ f', OI f' z o → Q (some (.int (nI 1))) (f', r)) : xMet G (d + 12) mL_fits [.ref z, .int v] (f, r) r Q := by
  refine xMet_0 (by decide +kernel) rfl (Nat.le_of_ble_eq_true rfl) ?_
  show xX G (d + 12) mL_fits r r (xΦ G r r Q) 0 [(0, .ref z), (1, .int v)] [] (f, r)
  have k39 : ∀ a : Int32, (-999 ≤ a.toInt ∧ a.toInt ≤ 999) → ∀ f, OI f z o → xX G (d + 12) mL_fits r r (xΦ G r r Q) 39 [(0, .ref z), (1, .int v), (2, .long (tvV o))] [.int a] (f, r) := by
    intro a ha f hO
    have hb := lo_sub (v := v >>> (nI 15 &&& 31)) (n := 9) (k := 3) (by omega) (by omega) (by omega)
    have hc := lo_sub (v := v >>> (nI 3 &&& 31)) (n := 5) (k := 2) (by omega) (by omega) (by omega)
    have hin : inpt a (nI (lo (v >>> (nI 15 &&& 31)) 9) - nI 3) := ⟨ha, by omega⟩
    refine xr_istore (n := 41) dL_fits_39 rfl rfl ?_
    simp only [xst, Nat.beq, List.filter, Bool.not_true, Bool.not_false]
    refine xr_iload_n (n := 42) dL_fits_41 rfl rfl ?_
    refine xr_bipush (v := nI 15) (n := 44) dL_fits_42 (by decide) rfl ?_
    refine xr_ishr (n := 45) dL_fits_44 rfl ?_
    refine xr_bipush (v := nI 9) (n := 47) dL_fits_45 (by decide) rfl ?_
    refine xr_callS (y2 := mL_low) (As := [_, _]) (n := 50) dL_fits_47 lm_L_9 pm_L_low kp_static_yL_low rfl rfl (by simp [Value.category]) rfl ⟨Nat.le_refl _, Nat.le_refl _⟩ ?_
    refine s_L_low (by omega) (by omega) ?_
    dsimp only [xK, xps]
    refine xr_iconst (v := nI 3) (n := 51) dL_fits_50 (by decide) rfl ?_
    refine xr_isub (n := 52) dL_fits_51 rfl ?_
    refine xr_istore (n := 54) dL_fits_52 rfl rfl ?_
    simp only [xst, Nat.beq, List.filter, Bool.not_true, Bool.not_false]
    refine xr_aload_n (n := 55) dL_fits_54 rfl rfl ?_
    refine xr_iconst (v := nI 0) (n := 56) dL_fits_55 (by decide) rfl ?_
    refine xr_callS (y2 := mL_programFits) (As := [_, _]) (n := 59) dL_fits_56 lm_L_70 pm_L_programFits kp_static_yL_programFits rfl rfl (by simp [Value.category]) rfl ⟨Nat.le_refl _, Nat.le_refl _⟩ ?_
    refine s_L_programFits (p := 0) hO (by omega) ?_
    dsimp only [xK, xps]
    refine xr_if_eq (tgt := 125) (n := 62) dL_fits_59 (by decide) rfl (fun h59 => by (exfalso; revert h59; decide)) (fun h59 => ?_)
    refine xr_aload_n (n := 63) dL_fits_62 rfl rfl ?_
    refine xr_iconst (v := nI 1) (n := 64) dL_fits_63 (by decide) rfl ?_
    refine xr_callS (y2 := mL_programFits) (As := [_, _]) (n := 67) dL_fits_64 lm_L_70 pm_L_programFits kp_static_yL_programFits rfl rfl (by simp [Value.category]) rfl ⟨Nat.le_refl _, Nat.le_refl _⟩ ?_
    refine s_L_programFits (p := 1) hO (by omega) ?_
    dsimp only [xK, xps]
    refine xr_if_eq (tgt := 125) (n := 70) dL_fits_67 (by decide) rfl (fun h67 => by (exfalso; revert h67; decide)) (fun h67 => ?_)
    refine xr_aload_n (n := 71) dL_fits_70 rfl rfl ?_
    refine xr_iconst (v := nI 0) (n := 72) dL_fits_71 (by decide) rfl ?_
    refine xr_iload (n := 74) dL_fits_72 rfl rfl ?_
    refine xr_iload (n := 76) dL_fits_74 rfl rfl ?_
    refine xr_callS (y2 := mL_runFits) (As := [_, _, _, _]) (n := 79) dL_fits_76 lm_L_74 pm_L_runFits kp_static_yL_runFits rfl rfl (by simp [Value.category]) rfl ⟨Nat.le_refl _, Nat.le_refl _⟩ ?_
    refine s_L_runFits (p := 0) hO (by omega) hin (fun f hO => ?_)
    dsimp only [xK, xps]
    refine xr_if_eq (tgt := 125) (n := 82) dL_fits_79 (by decide) rfl (fun h79 => by (exfalso; revert h79; decide)) (fun h79 => ?_)
    refine xr_aload_n (n := 83) dL_fits_82 rfl rfl ?_
    refine xr_iconst (v := nI 1) (n := 84) dL_fits_83 (by decide) rfl ?_
    refine xr_iload (n := 86) dL_fits_84 rfl rfl ?_
    refine xr_iload (n := 88) dL_fits_86 rfl rfl ?_
    refine xr_callS (y2 := mL_runFits) (As := [_, _, _, _]) (n := 91) dL_fits_88 lm_L_74 pm_L_runFits kp_static_yL_runFits rfl rfl (by simp [Value.category]) rfl ⟨Nat.le_refl _, Nat.le_refl _⟩ ?_
    refine s_L_runFits (p := 1) hO (by omega) hin (fun f hO => ?_)
    dsimp only [xK, xps]
    refine xr_if_eq (tgt := 125) (n := 94) dL_fits_91 (by decide) rfl (fun h91 => by (exfalso; revert h91; decide)) (fun h91 => ?_)
    refine xr_aload_n (n := 95) dL_fits_94 rfl rfl ?_
    refine xr_iload (n := 97) dL_fits_95 rfl rfl ?_
    refine xr_iload (n := 99) dL_fits_97 rfl rfl ?_
    refine xr_callS (y2 := mL_pairsFit) (As := [_, _, _]) (n := 102) dL_fits_99 lm_L_78 pm_L_pairsFit kp_static_yL_pairsFit rfl rfl (by simp [Value.category]) rfl ⟨Nat.le_refl _, Nat.le_refl _⟩ ?_
    refine s_L_pairsFit hO hin (fun f hO => ?_)
    dsimp only [xK, xps]
    refine xr_if_eq (tgt := 125) (n := 105) dL_fits_102 (by decide) rfl (fun h102 => by (exfalso; revert h102; decide)) (fun h102 => ?_)
    refine xr_aload_n (n := 106) dL_fits_105 rfl rfl ?_
    refine xr_iload_n (n := 107) dL_fits_106 rfl rfl ?_
    refine xr_iconst (v := nI 3) (n := 108) dL_fits_107 (by decide) rfl ?_
    refine xr_ishr (n := 109) dL_fits_108 rfl ?_
    refine xr_iconst (v := nI 5) (n := 110) dL_fits_109 (by decide) rfl ?_
    refine xr_callS (y2 := mL_low) (As := [_, _]) (n := 113) dL_fits_110 lm_L_9 pm_L_low kp_static_yL_low rfl rfl (by simp [Value.category]) rfl ⟨Nat.le_refl _, Nat.le_refl _⟩ ?_
    refine s_L_low (by omega) (by omega) ?_
    dsimp only [xK, xps]
    refine xr_iconst (v := nI 2) (n := 114) dL_fits_113 (by decide) rfl ?_
    refine xr_isub (n := 115) dL_fits_114 rfl ?_
    refine xr_callS (y2 := mL_agreeFits) (As := [_, _]) (n := 118) dL_fits_115 lm_L_81 pm_L_agreeFits kp_static_yL_agreeFits rfl rfl (by simp [Value.category]) rfl ⟨Nat.le_refl _, Nat.le_refl _⟩ ?_
    refine s_L_agreeFits hO (by omega) (by omega) (fun f hO => ?_)
    dsimp only [xK, xps]
    refine xr_if_eq (tgt := 125) (n := 121) dL_fits_118 (by decide) rfl (fun h118 => by (exfalso; revert h118; decide)) (fun h118 => ?_)
    refine xr_iconst (v := nI 1) (n := 122) dL_fits_121 (by decide) rfl ?_
    refine xr_goto (n := 126) dL_fits_122 (by decide) ?_
    refine xr_istore (n := 128) dL_fits_126 rfl rfl ?_
    simp only [xst, Nat.beq, List.filter, Bool.not_true, Bool.not_false]
    refine xr_iload (n := 130) dL_fits_128 rfl rfl ?_
    refine xr_if_eq (tgt := 146) (n := 133) dL_fits_130 (by decide) rfl (fun h130 => by (exfalso; revert h130; decide)) (fun h130 => ?_)
    refine xr_aload_n (n := 134) dL_fits_133 rfl rfl ?_
    refine xr_callS (y2 := mL_trace) (As := [_]) (n := 137) dL_fits_134 lm_L_66 pm_L_trace kp_static_yL_trace rfl rfl (by simp [Value.category]) rfl ⟨Nat.le_refl _, Nat.le_refl _⟩ ?_
    refine s_L_trace hO (fun f hO => ?_)
    dsimp only [xK, xps]
    refine xr_lload_n (n := 138) dL_fits_137 rfl rfl ?_
    refine xr_lcmp (n := 139) dL_fits_138 rfl ?_
    rw [lg_same]
    refine xr_if_ne (tgt := 146) (n := 142) dL_fits_139 (by decide) rfl (fun h139 => by (exact absurd rfl h139)) (fun h139 => ?_)
    refine xr_iconst (v := nI 1) (n := 143) dL_fits_142 (by decide) rfl ?_
    refine xr_goto (n := 147) dL_fits_143 (by decide) ?_
    refine xr_ireturn dL_fits_147 rfl (by first | exact b2i_nar | exact nar_1 | exact nar_0) rfl ?_
    exact hq f hO
  refine xr_aload_n (n := 1) dL_fits_0 rfl rfl ?_
  refine xr_callS (y2 := mL_trace) (As := [_]) (n := 4) dL_fits_1 lm_L_66 pm_L_trace kp_static_yL_trace rfl rfl (by simp [Value.category]) rfl ⟨Nat.le_refl _, Nat.le_refl _⟩ ?_
  refine s_L_trace hO (fun f hO => ?_)
  dsimp only [xK, xps]
  refine xq_lstore_n 2 (n := 5) dL_fits_4 rfl rfl rfl ?_
  simp only [xst, Nat.beq, List.filter, Bool.not_true, Bool.not_false]
  refine xr_iload_n (n := 6) dL_fits_5 rfl rfl ?_
  refine xr_iconst (v := nI 3) (n := 7) dL_fits_6 (by decide) rfl ?_
  refine xr_callS (y2 := mL_low) (As := [_, _]) (n := 10) dL_fits_7 lm_L_9 pm_L_low kp_static_yL_low rfl rfl (by simp [Value.category]) rfl ⟨Nat.le_refl _, Nat.le_refl _⟩ ?_
  refine s_L_low (by omega) (by omega) ?_
  dsimp only [xK, xps]
  refine xr_if_ne (tgt := 29) (n := 13) dL_fits_10 (by decide) rfl (fun h10 => ?_) (fun h10 => ?_)
  · refine xr_iload_n (n := 30) dL_fits_29 rfl rfl ?_
    refine xr_iconst (v := nI 5) (n := 31) dL_fits_30 (by decide) rfl ?_
    refine xr_ishr (n := 32) dL_fits_31 rfl ?_
    refine xr_bipush (v := nI 9) (n := 34) dL_fits_32 (by decide) rfl ?_
    refine xr_callS (y2 := mL_low) (As := [_, _]) (n := 37) dL_fits_34 lm_L_9 pm_L_low kp_static_yL_low rfl rfl (by simp [Value.category]) rfl ⟨Nat.le_refl _, Nat.le_refl _⟩ ?_
    refine s_L_low (by omega) (by omega) ?_
    dsimp only [xK, xps]
    refine xr_iconst (v := nI 2) (n := 38) dL_fits_37 (by decide) rfl ?_
    refine xr_isub (n := 39) dL_fits_38 rfl ?_
    have ha := lo_sub (v := v >>> (nI 5 &&& 31)) (n := 9) (k := 2) (by omega) (by omega) (by omega)
    exact k39 _ ⟨by omega, by omega⟩ f hO
  · refine xr_iload_n (n := 14) dL_fits_13 rfl rfl ?_
    refine xr_iconst (v := nI 5) (n := 15) dL_fits_14 (by decide) rfl ?_
    refine xr_ishr (n := 16) dL_fits_15 rfl ?_
    refine xr_sipush (v := nI 1999) (n := 19) dL_fits_16 (by decide) rfl ?_
    refine xr_callS (y2 := mL_low) (As := [_, _]) (n := 22) dL_fits_19 lm_L_9 pm_L_low kp_static_yL_low rfl rfl (by simp [Value.category]) rfl ⟨Nat.le_refl _, Nat.le_refl _⟩ ?_
    refine s_L_low (by omega) (by omega) ?_
    dsimp only [xK, xps]
    refine xr_sipush (v := nI 999) (n := 25) dL_fits_22 (by decide) rfl ?_
    refine xr_isub (n := 26) dL_fits_25 rfl ?_
    refine xr_goto (n := 39) dL_fits_26 (by decide) ?_
    have ha := lo_sub (v := v >>> (nI 5 &&& 31)) (n := 1999) (k := 999) (by omega) (by omega) (by omega)
    exact k39 _ ⟨by omega, by omega⟩ f hO

theorem s_L_types_3 {G : xG} {d : Nat} {f : Nat → xC} {r : Nat × Nat} {Q : Option Value → xM → Prop} {z : Nat} {o : xO} {a b c : Nat} (hO : OI f z o) (hl : oL o + 3 ≤ 120) (ha : 1 ≤ a ∧ a ≤ 255) (hb : 1 ≤ b ∧ b ≤ 255) (hc : 1 ≤ c ∧ c ≤ 255) (hq : ∀ f', OI f' z (oApp (oApp (oApp o (nI a)) (nI b)) (nI c)) → Q none (f', r)) : xMet G (d + 3) mL_types [.ref z, .int (nI a), .int (nI b), .int (nI c), .int (nI 0), .int (nI 0), .int (nI 0)] (f, r) r Q := by
  refine xMet_0 (by decide +kernel) rfl (Nat.le_of_ble_eq_true rfl) ?_
  show xX G (d + 3) mL_types r r (xΦ G r r Q) 0 [(0, .ref z), (1, .int (nI a)), (2, .int (nI b)), (3, .int (nI c)), (4, .int (nI 0)), (5, .int (nI 0)), (6, .int (nI 0))] [] (f, r)
  have ea := nt a (by omega)
  have eb := nt b (by omega)
  have ec := nt c (by omega)
  refine xr_aload_n (n := 1) dL_types_0 rfl rfl ?_
  refine xr_iload_n (n := 2) dL_types_1 rfl rfl ?_
  refine xr_callV (y2 := mX7_append) (As := [_]) (n := 5) dL_types_2 lm_L_84 pm_X7_append pi_X7_append (by exact Exists.choose_spec hO.z) rfl rfl rfl (by simp [Value.category]) rfl ⟨Nat.le_refl _, Nat.le_refl _⟩ ?_
  refine q_app hO (by omega) (by first | omega | (simp only [oL_app]; omega)) (fun f hO => ?_)
  dsimp only [xK, xps]
  refine xr_pop (n := 6) dL_types_5 rfl rfl ?_
  refine xr_aload_n (n := 7) dL_types_6 rfl rfl ?_
  refine xr_iload_n (n := 8) dL_types_7 rfl rfl ?_
  refine xr_callV (y2 := mX7_append) (As := [_]) (n := 11) dL_types_8 lm_L_84 pm_X7_append pi_X7_append (by exact Exists.choose_spec hO.z) rfl rfl rfl (by simp [Value.category]) rfl ⟨Nat.le_refl _, Nat.le_refl _⟩ ?_
  refine q_app hO (by omega) (by first | omega | (simp only [oL_app]; omega)) (fun f hO => ?_)
  dsimp only [xK, xps]
  refine xr_pop (n := 12) dL_types_11 rfl rfl ?_
  refine xr_aload_n (n := 13) dL_types_12 rfl rfl ?_
  refine xr_iload_n (n := 14) dL_types_13 rfl rfl ?_
  refine xr_callV (y2 := mX7_append) (As := [_]) (n := 17) dL_types_14 lm_L_84 pm_X7_append pi_X7_append (by exact Exists.choose_spec hO.z) rfl rfl rfl (by simp [Value.category]) rfl ⟨Nat.le_refl _, Nat.le_refl _⟩ ?_
  refine q_app hO (by omega) (by first | omega | (simp only [oL_app]; omega)) (fun f hO => ?_)
  dsimp only [xK, xps]
  refine xr_pop (n := 18) dL_types_17 rfl rfl ?_
  refine xr_iload (n := 20) dL_types_18 rfl rfl ?_
  refine xr_if_le (tgt := 30) (n := 23) dL_types_20 (by decide) rfl (fun h20 => ?_) (fun h20 => by (exfalso; revert h20; decide))
  refine xr_iload (n := 32) dL_types_30 rfl rfl ?_
  refine xr_if_le (tgt := 49) (n := 35) dL_types_32 (by decide) rfl (fun h32 => ?_) (fun h32 => by (exfalso; revert h32; decide))
  refine xr_return dL_types_49 rfl rfl ?_
  exact hq f hO

theorem s_L_types_4 {G : xG} {d : Nat} {f : Nat → xC} {r : Nat × Nat} {Q : Option Value → xM → Prop} {z : Nat} {o : xO} {a b c u : Nat} (hO : OI f z o) (hl : oL o + 4 ≤ 120) (ha : 1 ≤ a ∧ a ≤ 255) (hb : 1 ≤ b ∧ b ≤ 255) (hc : 1 ≤ c ∧ c ≤ 255) (hu : 1 ≤ u ∧ u ≤ 255) (hq : ∀ f', OI f' z (oApp (oApp (oApp (oApp o (nI a)) (nI b)) (nI c)) (nI u)) → Q none (f', r)) : xMet G (d + 3) mL_types [.ref z, .int (nI a), .int (nI b), .int (nI c), .int (nI u), .int (nI 0), .int (nI 0)] (f, r) r Q := by
  refine xMet_0 (by decide +kernel) rfl (Nat.le_of_ble_eq_true rfl) ?_
  show xX G (d + 3) mL_types r r (xΦ G r r Q) 0 [(0, .ref z), (1, .int (nI a)), (2, .int (nI b)), (3, .int (nI c)), (4, .int (nI u)), (5, .int (nI 0)), (6, .int (nI 0))] [] (f, r)
  have ea := nt a (by omega)
  have eb := nt b (by omega)
  have ec := nt c (by omega)
  have eu := nt u (by omega)
  refine xr_aload_n (n := 1) dL_types_0 rfl rfl ?_
  refine xr_iload_n (n := 2) dL_types_1 rfl rfl ?_
  refine xr_callV (y2 := mX7_append) (As := [_]) (n := 5) dL_types_2 lm_L_84 pm_X7_append pi_X7_append (by exact Exists.choose_spec hO.z) rfl rfl rfl (by simp [Value.category]) rfl ⟨Nat.le_refl _, Nat.le_refl _⟩ ?_
  refine q_app hO (by omega) (by first | omega | (simp only [oL_app]; omega)) (fun f hO => ?_)
  dsimp only [xK, xps]
  refine xr_pop (n := 6) dL_types_5 rfl rfl ?_
  refine xr_aload_n (n := 7) dL_types_6 rfl rfl ?_
  refine xr_iload_n (n := 8) dL_types_7 rfl rfl ?_
  refine xr_callV (y2 := mX7_append) (As := [_]) (n := 11) dL_types_8 lm_L_84 pm_X7_append pi_X7_append (by exact Exists.choose_spec hO.z) rfl rfl rfl (by simp [Value.category]) rfl ⟨Nat.le_refl _, Nat.le_refl _⟩ ?_
  refine q_app hO (by omega) (by first | omega | (simp only [oL_app]; omega)) (fun f hO => ?_)
  dsimp only [xK, xps]
  refine xr_pop (n := 12) dL_types_11 rfl rfl ?_
  refine xr_aload_n (n := 13) dL_types_12 rfl rfl ?_
  refine xr_iload_n (n := 14) dL_types_13 rfl rfl ?_
  refine xr_callV (y2 := mX7_append) (As := [_]) (n := 17) dL_types_14 lm_L_84 pm_X7_append pi_X7_append (by exact Exists.choose_spec hO.z) rfl rfl rfl (by simp [Value.category]) rfl ⟨Nat.le_refl _, Nat.le_refl _⟩ ?_
  refine q_app hO (by omega) (by first | omega | (simp only [oL_app]; omega)) (fun f hO => ?_)
  dsimp only [xK, xps]
  refine xr_pop (n := 18) dL_types_17 rfl rfl ?_
  refine xr_iload (n := 20) dL_types_18 rfl rfl ?_
  refine xr_if_le (tgt := 30) (n := 23) dL_types_20 (by decide) rfl (fun h20 => by (exfalso; rw [i_le, Int32.toInt_zero] at h20; omega)) (fun h20 => ?_)
  refine xr_aload_n (n := 24) dL_types_23 rfl rfl ?_
  refine xr_iload (n := 26) dL_types_24 rfl rfl ?_
  refine xr_callV (y2 := mX7_append) (As := [_]) (n := 29) dL_types_26 lm_L_84 pm_X7_append pi_X7_append (by exact Exists.choose_spec hO.z) rfl rfl rfl (by simp [Value.category]) rfl ⟨Nat.le_refl _, Nat.le_refl _⟩ ?_
  refine q_app hO (by omega) (by first | omega | (simp only [oL_app]; omega)) (fun f hO => ?_)
  dsimp only [xK, xps]
  refine xr_pop (n := 30) dL_types_29 rfl rfl ?_
  refine xr_iload (n := 32) dL_types_30 rfl rfl ?_
  refine xr_if_le (tgt := 49) (n := 35) dL_types_32 (by decide) rfl (fun h32 => ?_) (fun h32 => by (exfalso; revert h32; decide))
  refine xr_return dL_types_49 rfl rfl ?_
  exact hq f hO

theorem s_L_types_5 {G : xG} {d : Nat} {f : Nat → xC} {r : Nat × Nat} {Q : Option Value → xM → Prop} {z : Nat} {o : xO} {a b c v w : Nat} (hO : OI f z o) (hl : oL o + 5 ≤ 120) (ha : 1 ≤ a ∧ a ≤ 255) (hb : 1 ≤ b ∧ b ≤ 255) (hc : 1 ≤ c ∧ c ≤ 255) (hv : 1 ≤ v ∧ v ≤ 255) (hw : 1 ≤ w ∧ w ≤ 255) (hq : ∀ f', OI f' z (oApp (oApp (oApp (oApp (oApp o (nI a)) (nI b)) (nI c)) (nI v)) (nI w)) → Q none (f', r)) : xMet G (d + 3) mL_types [.ref z, .int (nI a), .int (nI b), .int (nI c), .int (nI 0), .int (nI v), .int (nI w)] (f, r) r Q := by
  refine xMet_0 (by decide +kernel) rfl (Nat.le_of_ble_eq_true rfl) ?_
  show xX G (d + 3) mL_types r r (xΦ G r r Q) 0 [(0, .ref z), (1, .int (nI a)), (2, .int (nI b)), (3, .int (nI c)), (4, .int (nI 0)), (5, .int (nI v)), (6, .int (nI w))] [] (f, r)
  have ea := nt a (by omega)
  have eb := nt b (by omega)
  have ec := nt c (by omega)
  have ev := nt v (by omega)
  have ew := nt w (by omega)
  refine xr_aload_n (n := 1) dL_types_0 rfl rfl ?_
  refine xr_iload_n (n := 2) dL_types_1 rfl rfl ?_
  refine xr_callV (y2 := mX7_append) (As := [_]) (n := 5) dL_types_2 lm_L_84 pm_X7_append pi_X7_append (by exact Exists.choose_spec hO.z) rfl rfl rfl (by simp [Value.category]) rfl ⟨Nat.le_refl _, Nat.le_refl _⟩ ?_
  refine q_app hO (by omega) (by first | omega | (simp only [oL_app]; omega)) (fun f hO => ?_)
  dsimp only [xK, xps]
  refine xr_pop (n := 6) dL_types_5 rfl rfl ?_
  refine xr_aload_n (n := 7) dL_types_6 rfl rfl ?_
  refine xr_iload_n (n := 8) dL_types_7 rfl rfl ?_
  refine xr_callV (y2 := mX7_append) (As := [_]) (n := 11) dL_types_8 lm_L_84 pm_X7_append pi_X7_append (by exact Exists.choose_spec hO.z) rfl rfl rfl (by simp [Value.category]) rfl ⟨Nat.le_refl _, Nat.le_refl _⟩ ?_
  refine q_app hO (by omega) (by first | omega | (simp only [oL_app]; omega)) (fun f hO => ?_)
  dsimp only [xK, xps]
  refine xr_pop (n := 12) dL_types_11 rfl rfl ?_
  refine xr_aload_n (n := 13) dL_types_12 rfl rfl ?_
  refine xr_iload_n (n := 14) dL_types_13 rfl rfl ?_
  refine xr_callV (y2 := mX7_append) (As := [_]) (n := 17) dL_types_14 lm_L_84 pm_X7_append pi_X7_append (by exact Exists.choose_spec hO.z) rfl rfl rfl (by simp [Value.category]) rfl ⟨Nat.le_refl _, Nat.le_refl _⟩ ?_
  refine q_app hO (by omega) (by first | omega | (simp only [oL_app]; omega)) (fun f hO => ?_)
  dsimp only [xK, xps]
  refine xr_pop (n := 18) dL_types_17 rfl rfl ?_
  refine xr_iload (n := 20) dL_types_18 rfl rfl ?_
  refine xr_if_le (tgt := 30) (n := 23) dL_types_20 (by decide) rfl (fun h20 => ?_) (fun h20 => by (exfalso; revert h20; decide))
  refine xr_iload (n := 32) dL_types_30 rfl rfl ?_
  refine xr_if_le (tgt := 49) (n := 35) dL_types_32 (by decide) rfl (fun h32 => by (exfalso; rw [i_le, Int32.toInt_zero] at h32; omega)) (fun h32 => ?_)
  refine xr_aload_n (n := 36) dL_types_35 rfl rfl ?_
  refine xr_iload (n := 38) dL_types_36 rfl rfl ?_
  refine xr_callV (y2 := mX7_append) (As := [_]) (n := 41) dL_types_38 lm_L_84 pm_X7_append pi_X7_append (by exact Exists.choose_spec hO.z) rfl rfl rfl (by simp [Value.category]) rfl ⟨Nat.le_refl _, Nat.le_refl _⟩ ?_
  refine q_app hO (by omega) (by first | omega | (simp only [oL_app]; omega)) (fun f hO => ?_)
  dsimp only [xK, xps]
  refine xr_pop (n := 42) dL_types_41 rfl rfl ?_
  refine xr_aload_n (n := 43) dL_types_42 rfl rfl ?_
  refine xr_iload (n := 45) dL_types_43 rfl rfl ?_
  refine xr_callV (y2 := mX7_append) (As := [_]) (n := 48) dL_types_45 lm_L_84 pm_X7_append pi_X7_append (by exact Exists.choose_spec hO.z) rfl rfl rfl (by simp [Value.category]) rfl ⟨Nat.le_refl _, Nat.le_refl _⟩ ?_
  refine q_app hO (by omega) (by first | omega | (simp only [oL_app]; omega)) (fun f hO => ?_)
  dsimp only [xK, xps]
  refine xr_pop (n := 49) dL_types_48 rfl rfl ?_
  refine xr_return dL_types_49 rfl rfl ?_
  exact hq f hO

theorem s_L_types_6 {G : xG} {d : Nat} {f : Nat → xC} {r : Nat × Nat} {Q : Option Value → xM → Prop} {z : Nat} {o : xO} {a b c u v w : Nat} (hO : OI f z o) (hl : oL o + 6 ≤ 120) (ha : 1 ≤ a ∧ a ≤ 255) (hb : 1 ≤ b ∧ b ≤ 255) (hc : 1 ≤ c ∧ c ≤ 255) (hu : 1 ≤ u ∧ u ≤ 255) (hv : 1 ≤ v ∧ v ≤ 255) (hw : 1 ≤ w ∧ w ≤ 255) (hq : ∀ f', OI f' z (oApp (oApp (oApp (oApp (oApp (oApp o (nI a)) (nI b)) (nI c)) (nI u)) (nI v)) (nI w)) → Q none (f', r)) : xMet G (d + 3) mL_types [.ref z, .int (nI a), .int (nI b), .int (nI c), .int (nI u), .int (nI v), .int (nI w)] (f, r) r Q := by
  refine xMet_0 (by decide +kernel) rfl (Nat.le_of_ble_eq_true rfl) ?_
  show xX G (d + 3) mL_types r r (xΦ G r r Q) 0 [(0, .ref z), (1, .int (nI a)), (2, .int (nI b)), (3, .int (nI c)), (4, .int (nI u)), (5, .int (nI v)), (6, .int (nI w))] [] (f, r)
  have ea := nt a (by omega)
  have eb := nt b (by omega)
  have ec := nt c (by omega)
  have eu := nt u (by omega)
  have ev := nt v (by omega)
  have ew := nt w (by omega)
  refine xr_aload_n (n := 1) dL_types_0 rfl rfl ?_
  refine xr_iload_n (n := 2) dL_types_1 rfl rfl ?_
  refine xr_callV (y2 := mX7_append) (As := [_]) (n := 5) dL_types_2 lm_L_84 pm_X7_append pi_X7_append (by exact Exists.choose_spec hO.z) rfl rfl rfl (by simp [Value.category]) rfl ⟨Nat.le_refl _, Nat.le_refl _⟩ ?_
  refine q_app hO (by omega) (by first | omega | (simp only [oL_app]; omega)) (fun f hO => ?_)
  dsimp only [xK, xps]
  refine xr_pop (n := 6) dL_types_5 rfl rfl ?_
  refine xr_aload_n (n := 7) dL_types_6 rfl rfl ?_
  refine xr_iload_n (n := 8) dL_types_7 rfl rfl ?_
  refine xr_callV (y2 := mX7_append) (As := [_]) (n := 11) dL_types_8 lm_L_84 pm_X7_append pi_X7_append (by exact Exists.choose_spec hO.z) rfl rfl rfl (by simp [Value.category]) rfl ⟨Nat.le_refl _, Nat.le_refl _⟩ ?_
  refine q_app hO (by omega) (by first | omega | (simp only [oL_app]; omega)) (fun f hO => ?_)
  dsimp only [xK, xps]
  refine xr_pop (n := 12) dL_types_11 rfl rfl ?_
  refine xr_aload_n (n := 13) dL_types_12 rfl rfl ?_
  refine xr_iload_n (n := 14) dL_types_13 rfl rfl ?_
  refine xr_callV (y2 := mX7_append) (As := [_]) (n := 17) dL_types_14 lm_L_84 pm_X7_append pi_X7_append (by exact Exists.choose_spec hO.z) rfl rfl rfl (by simp [Value.category]) rfl ⟨Nat.le_refl _, Nat.le_refl _⟩ ?_
  refine q_app hO (by omega) (by first | omega | (simp only [oL_app]; omega)) (fun f hO => ?_)
  dsimp only [xK, xps]
  refine xr_pop (n := 18) dL_types_17 rfl rfl ?_
  refine xr_iload (n := 20) dL_types_18 rfl rfl ?_
  refine xr_if_le (tgt := 30) (n := 23) dL_types_20 (by decide) rfl (fun h20 => by (exfalso; rw [i_le, Int32.toInt_zero] at h20; omega)) (fun h20 => ?_)
  refine xr_aload_n (n := 24) dL_types_23 rfl rfl ?_
  refine xr_iload (n := 26) dL_types_24 rfl rfl ?_
  refine xr_callV (y2 := mX7_append) (As := [_]) (n := 29) dL_types_26 lm_L_84 pm_X7_append pi_X7_append (by exact Exists.choose_spec hO.z) rfl rfl rfl (by simp [Value.category]) rfl ⟨Nat.le_refl _, Nat.le_refl _⟩ ?_
  refine q_app hO (by omega) (by first | omega | (simp only [oL_app]; omega)) (fun f hO => ?_)
  dsimp only [xK, xps]
  refine xr_pop (n := 30) dL_types_29 rfl rfl ?_
  refine xr_iload (n := 32) dL_types_30 rfl rfl ?_
  refine xr_if_le (tgt := 49) (n := 35) dL_types_32 (by decide) rfl (fun h32 => by (exfalso; rw [i_le, Int32.toInt_zero] at h32; omega)) (fun h32 => ?_)
  refine xr_aload_n (n := 36) dL_types_35 rfl rfl ?_
  refine xr_iload (n := 38) dL_types_36 rfl rfl ?_
  refine xr_callV (y2 := mX7_append) (As := [_]) (n := 41) dL_types_38 lm_L_84 pm_X7_append pi_X7_append (by exact Exists.choose_spec hO.z) rfl rfl rfl (by simp [Value.category]) rfl ⟨Nat.le_refl _, Nat.le_refl _⟩ ?_
  refine q_app hO (by omega) (by first | omega | (simp only [oL_app]; omega)) (fun f hO => ?_)
  dsimp only [xK, xps]
  refine xr_pop (n := 42) dL_types_41 rfl rfl ?_
  refine xr_aload_n (n := 43) dL_types_42 rfl rfl ?_
  refine xr_iload (n := 45) dL_types_43 rfl rfl ?_
  refine xr_callV (y2 := mX7_append) (As := [_]) (n := 48) dL_types_45 lm_L_84 pm_X7_append pi_X7_append (by exact Exists.choose_spec hO.z) rfl rfl rfl (by simp [Value.category]) rfl ⟨Nat.le_refl _, Nat.le_refl _⟩ ?_
  refine q_app hO (by omega) (by first | omega | (simp only [oL_app]; omega)) (fun f hO => ?_)
  dsimp only [xK, xps]
  refine xr_pop (n := 49) dL_types_48 rfl rfl ?_
  refine xr_return dL_types_49 rfl rfl ?_
  exact hq f hO
