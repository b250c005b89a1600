/-! the class: runs -/
theorem folF_le {n : Nat} {P : Nat → Nat → Nat} (hO : okP n P) : ∀ g s, s < n → folF P g s ≤ n
  | 0, s, hs => by
    have := (psz_bd hO hs).2
    show pend P s ≤ n
    omega
  | g + 1, s, hs => by
    have hp := (psz_bd hO hs).2
    rw [folF_s]
    cases h : outr P s s with
    | zero => show pend P s ≤ n; omega
    | succ k =>
      have hk := (outr_k h).1
      have := folF_le hO g k (by omega)
      simp only
      repeat' split
      all_goals omega
theorem anext_le {n s : Nat} {P : Nat → Nat → Nat} (hO : okP n P) (hs : s < n) (δ : xS) : anext P s δ ≤ n := by
  have hf : fol P s ≤ n := folF_le hO s s hs
  obtain ⟨k0, k1, k2, k3, k4, k6, k5⟩ := hO.2 s hs
  unfold anext
  split
  · exact hf
  · have := k6 (by omega)
    split
    · split
      · split <;> omega
      · exact hf
    · have := k5 (by omega)
      split
      · split
        · omega
        · exact hf
      · split
        · omega
        · exact hf
theorem s_X6_stepFrom {G : xG} {d : Nat} {f : Nat → xC} {r : Nat × Nat} {Q : Option Value → xM → Prop} {a b n s : Nat} {σ δ : xS} {P : Nat → Nat → Nat} {t mk rd mo tl : Nat} (hL : lat f b σ) (hd : b + 10 ≤ a ∨ a + 7 ≤ b) (hP : LsP σ n P) (hO : okP n P) (hs : s < n) (hC : trC δ t mk rd mo tl) (ht : t < 400) (hq : Q (some (.int (nI (anext P s δ)))) (tput f a (adata P s δ), r)) : xMet G (d + 6) mX6_stepFrom [.ref a, .ref b, .int (nI s)] (tput f a δ, r) r Q := by
  refine xMet_0 (by decide +kernel) rfl (Nat.le_of_ble_eq_true rfl) ?_
  show xX G (d + 6) mX6_stepFrom r r (xΦ G r r Q) 0 [(0, .ref a), (1, .ref b), (2, .int (nI s))] [] (tput f a δ, r)
  obtain ⟨hn, hn2, hS⟩ := id hP
  obtain ⟨⟨g0, g1, g2, g3, g5, g6, g7⟩, g8⟩ := hS s hs
  obtain ⟨k0, k1, k2, k3, k4, k6, k5⟩ := hO.2 s hs
  obtain ⟨c5, c6, c7, c8, c9, b6, b7, b8, b9, bt, c4, c1⟩ := id hC
  have hop := nt (P s 0 + 1) (by omega)
  refine xr_aload_n (n := 1) dX6_stepFrom_0 rfl rfl ?_
  refine xr_iload_n (n := 2) dX6_stepFrom_1 rfl rfl ?_
  refine xr_callV (y2 := mX1_targetOf) (As := [_]) (n := 5) dX6_stepFrom_2 lm_X6_64 pm_X1_targetOf pi_X1_targetOf (by first | exact tat_0 (tput_at _ _ _) | exact tat_r (tput_at _ _ _) (by decide) | exact lat_0 (lat_t hL hd) | exact lat_r (lat_t hL hd) (by decide)) rfl rfl rfl (by simp [Value.category]) rfl ⟨Nat.le_refl _, Nat.le_refl _⟩ ?_
  refine s_X1_targetOf (lat_t hL hd) hn hn2 hs ?_
  dsimp only [xK, xps]
  rw [g1]
  refine xq_istore_n 3 (n := 6) dX6_stepFrom_5 rfl rfl rfl ?_
  simp only [xst, Nat.beq, List.filter, Bool.not_true, Bool.not_false]
  refine xr_aload_n (n := 7) dX6_stepFrom_6 rfl rfl ?_
  refine xr_iload_n (n := 8) dX6_stepFrom_7 rfl rfl ?_
  refine xr_callV (y2 := mX6_valueOf) (As := [_]) (n := 11) dX6_stepFrom_8 lm_X6_68 pm_X6_valueOf pi_X6_valueOf (by first | exact tat_0 (tput_at _ _ _) | exact tat_r (tput_at _ _ _) (by decide) | exact lat_0 (lat_t hL hd) | exact lat_r (lat_t hL hd) (by decide)) rfl rfl rfl (by simp [Value.category]) rfl ⟨Nat.le_refl _, Nat.le_refl _⟩ ?_
  refine s_X6_valueOf' k1 ?_
  dsimp only [xK, xps]
  refine xr_if_le (tgt := 18) (n := 14) dX6_stepFrom_11 (by decide) rfl (fun h11 => ?_) (fun h11 => ?_)
  · have hpos : ¬ 0 < δ 1 (P s 1) := by ((try simp (disch := omega) only [i_lt, i_le, i_eq, nt, i_m1, Int32.toInt_zero] at *); omega)
    refine xr_iconst (v := nI 0) (n := 19) dX6_stepFrom_18 (by decide) rfl ?_
    refine xr_istore (n := 21) dX6_stepFrom_19 rfl rfl ?_
    simp only [xst, Nat.beq, List.filter, Bool.not_true, Bool.not_false]
    refine xr_aload_n (n := 22) dX6_stepFrom_21 rfl rfl ?_
    refine xr_iload_n (n := 23) dX6_stepFrom_22 rfl rfl ?_
    refine xr_callV (y2 := mX1_kindOf) (As := [_]) (n := 26) dX6_stepFrom_23 lm_X6_71 pm_X1_kindOf pi_X1_kindOf (by first | exact tat_0 (tput_at _ _ _) | exact tat_r (tput_at _ _ _) (by decide) | exact lat_0 (lat_t hL hd) | exact lat_r (lat_t hL hd) (by decide)) rfl rfl rfl (by simp [Value.category]) rfl ⟨Nat.le_refl _, Nat.le_refl _⟩ ?_
    refine s_X1_kindOf (lat_t hL hd) hn hn2 hs ?_
    dsimp only [xK, xps]
    rw [g0]
    rcases (show (nI (P s 0 + 1)).toInt < 1 ∨ 4 < (nI (P s 0 + 1)).toInt ∨ (nI (P s 0 + 1)).toInt = 1 ∨ (nI (P s 0 + 1)).toInt = 2 ∨ (nI (P s 0 + 1)).toInt = 3 ∨ (nI (P s 0 + 1)).toInt = 4 by omega) with hx | hx | hx | hx | hx | hx
    · refine xr_tableOut (n := 111) dX6_stepFrom_26 (Or.inl hx) (by decide) ?_
      exfalso; omega
    · refine xr_tableOut (n := 111) dX6_stepFrom_26 (Or.inr hx) (by decide) ?_
      have h0 : P s 0 = 4 := by omega
      have h36 := k6 (by omega)
      have h45 := k5 h0
      have hmid : mid P s = P s 5 := (if_neg (by omega)).trans (if_pos h0)
      have hpe : pend P s = P s 6 := if_pos (by omega)
      rw [hmid] at g6
      rw [hpe] at g7
      refine xr_iload (n := 113) dX6_stepFrom_111 rfl rfl ?_
      refine xr_if_eq (tgt := 124) (n := 116) dX6_stepFrom_113 (by decide) rfl (fun h113 => ?_) (fun h113 => by (exfalso; revert h113; decide))
      refine xr_aload_n (n := 125) dX6_stepFrom_124 rfl rfl ?_
      refine xr_iload_n (n := 126) dX6_stepFrom_125 rfl rfl ?_
      refine xr_callV (y2 := mX1_passed) (As := [_]) (n := 129) dX6_stepFrom_126 lm_X6_97 pm_X1_passed pi_X1_passed (by first | exact tat_0 (tput_at _ _ _) | exact tat_r (tput_at _ _ _) (by decide) | exact lat_0 (lat_t hL hd) | exact lat_r (lat_t hL hd) (by decide)) rfl rfl rfl (by simp [Value.category]) rfl ⟨Nat.le_refl _, Nat.le_refl _⟩ ?_
      refine s_X1_passed (lat_t hL hd) hn hn2 hs g6 (by omega) g7 (by omega) ?_
      dsimp only [xK, xps]
      refine xr_ireturn dX6_stepFrom_129 rfl rfl rfl ?_
      have hA : adata P s δ = δ := (if_neg (by omega)).trans ((if_neg (by omega)).trans ((if_neg (by omega)).trans (if_neg (by omega))))
      rw [hA] at hq
      refine qi hq ?_
      unfold anext
      rw [if_neg (by omega), if_neg (by omega)]
      rw [if_neg hpos]
      by_cases e : P s 5 < P s 6
      · rw [if_pos e, if_pos e]
      · rw [if_neg e, if_neg e, g8]
    · refine xr_tableIn (n := 56) (off := 30) dX6_stepFrom_26 (by omega) (by omega) (by rw [hx]; rfl) (by decide) ?_
      have h0 : P s 0 = 0 := by omega
      refine xr_aload_n (n := 57) dX6_stepFrom_56 rfl rfl ?_
      refine xr_iload_n (n := 58) dX6_stepFrom_57 rfl rfl ?_
      refine xr_aload_n (n := 59) dX6_stepFrom_58 rfl rfl ?_
      refine xr_aload_n (n := 60) dX6_stepFrom_59 rfl rfl ?_
      refine xr_iload_n (n := 61) dX6_stepFrom_60 rfl rfl ?_
      refine xr_callV (y2 := mX6_resultOf) (As := [_, _]) (n := 64) dX6_stepFrom_61 lm_X6_74 pm_X6_resultOf pi_X6_resultOf (by first | exact tat_0 (tput_at _ _ _) | exact tat_r (tput_at _ _ _) (by decide) | exact lat_0 (lat_t hL hd) | exact lat_r (lat_t hL hd) (by decide)) rfl rfl rfl (by simp [Value.category]) rfl ⟨Nat.le_refl _, Nat.le_refl _⟩ ?_
      refine s_X6_resultOf hL hd hP hO hs h0 c1 ?_
      dsimp only [xK, xps]
      refine xr_callV (y2 := mX6_setCell) (As := [_, _]) (n := 67) dX6_stepFrom_64 lm_X6_77 pm_X6_setCell pi_X6_setCell (by first | exact tat_0 (tput_at _ _ _) | exact tat_r (tput_at _ _ _) (by decide) | exact lat_0 (lat_t hL hd) | exact lat_r (lat_t hL hd) (by decide)) rfl rfl rfl (by simp [Value.category]) rfl ⟨Nat.le_refl _, Nat.le_refl _⟩ ?_
      refine s_X6_setCell k1 ?_
      dsimp only [xK, xps]
      refine xr_aload_n (n := 68) dX6_stepFrom_67 rfl rfl ?_
      refine xr_iload_n (n := 69) dX6_stepFrom_68 rfl rfl ?_
      refine xr_callV (y2 := mX1_followerAt) (As := [_]) (n := 72) dX6_stepFrom_69 lm_X6_80 pm_X1_followerAt pi_X1_followerAt (by first | exact tat_0 (tput_at _ _ _) | exact tat_r (tput_at _ _ _) (by decide) | exact lat_0 (lat_t hL hd) | exact lat_r (lat_t hL hd) (by decide)) rfl rfl rfl (by simp [Value.category]) rfl ⟨Nat.le_refl _, Nat.le_refl _⟩ ?_
      refine s_X1_followerAt (lat_t hL hd) hn hn2 hs ?_
      dsimp only [xK, xps]
      refine xr_ireturn dX6_stepFrom_72 rfl rfl rfl ?_
      refine qi (qm hq ?_) ?_
      · rw [show adata P s δ = aset P s δ from if_pos h0]; rfl
      · rw [g8, show anext P s δ = fol P s from if_pos (by omega)]
    · refine xr_tableIn (n := 73) (off := 47) dX6_stepFrom_26 (by omega) (by omega) (by rw [hx]; rfl) (by decide) ?_
      have h0 : P s 0 = 1 := by omega
      refine xr_aload_n (n := 74) dX6_stepFrom_73 rfl rfl ?_
      refine xr_get (n := 77) dX6_stepFrom_74 fl_X6_12 (by first | exact tat_0 (tput_at _ _ _) | exact tat_r (tput_at _ _ _) (by decide) | exact lat_0 (lat_t hL hd) | exact lat_r (lat_t hL hd) (by decide)) (by rfl) rfl ?_
      refine xr_aload_n (n := 78) dX6_stepFrom_77 rfl rfl ?_
      refine xr_iload_n (n := 79) dX6_stepFrom_78 rfl rfl ?_
      refine xr_callV (y2 := mX6_valueOf) (As := [_]) (n := 82) dX6_stepFrom_79 lm_X6_68 pm_X6_valueOf pi_X6_valueOf (by first | exact tat_0 (tput_at _ _ _) | exact tat_r (tput_at _ _ _) (by decide) | exact lat_0 (lat_t hL hd) | exact lat_r (lat_t hL hd) (by decide)) rfl rfl rfl (by simp [Value.category]) rfl ⟨Nat.le_refl _, Nat.le_refl _⟩ ?_
      refine s_X6_valueOf' k1 ?_
      dsimp only [xK, xps]
      refine xr_callV (y2 := mX2_add) (As := [_]) (n := 85) dX6_stepFrom_82 lm_X6_83 pm_X2_add pi_X2_add (by first | exact tat_0 (tput_at _ _ _) | exact tat_r (tput_at _ _ _) (by decide) | exact lat_0 (lat_t hL hd) | exact lat_r (lat_t hL hd) (by decide)) rfl rfl rfl (by simp [Value.category]) rfl ⟨Nat.le_refl _, Nat.le_refl _⟩ ?_
      refine s_X2_add_t c9 (by omega) ?_
      dsimp only [xK, xps]
      refine xr_aload_n (n := 86) dX6_stepFrom_85 rfl rfl ?_
      refine xr_iload_n (n := 87) dX6_stepFrom_86 rfl rfl ?_
      refine xr_callV (y2 := mX1_followerAt) (As := [_]) (n := 90) dX6_stepFrom_87 lm_X6_80 pm_X1_followerAt pi_X1_followerAt (by first | exact tat_0 (tput_at _ _ _) | exact tat_r (tput_at _ _ _) (by decide) | exact lat_0 (lat_t hL hd) | exact lat_r (lat_t hL hd) (by decide)) rfl rfl rfl (by simp [Value.category]) rfl ⟨Nat.le_refl _, Nat.le_refl _⟩ ?_
      refine s_X1_followerAt (lat_t hL hd) hn hn2 hs ?_
      dsimp only [xK, xps]
      refine xr_ireturn dX6_stepFrom_90 rfl rfl rfl ?_
      refine qi (qm hq ?_) ?_
      · rw [show adata P s δ = atell P s δ from (if_neg (by omega)).trans (if_pos h0)]; unfold atell; rw [c9, ix_n (by omega), nI_add]
      · rw [g8, show anext P s δ = fol P s from if_pos (by omega)]
    · refine xr_tableIn (n := 91) (off := 65) dX6_stepFrom_26 (by omega) (by omega) (by rw [hx]; rfl) (by decide) ?_
      have h0 : P s 0 = 2 := by omega
      refine xr_aload_n (n := 92) dX6_stepFrom_91 rfl rfl ?_
      refine xr_callV (y2 := mX6_keepMark) (As := []) (n := 95) dX6_stepFrom_92 lm_X6_87 pm_X6_keepMark pi_X6_keepMark (by first | exact tat_0 (tput_at _ _ _) | exact tat_r (tput_at _ _ _) (by decide) | exact lat_0 (lat_t hL hd) | exact lat_r (lat_t hL hd) (by decide)) rfl rfl rfl (by simp [Value.category]) rfl ⟨Nat.le_refl _, Nat.le_refl _⟩ ?_
      refine s_X6_keepMark c6 (by omega) ?_
      dsimp only [xK, xps]
      refine xr_aload_n (n := 96) dX6_stepFrom_95 rfl rfl ?_
      refine xr_iload_n (n := 97) dX6_stepFrom_96 rfl rfl ?_
      refine xr_callV (y2 := mX1_followerAt) (As := [_]) (n := 100) dX6_stepFrom_97 lm_X6_80 pm_X1_followerAt pi_X1_followerAt (by first | exact tat_0 (tput_at _ _ _) | exact tat_r (tput_at _ _ _) (by decide) | exact lat_0 (lat_t hL hd) | exact lat_r (lat_t hL hd) (by decide)) rfl rfl rfl (by simp [Value.category]) rfl ⟨Nat.le_refl _, Nat.le_refl _⟩ ?_
      refine s_X1_followerAt (lat_t hL hd) hn hn2 hs ?_
      dsimp only [xK, xps]
      refine xr_ireturn dX6_stepFrom_100 rfl rfl rfl ?_
      refine qi (qm hq ?_) ?_
      · rw [show adata P s δ = amark δ from (if_neg (by omega)).trans ((if_neg (by omega)).trans (if_pos h0))]
      · rw [g8, show anext P s δ = fol P s from if_pos (by omega)]
    · refine xr_tableIn (n := 101) (off := 75) dX6_stepFrom_26 (by omega) (by omega) (by rw [hx]; rfl) (by decide) ?_
      have h0 : P s 0 = 3 := by omega
      obtain ⟨x, hx, hxe⟩ := c4 s (by omega)
      have h36 := k6 (by omega)
      have hmid : mid P s = P s 6 := if_pos h0
      have hpe : pend P s = P s 6 := if_pos (by omega)
      rw [hmid] at g6
      rw [hpe] at g7
      refine xr_aload_n (n := 102) dX6_stepFrom_101 rfl rfl ?_
      refine xr_iload_n (n := 103) dX6_stepFrom_102 rfl rfl ?_
      refine xr_iload (n := 105) dX6_stepFrom_103 rfl rfl ?_
      refine xr_callV (y2 := mX6_countLook) (As := [_, _]) (n := 108) dX6_stepFrom_105 lm_X6_90 pm_X6_countLook pi_X6_countLook (by first | exact tat_0 (tput_at _ _ _) | exact tat_r (tput_at _ _ _) (by decide) | exact lat_0 (lat_t hL hd) | exact lat_r (lat_t hL hd) (by decide)) rfl rfl rfl (by simp [Value.category]) rfl ⟨Nat.le_refl _, Nat.le_refl _⟩ ?_
      first | refine s_X6_countLook_1 (by omega) hxe (by omega) c7 c8 (by omega) ?_ | refine s_X6_countLook_0 (by omega) hxe (by omega) c7 c8 (by omega) ?_
      dsimp only [xK, xps]
      refine xr_goto (n := 111) dX6_stepFrom_108 (by decide) ?_
      refine xr_iload (n := 113) dX6_stepFrom_111 rfl rfl ?_
      refine xr_if_eq (tgt := 124) (n := 116) dX6_stepFrom_113 (by decide) rfl (fun h113 => ?_) (fun h113 => by (exfalso; revert h113; decide))
      refine xr_aload_n (n := 125) dX6_stepFrom_124 rfl rfl ?_
      refine xr_iload_n (n := 126) dX6_stepFrom_125 rfl rfl ?_
      refine xr_callV (y2 := mX1_passed) (As := [_]) (n := 129) dX6_stepFrom_126 lm_X6_97 pm_X1_passed pi_X1_passed (by first | exact tat_0 (tput_at _ _ _) | exact tat_r (tput_at _ _ _) (by decide) | exact lat_0 (lat_t hL hd) | exact lat_r (lat_t hL hd) (by decide)) rfl rfl rfl (by simp [Value.category]) rfl ⟨Nat.le_refl _, Nat.le_refl _⟩ ?_
      refine s_X1_passed (lat_t hL hd) hn hn2 hs g6 (by omega) g7 (by omega) ?_
      dsimp only [xK, xps]
      refine xr_ireturn dX6_stepFrom_129 rfl rfl rfl ?_
      have hA : adata P s δ = up2 δ 4 s (nI 0) := by
        unfold adata
        rw [if_neg (by omega), if_neg (by omega), if_neg (by omega), if_pos h0, if_neg hpos]
      have hN : anext P s δ = fol P s := by
        unfold anext
        rw [if_neg (by omega), if_pos h0, if_neg hpos]
      rw [hA, hN] at hq
      refine qi hq ?_
      rw [if_neg (by omega), g8]
  · have hpos : 0 < δ 1 (P s 1) := by ((try simp (disch := omega) only [i_lt, i_le, i_eq, nt, i_m1, Int32.toInt_zero] at *); omega)
    refine xr_iconst (v := nI 1) (n := 15) dX6_stepFrom_14 (by decide) rfl ?_
    refine xr_goto (n := 19) dX6_stepFrom_15 (by decide) ?_
    refine xr_istore (n := 21) dX6_stepFrom_19 rfl rfl ?_
    simp only [xst, Nat.beq, List.filter, Bool.not_true, Bool.not_false]
    refine xr_aload_n (n := 22) dX6_stepFrom_21 rfl rfl ?_
    refine xr_iload_n (n := 23) dX6_stepFrom_22 rfl rfl ?_
    refine xr_callV (y2 := mX1_kindOf) (As := [_]) (n := 26) dX6_stepFrom_23 lm_X6_71 pm_X1_kindOf pi_X1_kindOf (by first | exact tat_0 (tput_at _ _ _) | exact tat_r (tput_at _ _ _) (by decide) | exact lat_0 (lat_t hL hd) | exact lat_r (lat_t hL hd) (by decide)) rfl rfl rfl (by simp [Value.category]) rfl ⟨Nat.le_refl _, Nat.le_refl _⟩ ?_
    refine s_X1_kindOf (lat_t hL hd) hn hn2 hs ?_
    dsimp only [xK, xps]
    rw [g0]
    rcases (show (nI (P s 0 + 1)).toInt < 1 ∨ 4 < (nI (P s 0 + 1)).toInt ∨ (nI (P s 0 + 1)).toInt = 1 ∨ (nI (P s 0 + 1)).toInt = 2 ∨ (nI (P s 0 + 1)).toInt = 3 ∨ (nI (P s 0 + 1)).toInt = 4 by omega) with hx | hx | hx | hx | hx | hx
    · refine xr_tableOut (n := 111) dX6_stepFrom_26 (Or.inl hx) (by decide) ?_
      exfalso; omega
    · refine xr_tableOut (n := 111) dX6_stepFrom_26 (Or.inr hx) (by decide) ?_
      have h0 : P s 0 = 4 := by omega
      have h36 := k6 (by omega)
      have h45 := k5 h0
      have hmid : mid P s = P s 5 := (if_neg (by omega)).trans (if_pos h0)
      have hpe : pend P s = P s 6 := if_pos (by omega)
      rw [hmid] at g6
      rw [hpe] at g7
      refine xr_iload (n := 113) dX6_stepFrom_111 rfl rfl ?_
      refine xr_if_eq (tgt := 124) (n := 116) dX6_stepFrom_113 (by decide) rfl (fun h113 => by (exfalso; revert h113; decide)) (fun h113 => ?_)
      refine xr_aload_n (n := 117) dX6_stepFrom_116 rfl rfl ?_
      refine xr_iload_n (n := 118) dX6_stepFrom_117 rfl rfl ?_
      refine xr_callV (y2 := mX1_entered) (As := [_]) (n := 121) dX6_stepFrom_118 lm_X6_94 pm_X1_entered pi_X1_entered (by first | exact tat_0 (tput_at _ _ _) | exact tat_r (tput_at _ _ _) (by decide) | exact lat_0 (lat_t hL hd) | exact lat_r (lat_t hL hd) (by decide)) rfl rfl rfl (by simp [Value.category]) rfl ⟨Nat.le_refl _, Nat.le_refl _⟩ ?_
      refine s_X1_entered (lat_t hL hd) hn hn2 hs g6 (by omega) g0 (by omega) ?_
      dsimp only [xK, xps]
      refine xr_goto (n := 129) dX6_stepFrom_121 (by decide) ?_
      refine xr_ireturn dX6_stepFrom_129 rfl rfl rfl ?_
      have hA : adata P s δ = δ := (if_neg (by omega)).trans ((if_neg (by omega)).trans ((if_neg (by omega)).trans (if_neg (by omega))))
      rw [hA] at hq
      refine qi hq ?_
      unfold anext
      rw [if_neg (by omega), if_neg (by omega)]
      rw [if_pos hpos]
      by_cases e : s + 1 < P s 5
      · rw [if_pos e, if_pos e]
      · rw [if_neg e, if_neg e, if_neg (by omega), g8]
    · refine xr_tableIn (n := 56) (off := 30) dX6_stepFrom_26 (by omega) (by omega) (by rw [hx]; rfl) (by decide) ?_
      have h0 : P s 0 = 0 := by omega
      refine xr_aload_n (n := 57) dX6_stepFrom_56 rfl rfl ?_
      refine xr_iload_n (n := 58) dX6_stepFrom_57 rfl rfl ?_
      refine xr_aload_n (n := 59) dX6_stepFrom_58 rfl rfl ?_
      refine xr_aload_n (n := 60) dX6_stepFrom_59 rfl rfl ?_
      refine xr_iload_n (n := 61) dX6_stepFrom_60 rfl rfl ?_
      refine xr_callV (y2 := mX6_resultOf) (As := [_, _]) (n := 64) dX6_stepFrom_61 lm_X6_74 pm_X6_resultOf pi_X6_resultOf (by first | exact tat_0 (tput_at _ _ _) | exact tat_r (tput_at _ _ _) (by decide) | exact lat_0 (lat_t hL hd) | exact lat_r (lat_t hL hd) (by decide)) rfl rfl rfl (by simp [Value.category]) rfl ⟨Nat.le_refl _, Nat.le_refl _⟩ ?_
      refine s_X6_resultOf hL hd hP hO hs h0 c1 ?_
      dsimp only [xK, xps]
      refine xr_callV (y2 := mX6_setCell) (As := [_, _]) (n := 67) dX6_stepFrom_64 lm_X6_77 pm_X6_setCell pi_X6_setCell (by first | exact tat_0 (tput_at _ _ _) | exact tat_r (tput_at _ _ _) (by decide) | exact lat_0 (lat_t hL hd) | exact lat_r (lat_t hL hd) (by decide)) rfl rfl rfl (by simp [Value.category]) rfl ⟨Nat.le_refl _, Nat.le_refl _⟩ ?_
      refine s_X6_setCell k1 ?_
      dsimp only [xK, xps]
      refine xr_aload_n (n := 68) dX6_stepFrom_67 rfl rfl ?_
      refine xr_iload_n (n := 69) dX6_stepFrom_68 rfl rfl ?_
      refine xr_callV (y2 := mX1_followerAt) (As := [_]) (n := 72) dX6_stepFrom_69 lm_X6_80 pm_X1_followerAt pi_X1_followerAt (by first | exact tat_0 (tput_at _ _ _) | exact tat_r (tput_at _ _ _) (by decide) | exact lat_0 (lat_t hL hd) | exact lat_r (lat_t hL hd) (by decide)) rfl rfl rfl (by simp [Value.category]) rfl ⟨Nat.le_refl _, Nat.le_refl _⟩ ?_
      refine s_X1_followerAt (lat_t hL hd) hn hn2 hs ?_
      dsimp only [xK, xps]
      refine xr_ireturn dX6_stepFrom_72 rfl rfl rfl ?_
      refine qi (qm hq ?_) ?_
      · rw [show adata P s δ = aset P s δ from if_pos h0]; rfl
      · rw [g8, show anext P s δ = fol P s from if_pos (by omega)]
    · refine xr_tableIn (n := 73) (off := 47) dX6_stepFrom_26 (by omega) (by omega) (by rw [hx]; rfl) (by decide) ?_
      have h0 : P s 0 = 1 := by omega
      refine xr_aload_n (n := 74) dX6_stepFrom_73 rfl rfl ?_
      refine xr_get (n := 77) dX6_stepFrom_74 fl_X6_12 (by first | exact tat_0 (tput_at _ _ _) | exact tat_r (tput_at _ _ _) (by decide) | exact lat_0 (lat_t hL hd) | exact lat_r (lat_t hL hd) (by decide)) (by rfl) rfl ?_
      refine xr_aload_n (n := 78) dX6_stepFrom_77 rfl rfl ?_
      refine xr_iload_n (n := 79) dX6_stepFrom_78 rfl rfl ?_
      refine xr_callV (y2 := mX6_valueOf) (As := [_]) (n := 82) dX6_stepFrom_79 lm_X6_68 pm_X6_valueOf pi_X6_valueOf (by first | exact tat_0 (tput_at _ _ _) | exact tat_r (tput_at _ _ _) (by decide) | exact lat_0 (lat_t hL hd) | exact lat_r (lat_t hL hd) (by decide)) rfl rfl rfl (by simp [Value.category]) rfl ⟨Nat.le_refl _, Nat.le_refl _⟩ ?_
      refine s_X6_valueOf' k1 ?_
      dsimp only [xK, xps]
      refine xr_callV (y2 := mX2_add) (As := [_]) (n := 85) dX6_stepFrom_82 lm_X6_83 pm_X2_add pi_X2_add (by first | exact tat_0 (tput_at _ _ _) | exact tat_r (tput_at _ _ _) (by decide) | exact lat_0 (lat_t hL hd) | exact lat_r (lat_t hL hd) (by decide)) rfl rfl rfl (by simp [Value.category]) rfl ⟨Nat.le_refl _, Nat.le_refl _⟩ ?_
      refine s_X2_add_t c9 (by omega) ?_
      dsimp only [xK, xps]
      refine xr_aload_n (n := 86) dX6_stepFrom_85 rfl rfl ?_
      refine xr_iload_n (n := 87) dX6_stepFrom_86 rfl rfl ?_
      refine xr_callV (y2 := mX1_followerAt) (As := [_]) (n := 90) dX6_stepFrom_87 lm_X6_80 pm_X1_followerAt pi_X1_followerAt (by first | exact tat_0 (tput_at _ _ _) | exact tat_r (tput_at _ _ _) (by decide) | exact lat_0 (lat_t hL hd) | exact lat_r (lat_t hL hd) (by decide)) rfl rfl rfl (by simp [Value.category]) rfl ⟨Nat.le_refl _, Nat.le_refl _⟩ ?_
      refine s_X1_followerAt (lat_t hL hd) hn hn2 hs ?_
      dsimp only [xK, xps]
      refine xr_ireturn dX6_stepFrom_90 rfl rfl rfl ?_
      refine qi (qm hq ?_) ?_
      · rw [show adata P s δ = atell P s δ from (if_neg (by omega)).trans (if_pos h0)]; unfold atell; rw [c9, ix_n (by omega), nI_add]
      · rw [g8, show anext P s δ = fol P s from if_pos (by omega)]
    · refine xr_tableIn (n := 91) (off := 65) dX6_stepFrom_26 (by omega) (by omega) (by rw [hx]; rfl) (by decide) ?_
      have h0 : P s 0 = 2 := by omega
      refine xr_aload_n (n := 92) dX6_stepFrom_91 rfl rfl ?_
      refine xr_callV (y2 := mX6_keepMark) (As := []) (n := 95) dX6_stepFrom_92 lm_X6_87 pm_X6_keepMark pi_X6_keepMark (by first | exact tat_0 (tput_at _ _ _) | exact tat_r (tput_at _ _ _) (by decide) | exact lat_0 (lat_t hL hd) | exact lat_r (lat_t hL hd) (by decide)) rfl rfl rfl (by simp [Value.category]) rfl ⟨Nat.le_refl _, Nat.le_refl _⟩ ?_
      refine s_X6_keepMark c6 (by omega) ?_
      dsimp only [xK, xps]
      refine xr_aload_n (n := 96) dX6_stepFrom_95 rfl rfl ?_
      refine xr_iload_n (n := 97) dX6_stepFrom_96 rfl rfl ?_
      refine xr_callV (y2 := mX1_followerAt) (As := [_]) (n := 100) dX6_stepFrom_97 lm_X6_80 pm_X1_followerAt pi_X1_followerAt (by first | exact tat_0 (tput_at _ _ _) | exact tat_r (tput_at _ _ _) (by decide) | exact lat_0 (lat_t hL hd) | exact lat_r (lat_t hL hd) (by decide)) rfl rfl rfl (by simp [Value.category]) rfl ⟨Nat.le_refl _, Nat.le_refl _⟩ ?_
      refine s_X1_followerAt (lat_t hL hd) hn hn2 hs ?_
      dsimp only [xK, xps]
      refine xr_ireturn dX6_stepFrom_100 rfl rfl rfl ?_
      refine qi (qm hq ?_) ?_
      · rw [show adata P s δ = amark δ from (if_neg (by omega)).trans ((if_neg (by omega)).trans (if_pos h0))]
      · rw [g8, show anext P s δ = fol P s from if_pos (by omega)]
    · refine xr_tableIn (n := 101) (off := 75) dX6_stepFrom_26 (by omega) (by omega) (by rw [hx]; rfl) (by decide) ?_
      have h0 : P s 0 = 3 := by omega
      obtain ⟨x, hx, hxe⟩ := c4 s (by omega)
      have h36 := k6 (by omega)
      have hmid : mid P s = P s 6 := if_pos h0
      have hpe : pend P s = P s 6 := if_pos (by omega)
      rw [hmid] at g6
      rw [hpe] at g7
      refine xr_aload_n (n := 102) dX6_stepFrom_101 rfl rfl ?_
      refine xr_iload_n (n := 103) dX6_stepFrom_102 rfl rfl ?_
      refine xr_iload (n := 105) dX6_stepFrom_103 rfl rfl ?_
      refine xr_callV (y2 := mX6_countLook) (As := [_, _]) (n := 108) dX6_stepFrom_105 lm_X6_90 pm_X6_countLook pi_X6_countLook (by first | exact tat_0 (tput_at _ _ _) | exact tat_r (tput_at _ _ _) (by decide) | exact lat_0 (lat_t hL hd) | exact lat_r (lat_t hL hd) (by decide)) rfl rfl rfl (by simp [Value.category]) rfl ⟨Nat.le_refl _, Nat.le_refl _⟩ ?_
      first | refine s_X6_countLook_1 (by omega) hxe (by omega) c7 c8 (by omega) ?_ | refine s_X6_countLook_0 (by omega) hxe (by omega) c7 c8 (by omega) ?_
      dsimp only [xK, xps]
      refine xr_goto (n := 111) dX6_stepFrom_108 (by decide) ?_
      refine xr_iload (n := 113) dX6_stepFrom_111 rfl rfl ?_
      refine xr_if_eq (tgt := 124) (n := 116) dX6_stepFrom_113 (by decide) rfl (fun h113 => by (exfalso; revert h113; decide)) (fun h113 => ?_)
      refine xr_aload_n (n := 117) dX6_stepFrom_116 rfl rfl ?_
      refine xr_iload_n (n := 118) dX6_stepFrom_117 rfl rfl ?_
      refine xr_callV (y2 := mX1_entered) (As := [_]) (n := 121) dX6_stepFrom_118 lm_X6_94 pm_X1_entered pi_X1_entered (by first | exact tat_0 (tput_at _ _ _) | exact tat_r (tput_at _ _ _) (by decide) | exact lat_0 (lat_t hL hd) | exact lat_r (lat_t hL hd) (by decide)) rfl rfl rfl (by simp [Value.category]) rfl ⟨Nat.le_refl _, Nat.le_refl _⟩ ?_
      refine s_X1_entered (lat_t hL hd) hn hn2 hs g6 (by omega) g0 (by omega) ?_
      dsimp only [xK, xps]
      refine xr_goto (n := 129) dX6_stepFrom_121 (by decide) ?_
      refine xr_ireturn dX6_stepFrom_129 rfl rfl rfl ?_
      have hA : adata P s δ = alook s δ := by
        unfold adata
        rw [if_neg (by omega), if_neg (by omega), if_neg (by omega), if_pos h0, if_pos hpos]
      have hN : anext P s δ = if s + 1 < P s 6 then s + 1 else s := by
        unfold anext
        rw [if_neg (by omega), if_pos h0, if_pos hpos]
      rw [hA, hN] at hq
      refine qi hq ?_
      by_cases e : s + 1 < P s 6
      · rw [if_pos e, if_pos e]
      · rw [if_neg e, if_neg e, if_pos (by omega)]

def tst (τ : xS) (u v : Int32) : Prop := (∀ i, i < 6 → τ 1 i = gini u v i) ∧ (∀ i, i < 60 → τ 4 i = nI 0) ∧ τ 5 0 = nI 0 ∧ τ 6 0 = nI 0 ∧ τ 7 0 = nI 0 ∧ τ 8 0 = nI 0 ∧ τ 9 0 = nI 0
theorem tst_C {τ : xS} {u v : Int32} (h : tst τ u v) (hi : inpt u v) : trC τ 0 0 0 0 0 := by
  obtain ⟨h1, h4, h5, h6, h7, h8, h9⟩ := h
  refine ⟨h5, h6, h7, h8, h9, by omega, by omega, by omega, by omega, by omega, fun k hk => ⟨0, by omega, h4 k hk⟩, fun i h => ?_⟩
  have h0 : (nI 0).toInt = 0 := nt 0 (by omega)
  rw [h1 i h]
  unfold gini
  split
  · exact hi.1
  · split
    · exact hi.2
    · omega
theorem s_X6_begin {G : xG} {d : Nat} {f : Nat → xC} {r : Nat × Nat} {Q : Option Value → xM → Prop} {a : Nat} {δ : xS} {u v : Int32}  (hq : ∀ τ, tst τ u v → Q none (tput f a τ, r)) : xMet G (d + 1) mX6_begin [.ref a, .int u, .int v] (tput f a δ, r) r Q := by
  refine xMet_0 (by decide +kernel) rfl (Nat.le_of_ble_eq_true rfl) ?_
  show xX G (d + 1) mX6_begin r r (xΦ G r r Q) 0 [(0, .ref a), (1, .int u), (2, .int v)] [] (tput f a δ, r)
  refine xr_iconst (v := nI 0) (n := 1) dX6_begin_0 (by decide) rfl ?_
  refine xq_istore_n 3 (n := 2) dX6_begin_1 rfl rfl rfl ?_
  simp only [xst, Nat.beq, List.filter, Bool.not_true, Bool.not_false]
  refine nat_down (P := fun k => xX G (d + 1) mX6_begin r r (xΦ G r r Q) 2 [(0, .ref a), (1, .int u), (2, .int v), (3, .int (nI k))] [] (tput f a (ur δ 1 (fo (fun _ => nI 0) (δ 1) 0 k)), r)) (N := 6) ?_ ?_ 0 (by omega)
  · refine xr_iload_n (n := 3) dX6_begin_2 rfl rfl ?_
    refine xr_bipush (v := nI 6) (n := 5) dX6_begin_3 (by decide) rfl ?_
    refine xr_icmp_ge (tgt := 21) (n := 8) dX6_begin_5 (by decide) rfl (fun h5 => ?_) (fun h5 => by (exfalso; ((try simp (disch := omega) only [i_lt, i_le, i_eq, nt, i_m1, Int32.toInt_zero] at *); omega)))
    refine xr_aload_n (n := 22) dX6_begin_21 rfl rfl ?_
    refine xr_get (n := 25) dX6_begin_22 fl_X6_18 (by first | exact tat_0 (tput_at _ _ _) | exact tat_r (tput_at _ _ _) (by decide) | exact lat_0 (lat_t hL hd) | exact lat_r (lat_t hL hd) (by decide)) (by rfl) rfl ?_
    refine xr_iconst (v := nI 0) (n := 26) dX6_begin_25 (by decide) rfl ?_
    refine xr_iload_n (n := 27) dX6_begin_26 rfl rfl ?_
    refine xq_iastore (n := 28) dX6_begin_27 (by first | exact tat_0 (tput_at _ _ _) | exact tat_r (tput_at _ _ _) (by decide) | exact lat_0 (lat_t hL hd) | exact lat_r (lat_t hL hd) (by decide)) (by first | exact vp_in_nI (by omega) (by omega)) rfl ?_
    simp (disch := omega) only [nI_clamp, List.set, tw_0, tw_1, tw_2, tw_3, tw_4, tw_5, tw_6, tw_7, tw_8, tw_9, tw_10]
    refine xr_aload_n (n := 29) dX6_begin_28 rfl rfl ?_
    refine xr_get (n := 32) dX6_begin_29 fl_X6_18 (by first | exact tat_0 (tput_at _ _ _) | exact tat_r (tput_at _ _ _) (by decide) | exact lat_0 (lat_t hL hd) | exact lat_r (lat_t hL hd) (by decide)) (by rfl) rfl ?_
    refine xr_iconst (v := nI 1) (n := 33) dX6_begin_32 (by decide) rfl ?_
    refine xr_iload_n (n := 34) dX6_begin_33 rfl rfl ?_
    refine xq_iastore (n := 35) dX6_begin_34 (by first | exact tat_0 (tput_at _ _ _) | exact tat_r (tput_at _ _ _) (by decide) | exact lat_0 (lat_t hL hd) | exact lat_r (lat_t hL hd) (by decide)) (by first | exact vp_in_nI (by omega) (by omega)) rfl ?_
    simp (disch := omega) only [nI_clamp, List.set, tw_0, tw_1, tw_2, tw_3, tw_4, tw_5, tw_6, tw_7, tw_8, tw_9, tw_10]
    refine xr_iconst (v := nI 0) (n := 36) dX6_begin_35 (by decide) rfl ?_
    refine xq_istore_n 3 (n := 37) dX6_begin_36 rfl rfl rfl ?_
    simp only [xst, Nat.beq, List.filter, Bool.not_true, Bool.not_false]
    generalize hκ : (up2 (up2 (ur δ 1 (fo (fun _ => nI 0) (δ 1) 0 6)) 1 0 u) 1 1 v) = κ
    rw [show tput f a κ = tput f a (ur κ 4 (fo (fun _ => nI 0) (κ 4) 0 0)) from by rw [ur_fo0]]
    refine nat_down (P := fun k => xX G (d + 1) mX6_begin r r (xΦ G r r Q) 37 [(0, .ref a), (1, .int u), (2, .int v), (3, .int (nI k))] [] (tput f a (ur κ 4 (fo (fun _ => nI 0) (κ 4) 0 k)), r)) (N := 60) ?_ ?_ 0 (by omega)
    · refine xr_iload_n (n := 38) dX6_begin_37 rfl rfl ?_
      refine xr_bipush (v := nI 60) (n := 40) dX6_begin_38 (by decide) rfl ?_
      refine xr_icmp_ge (tgt := 56) (n := 43) dX6_begin_40 (by decide) rfl (fun h40 => ?_) (fun h40 => by (exfalso; ((try simp (disch := omega) only [i_lt, i_le, i_eq, nt, i_m1, Int32.toInt_zero] at *); omega)))
      refine xr_aload_n (n := 57) dX6_begin_56 rfl rfl ?_
      refine xr_get (n := 60) dX6_begin_57 fl_X6_12 (by first | exact tat_0 (tput_at _ _ _) | exact tat_r (tput_at _ _ _) (by decide) | exact lat_0 (lat_t hL hd) | exact lat_r (lat_t hL hd) (by decide)) (by rfl) rfl ?_
      refine xr_callV (y2 := mX2_begin) (As := []) (n := 63) dX6_begin_60 lm_X6_53 pm_X2_begin pi_X2_begin (by first | exact tat_0 (tput_at _ _ _) | exact tat_r (tput_at _ _ _) (by decide) | exact lat_0 (lat_t hL hd) | exact lat_r (lat_t hL hd) (by decide)) rfl rfl rfl (by simp [Value.category]) rfl ⟨Nat.le_refl _, Nat.le_refl _⟩ ?_
      refine s_X2_begin_t ?_
      dsimp only [xK, xps]
      refine xr_aload_n (n := 64) dX6_begin_63 rfl rfl ?_
      refine xr_iconst (v := nI 0) (n := 65) dX6_begin_64 (by decide) rfl ?_
      refine xq_put (n := 68) dX6_begin_65 fl_X6_45 rfl (by first | exact tat_0 (tput_at _ _ _) | exact tat_r (tput_at _ _ _) (by decide) | exact lat_0 (lat_t hL hd) | exact lat_r (lat_t hL hd) (by decide)) (by rfl) (by rfl) (by rfl) rfl ?_
      simp (disch := omega) only [nI_clamp, List.set, tw_0, tw_1, tw_2, tw_3, tw_4, tw_5, tw_6, tw_7, tw_8, tw_9, tw_10]
      refine xr_aload_n (n := 69) dX6_begin_68 rfl rfl ?_
      refine xr_iconst (v := nI 0) (n := 70) dX6_begin_69 (by decide) rfl ?_
      refine xq_put (n := 73) dX6_begin_70 fl_X6_55 rfl (by first | exact tat_0 (tput_at _ _ _) | exact tat_r (tput_at _ _ _) (by decide) | exact lat_0 (lat_t hL hd) | exact lat_r (lat_t hL hd) (by decide)) (by rfl) (by rfl) (by rfl) rfl ?_
      simp (disch := omega) only [nI_clamp, List.set, tw_0, tw_1, tw_2, tw_3, tw_4, tw_5, tw_6, tw_7, tw_8, tw_9, tw_10]
      refine xr_aload_n (n := 74) dX6_begin_73 rfl rfl ?_
      refine xr_iconst (v := nI 0) (n := 75) dX6_begin_74 (by decide) rfl ?_
      refine xq_put (n := 78) dX6_begin_75 fl_X6_58 rfl (by first | exact tat_0 (tput_at _ _ _) | exact tat_r (tput_at _ _ _) (by decide) | exact lat_0 (lat_t hL hd) | exact lat_r (lat_t hL hd) (by decide)) (by rfl) (by rfl) (by rfl) rfl ?_
      simp (disch := omega) only [nI_clamp, List.set, tw_0, tw_1, tw_2, tw_3, tw_4, tw_5, tw_6, tw_7, tw_8, tw_9, tw_10]
      refine xr_aload_n (n := 79) dX6_begin_78 rfl rfl ?_
      refine xr_iconst (v := nI 0) (n := 80) dX6_begin_79 (by decide) rfl ?_
      refine xq_put (n := 83) dX6_begin_80 fl_X6_61 rfl (by first | exact tat_0 (tput_at _ _ _) | exact tat_r (tput_at _ _ _) (by decide) | exact lat_0 (lat_t hL hd) | exact lat_r (lat_t hL hd) (by decide)) (by rfl) (by rfl) (by rfl) rfl ?_
      simp (disch := omega) only [nI_clamp, List.set, tw_0, tw_1, tw_2, tw_3, tw_4, tw_5, tw_6, tw_7, tw_8, tw_9, tw_10]
      refine xr_return dX6_begin_83 rfl rfl ?_
      refine hq _ ⟨fun i hi => ?_, fun i hi => ?_, ?_, ?_, ?_, ?_, ?_⟩
      · rw [up2_n _ _ _ (by omega), up2_n _ _ _ (by omega), up2_n _ _ _ (by omega), up2_n _ _ _ (by omega), up2_n _ _ _ (by omega), ur_n _ _ (by omega), ← hκ]
        unfold gini
        by_cases e1 : i = 1
        · subst e1; rw [up2_ss]; rfl
        · rw [up2_sn _ _ _ e1, if_neg e1]
          by_cases e0 : i = 0
          · subst e0; rw [up2_ss]; rfl
          · rw [up2_sn _ _ _ e0, if_neg e0, ur_s, fo_in (by omega) (by omega)]
      · rw [up2_n _ _ _ (by omega), up2_n _ _ _ (by omega), up2_n _ _ _ (by omega), up2_n _ _ _ (by omega), up2_n _ _ _ (by omega), ur_s, fo_in (by omega) (by omega)]
      · rw [up2_n _ _ _ (by omega), up2_n _ _ _ (by omega), up2_n _ _ _ (by omega), up2_ss]
      · rw [up2_n _ _ _ (by omega), up2_n _ _ _ (by omega), up2_ss]
      · rw [up2_n _ _ _ (by omega), up2_ss]
      · rw [up2_ss]
      · rw [up2_n _ _ _ (by omega), up2_n _ _ _ (by omega), up2_n _ _ _ (by omega), up2_n _ _ _ (by omega), up2_ss]
    · intro k hk ih2
      refine xr_iload_n (n := 38) dX6_begin_37 rfl rfl ?_
      refine xr_bipush (v := nI 60) (n := 40) dX6_begin_38 (by decide) rfl ?_
      refine xr_icmp_ge (tgt := 56) (n := 43) dX6_begin_40 (by decide) rfl (fun h40 => by (exfalso; ((try simp (disch := omega) only [i_lt, i_le, i_eq, nt, i_m1, Int32.toInt_zero] at *); omega))) (fun h40 => ?_)
      refine xr_aload_n (n := 44) dX6_begin_43 rfl rfl ?_
      refine xr_get (n := 47) dX6_begin_44 fl_X6_28 (by first | exact tat_0 (tput_at _ _ _) | exact tat_r (tput_at _ _ _) (by decide) | exact lat_0 (lat_t hL hd) | exact lat_r (lat_t hL hd) (by decide)) (by rfl) rfl ?_
      refine xr_iload_n (n := 48) dX6_begin_47 rfl rfl ?_
      refine xr_iconst (v := nI 0) (n := 49) dX6_begin_48 (by decide) rfl ?_
      refine xq_iastore (n := 50) dX6_begin_49 (by first | exact tat_0 (tput_at _ _ _) | exact tat_r (tput_at _ _ _) (by decide) | exact lat_0 (lat_t hL hd) | exact lat_r (lat_t hL hd) (by decide)) (by first | exact vp_in_nI (by omega) (by omega)) rfl ?_
      simp (disch := omega) only [nI_clamp, List.set, tw_0, tw_1, tw_2, tw_3, tw_4, tw_5, tw_6, tw_7, tw_8, tw_9, tw_10]
      refine xr_iinc (n := 53) dX6_begin_50 rfl rfl (rfl) rfl ?_
      simp only [xst, Nat.beq, List.filter, Bool.not_true, Bool.not_false]
      (first | (simp (disch := omega) only [nI_clamp, pk_mul, nI_add, oi1, up2_ss, up2_n, up2_sn, ur_s, ur_n, Nat.reduceMul, Nat.reduceAdd, Nat.add_zero]) | skip)
      refine xr_goto (n := 37) dX6_begin_53 (by decide) ?_
      refine xX.eq rfl rfl rfl ?_ ih2
      rw [← ur_fo (g := fun _ => nI 0) (v := nI 0) rfl, Nat.zero_add]
  · intro k hk ih
    refine xr_iload_n (n := 3) dX6_begin_2 rfl rfl ?_
    refine xr_bipush (v := nI 6) (n := 5) dX6_begin_3 (by decide) rfl ?_
    refine xr_icmp_ge (tgt := 21) (n := 8) dX6_begin_5 (by decide) rfl (fun h5 => by (exfalso; ((try simp (disch := omega) only [i_lt, i_le, i_eq, nt, i_m1, Int32.toInt_zero] at *); omega))) (fun h5 => ?_)
    refine xr_aload_n (n := 9) dX6_begin_8 rfl rfl ?_
    refine xr_get (n := 12) dX6_begin_9 fl_X6_18 (by first | exact tat_0 (tput_at _ _ _) | exact tat_r (tput_at _ _ _) (by decide) | exact lat_0 (lat_t hL hd) | exact lat_r (lat_t hL hd) (by decide)) (by rfl) rfl ?_
    refine xr_iload_n (n := 13) dX6_begin_12 rfl rfl ?_
    refine xr_iconst (v := nI 0) (n := 14) dX6_begin_13 (by decide) rfl ?_
    refine xq_iastore (n := 15) dX6_begin_14 (by first | exact tat_0 (tput_at _ _ _) | exact tat_r (tput_at _ _ _) (by decide) | exact lat_0 (lat_t hL hd) | exact lat_r (lat_t hL hd) (by decide)) (by first | exact vp_in_nI (by omega) (by omega)) rfl ?_
    simp (disch := omega) only [nI_clamp, List.set, tw_0, tw_1, tw_2, tw_3, tw_4, tw_5, tw_6, tw_7, tw_8, tw_9, tw_10]
    refine xr_iinc (n := 18) dX6_begin_15 rfl rfl (rfl) rfl ?_
    simp only [xst, Nat.beq, List.filter, Bool.not_true, Bool.not_false]
    (first | (simp (disch := omega) only [nI_clamp, pk_mul, nI_add, oi1, up2_ss, up2_n, up2_sn, ur_s, ur_n, Nat.reduceMul, Nat.reduceAdd, Nat.add_zero]) | skip)
    refine xr_goto (n := 2) dX6_begin_18 (by decide) ?_
    refine xX.eq rfl rfl rfl ?_ ih
    rw [← ur_fo (g := fun _ => nI 0) (v := nI 0) rfl, Nat.zero_add]

theorem s_X6_follow {G : xG} {d : Nat} {f : Nat → xC} {r : Nat × Nat} {Q : Option Value → xM → Prop} {a b n : Nat} {σ δ : xS} {P : Nat → Nat → Nat} {u v : Int32} (hL : lat f b σ) (hd : b + 10 ≤ a ∨ a + 7 ≤ b) (hP : LsP σ n P) (hO : okP n P) (hi : inpt u v) (hq : ∀ τ, tst τ u v → Q none (tput f a (up2 (arun n P 400 0 τ).2 10 0 (cutD n (arun n P 400 0 τ))), r)) : xMet G (d + 7) mX6_follow [.ref a, .ref b, .int u, .int v] (tput f a δ, r) r Q := by
  refine xMet_0 (by decide +kernel) rfl (Nat.le_of_ble_eq_true rfl) ?_
  show xX G (d + 7) mX6_follow r r (xΦ G r r Q) 0 [(0, .ref a), (1, .ref b), (2, .int u), (3, .int v)] [] (tput f a δ, r)
  obtain ⟨hn, hn2, hS⟩ := id hP
  refine xr_aload_n (n := 1) dX6_follow_0 rfl rfl ?_
  refine xr_iload_n (n := 2) dX6_follow_1 rfl rfl ?_
  refine xr_iload_n (n := 3) dX6_follow_2 rfl rfl ?_
  refine xr_callV (y2 := mX6_begin) (As := [_, _]) (n := 6) dX6_follow_3 lm_X6_31 pm_X6_begin pi_X6_begin (by first | exact tat_0 (tput_at _ _ _) | exact tat_r (tput_at _ _ _) (by decide) | exact lat_0 (lat_t hL hd) | exact lat_r (lat_t hL hd) (by decide)) rfl rfl rfl (by simp [Value.category]) rfl ⟨Nat.le_refl _, Nat.le_refl _⟩ ?_
  refine s_X6_begin (fun τ hτ => ?_)
  dsimp only [xK, xps]
  refine xr_iconst (v := nI 0) (n := 7) dX6_follow_6 (by decide) rfl ?_
  refine xr_istore (n := 9) dX6_follow_7 rfl rfl ?_
  simp only [xst, Nat.beq, List.filter, Bool.not_true, Bool.not_false]
  refine xr_iconst (v := nI 0) (n := 10) dX6_follow_9 (by decide) rfl ?_
  refine xr_istore (n := 12) dX6_follow_10 rfl rfl ?_
  simp only [xst, Nat.beq, List.filter, Bool.not_true, Bool.not_false]
  have key : ∀ t, t ≤ 400 → ∀ (s : Nat) (κ : xS) (mk rd mo tl : Nat), s ≤ n → trC κ t mk rd mo tl → arun n P 400 0 τ = arun n P (400 - t) s κ → xX G (d + 7) mX6_follow r r (xΦ G r r Q) 12 [(0, .ref a), (1, .ref b), (2, .int u), (3, .int v), (4, .int (nI s)), (5, .int (nI t))] [] (tput f a κ, r) := by
    refine nat_down (P := fun t => ∀ (s : Nat) (κ : xS) (mk rd mo tl : Nat), s ≤ n → trC κ t mk rd mo tl → arun n P 400 0 τ = arun n P (400 - t) s κ → xX G (d + 7) mX6_follow r r (xΦ G r r Q) 12 [(0, .ref a), (1, .ref b), (2, .int u), (3, .int v), (4, .int (nI s)), (5, .int (nI t))] [] (tput f a κ, r)) (N := 400) ?_ ?_
    · intro s κ mk rd mo tl hs hC hR
      have hE : arun n P (400 - 400) s κ = (s, κ) := rfl
      refine xr_iload (n := 14) dX6_follow_12 rfl rfl ?_
      refine xr_sipush (v := nI 400) (n := 17) dX6_follow_14 (by decide) rfl ?_
      refine xr_icmp_ge (tgt := 54) (n := 20) dX6_follow_17 (by decide) rfl (fun h17 => ?_) (fun h17 => by (exfalso; ((try simp (disch := omega) only [i_lt, i_le, i_eq, nt, i_m1, Int32.toInt_zero] at *); omega)))
      refine xr_aload_n (n := 55) dX6_follow_54 rfl rfl ?_
      refine xr_get (n := 58) dX6_follow_55 fl_X6_12 (by first | exact tat_0 (tput_at _ _ _) | exact tat_r (tput_at _ _ _) (by decide) | exact lat_0 (lat_t hL hd) | exact lat_r (lat_t hL hd) (by decide)) (by rfl) rfl ?_
      refine xr_aload_n (n := 59) dX6_follow_58 rfl rfl ?_
      refine xr_iload (n := 61) dX6_follow_59 rfl rfl ?_
      refine xr_callV (y2 := mX1_holds) (As := [_]) (n := 64) dX6_follow_61 lm_X6_35 pm_X1_holds pi_X1_holds (by first | exact tat_0 (tput_at _ _ _) | exact tat_r (tput_at _ _ _) (by decide) | exact lat_0 (lat_t hL hd) | exact lat_r (lat_t hL hd) (by decide)) rfl rfl rfl (by simp [Value.category]) rfl ⟨Nat.le_refl _, Nat.le_refl _⟩ ?_
      refine s_X1_holds (lat_t hL hd) hn hn2 ?_
      rw [b2i_iff (q := s < n) (by rw [nt _ (by omega)]; omega)]
      dsimp only [xK, xps]
      refine xq_put (n := 67) dX6_follow_64 fl_X6_49 rfl (by first | exact tat_0 (tput_at _ _ _) | exact tat_r (tput_at _ _ _) (by decide) | exact lat_0 (lat_t hL hd) | exact lat_r (lat_t hL hd) (by decide)) (by rfl) (b2i_nar) (by (unfold b2i; split <;> first | rfl | decide +kernel)) rfl ?_
      simp (disch := omega) only [nI_clamp, List.set, tw_0, tw_1, tw_2, tw_3, tw_4, tw_5, tw_6, tw_7, tw_8, tw_9, tw_10]
      refine xr_return dX6_follow_67 rfl rfl ?_
      have hq := hq τ hτ
      rw [hR, hE] at hq
      exact hq
    · intro k hk ih s κ mk rd mo tl hs hC hR
      refine xr_iload (n := 14) dX6_follow_12 rfl rfl ?_
      refine xr_sipush (v := nI 400) (n := 17) dX6_follow_14 (by decide) rfl ?_
      refine xr_icmp_ge (tgt := 54) (n := 20) dX6_follow_17 (by decide) rfl (fun h17 => by (exfalso; ((try simp (disch := omega) only [i_lt, i_le, i_eq, nt, i_m1, Int32.toInt_zero] at *); omega))) (fun h17 => ?_)
      refine xr_aload_n (n := 21) dX6_follow_20 rfl rfl ?_
      refine xr_iload (n := 23) dX6_follow_21 rfl rfl ?_
      refine xr_callV (y2 := mX1_holds) (As := [_]) (n := 26) dX6_follow_23 lm_X6_35 pm_X1_holds pi_X1_holds (by first | exact tat_0 (tput_at _ _ _) | exact tat_r (tput_at _ _ _) (by decide) | exact lat_0 (lat_t hL hd) | exact lat_r (lat_t hL hd) (by decide)) rfl rfl rfl (by simp [Value.category]) rfl ⟨Nat.le_refl _, Nat.le_refl _⟩ ?_
      refine s_X1_holds (lat_t hL hd) hn hn2 ?_
      rw [b2i_iff (q := s < n) (by rw [nt _ (by omega)]; omega)]
      dsimp only [xK, xps]
      refine xr_beq (tgt := 54) (n := 29) dX6_follow_26 (by decide) rfl (fun h26 => ?_) (fun h26 => ?_)
      · refine xr_aload_n (n := 55) dX6_follow_54 rfl rfl ?_
        refine xr_get (n := 58) dX6_follow_55 fl_X6_12 (by first | exact tat_0 (tput_at _ _ _) | exact tat_r (tput_at _ _ _) (by decide) | exact lat_0 (lat_t hL hd) | exact lat_r (lat_t hL hd) (by decide)) (by rfl) rfl ?_
        refine xr_aload_n (n := 59) dX6_follow_58 rfl rfl ?_
        refine xr_iload (n := 61) dX6_follow_59 rfl rfl ?_
        refine xr_callV (y2 := mX1_holds) (As := [_]) (n := 64) dX6_follow_61 lm_X6_35 pm_X1_holds pi_X1_holds (by first | exact tat_0 (tput_at _ _ _) | exact tat_r (tput_at _ _ _) (by decide) | exact lat_0 (lat_t hL hd) | exact lat_r (lat_t hL hd) (by decide)) rfl rfl rfl (by simp [Value.category]) rfl ⟨Nat.le_refl _, Nat.le_refl _⟩ ?_
        refine s_X1_holds (lat_t hL hd) hn hn2 ?_
        rw [b2i_iff (q := s < n) (by rw [nt _ (by omega)]; omega)]
        dsimp only [xK, xps]
        refine xq_put (n := 67) dX6_follow_64 fl_X6_49 rfl (by first | exact tat_0 (tput_at _ _ _) | exact tat_r (tput_at _ _ _) (by decide) | exact lat_0 (lat_t hL hd) | exact lat_r (lat_t hL hd) (by decide)) (by rfl) (b2i_nar) (by (unfold b2i; split <;> first | rfl | decide +kernel)) rfl ?_
        simp (disch := omega) only [nI_clamp, List.set, tw_0, tw_1, tw_2, tw_3, tw_4, tw_5, tw_6, tw_7, tw_8, tw_9, tw_10]
        refine xr_return dX6_follow_67 rfl rfl ?_
        have hE := arun_end (P := P) (g := 400 - k) (δ := κ) h26
        have hq := hq τ hτ
        rw [hR, hE] at hq
        exact hq
      · refine xr_aload_n (n := 30) dX6_follow_29 rfl rfl ?_
        refine xr_aload_n (n := 31) dX6_follow_30 rfl rfl ?_
        refine xr_iload (n := 33) dX6_follow_31 rfl rfl ?_
        refine xr_callV (y2 := mX6_stepFrom) (As := [_, _]) (n := 36) dX6_follow_33 lm_X6_41 pm_X6_stepFrom pi_X6_stepFrom (by first | exact tat_0 (tput_at _ _ _) | exact tat_r (tput_at _ _ _) (by decide) | exact lat_0 (lat_t hL hd) | exact lat_r (lat_t hL hd) (by decide)) rfl rfl rfl (by simp [Value.category]) rfl ⟨Nat.le_refl _, Nat.le_refl _⟩ ?_
        have hC5 := hC.1
        refine s_X6_stepFrom hL hd hP hO h26 hC hk ?_
        dsimp only [xK, xps]
        refine xr_istore (n := 38) dX6_follow_36 rfl rfl ?_
        simp only [xst, Nat.beq, List.filter, Bool.not_true, Bool.not_false]
        refine xr_aload_n (n := 39) dX6_follow_38 rfl rfl ?_
        refine xr_dup (n := 40) dX6_follow_39 rfl rfl ?_
        refine xr_get (n := 43) dX6_follow_40 fl_X6_45 (by first | exact tat_0 (tput_at _ _ _) | exact tat_r (tput_at _ _ _) (by decide) | exact lat_0 (lat_t hL hd) | exact lat_r (lat_t hL hd) (by decide)) (by rfl) rfl ?_
        (first | (simp (disch := omega) only [nI_clamp, pk_mul, nI_add, oi1, up2_ss, up2_n, up2_sn, ur_s, ur_n, Nat.reduceMul, Nat.reduceAdd, Nat.add_zero]) | skip)
        refine xr_iconst (v := nI 1) (n := 44) dX6_follow_43 (by decide) rfl ?_
        refine xr_iadd (n := 45) dX6_follow_44 rfl ?_
        (first | (simp (disch := omega) only [nI_clamp, pk_mul, nI_add, oi1, up2_ss, up2_n, up2_sn, ur_s, ur_n, Nat.reduceMul, Nat.reduceAdd, Nat.add_zero]) | skip)
        refine xq_put (n := 48) dX6_follow_45 fl_X6_45 rfl (by first | exact tat_0 (tput_at _ _ _) | exact tat_r (tput_at _ _ _) (by decide) | exact lat_0 (lat_t hL hd) | exact lat_r (lat_t hL hd) (by decide)) (by rfl) (by rfl) (by rfl) rfl ?_
        simp (disch := omega) only [nI_clamp, List.set, tw_0, tw_1, tw_2, tw_3, tw_4, tw_5, tw_6, tw_7, tw_8, tw_9, tw_10]
        refine xr_iinc (n := 51) dX6_follow_48 rfl rfl (rfl) rfl ?_
        simp only [xst, Nat.beq, List.filter, Bool.not_true, Bool.not_false]
        (first | (simp (disch := omega) only [nI_clamp, pk_mul, nI_add, oi1, up2_ss, up2_n, up2_sn, ur_s, ur_n, Nat.reduceMul, Nat.reduceAdd, Nat.add_zero]) | skip)
        refine xr_goto (n := 12) dX6_follow_51 (by decide) ?_
        obtain ⟨mk', rd', mo', tl', hC2⟩ := trC_step hO h26 hC hk
        exact ih _ _ mk' rd' mo' tl' (anext_le hO h26 κ) hC2 (hR.trans (arun_step hk h26))
  exact key 0 (by omega) 0 τ 0 0 0 0 (Nat.zero_le _) (tst_C hτ hi) rfl
