/-! the class: a statement is taken out -/
def lmv (σ : xS) (i j : Nat) : xS := up2 (up2 (up2 (up2 (up2 (up2 (up2 (up2 σ 0 j (σ 0 i)) 1 j (σ 1 i)) 2 j (σ 2 i)) 3 j (σ 3 i)) 4 j (σ 4 i)) 5 j (σ 5 i)) 6 j (σ 6 i)) 7 j (σ 7 i)
theorem lmv_a {σ : xS} {i j w q : Nat} : lmv σ i j w q = if w < 8 ∧ q = j then σ w i else σ w q := by
  by_cases hw : w < 8
  · have hw8 : w = 0 ∨ w = 1 ∨ w = 2 ∨ w = 3 ∨ w = 4 ∨ w = 5 ∨ w = 6 ∨ w = 7 := by omega
    unfold lmv
    by_cases hq : q = j
    · rw [if_pos ⟨hw, hq⟩]
      subst hq
      rcases hw8 with rfl | rfl | rfl | rfl | rfl | rfl | rfl | rfl <;> simp (disch := omega) only [up2_n, up2_ss]
    · rw [if_neg (fun z => hq z.2)]
      rcases hw8 with rfl | rfl | rfl | rfl | rfl | rfl | rfl | rfl <;> simp (disch := omega) only [up2_n, up2_sn]
  · rw [if_neg (fun z => hw z.1)]
    unfold lmv
    simp (disch := omega) only [up2_n]
def pwI (v : Int32) (s z : Nat) : Int32 := if nI s < v then v - nI z else v
theorem pwI_n {v s z : Nat} (hv : v ≤ 60) (hs : s < 60) (h : s < v → z ≤ v) : pwI (nI v) s z = nI (pw s z v) := by
  unfold pwI pw
  by_cases e : s < v
  · rw [if_pos e, if_pos (by rw [i_lt, nt _ (by omega), nt _ (by omega)]; omega), pk_sub (h e)]
  · rw [if_neg e, if_neg (by rw [i_lt, nt _ (by omega), nt _ (by omega)]; omega)]
theorem srcc_pw {s z k : Nat} (hz : 0 < z) (h : srcc s z k ≠ s) : pw s z (srcc s z k) = k ∧ (s < srcc s z k → z ≤ srcc s z k) := by
  by_cases e : k < s
  · have e1 : srcc s z k = k := if_pos e
    rw [e1]
    exact ⟨if_neg (by omega), fun q => by omega⟩
  · have e1 : srcc s z k = k + z := if_neg e
    rw [e1]
    refine ⟨?_, fun q => by omega⟩
    unfold pw
    rw [if_pos (by omega)]
    omega
theorem pwI_o {n s j : Nat} {P : Nat → Nat → Nat} (hO : okP n P) (hL : lam n P) (hs : s < n) (hj : j < n - psz P s) : pwI (oui (outr P (srcc s (psz P s) j) (srcc s (psz P s) j))) s (psz P s) = oui (outr (pcut P s) j j) := by
  obtain ⟨h0, h1⟩ := outr_pcut hO hL hs hj
  have hn := hO.1
  obtain ⟨hz, hzn, -⟩ := psz_bd hO hs
  cases h : outr P (srcc s (psz P s) j) (srcc s (psz P s) j) with
  | zero =>
    rw [h0 h]
    unfold pwI oui
    rw [if_pos rfl, if_neg (by rw [i_lt, i_m1, nt _ (by omega)]; omega)]
  | succ k =>
    obtain ⟨k', hk, hk', hks, he⟩ := h1 k h
    rw [he]
    have e1 : oui (k + 1) = nI k := by unfold oui; rw [if_neg (by omega)]; rfl
    have e2 : oui (k' + 1) = nI k' := by unfold oui; rw [if_neg (by omega)]; rfl
    have hkn : k < n := by
      have := (outr_k h).1
      have := srcc_n (s := s) hj hzn
      omega
    have hpp := srcc_pw (s := s) (z := psz P s) (k := k') (by omega) (by rw [← hk]; exact hks)
    rw [e1, e2, pwI_n (by omega) (by omega) (fun q => by rw [hk] at q ⊢; exact hpp.2 q), hk, hpp.1]
theorem pz_le {n s j z : Nat} {P : Nat → Nat → Nat} (hO : okP n P) (hL : lam n P) (hs : s < n) (hj : j < n) (hz : psz P s = z) (hpe : pend P s = s + z) (ho : j < s ∨ s + z ≤ j) (h : s < pend P j) : z ≤ pend P j := by
  by_cases h3 : 3 ≤ P j 0
  · have e : pend P j = P j 6 := if_pos h3
    rw [e] at h ⊢
    have := cut_b6 hO hL hs hj h3 (by rw [hz]; exact ho) h
    omega
  · have e : pend P j = j + 1 := if_neg h3
    omega
theorem mz_le {n s j z : Nat} {P : Nat → Nat → Nat} (hO : okP n P) (hL : lam n P) (hs : s < n) (hj : j < n) (hz : psz P s = z) (hpe : pend P s = s + z) (ho : j < s ∨ s + z ≤ j) (h : s < mid P j) : z ≤ mid P j := by
  unfold mid at *
  by_cases h3 : P j 0 = 3
  · rw [if_pos h3] at *
    have := cut_b6 hO hL hs hj (by omega) (by rw [hz]; exact ho) h
    omega
  · rw [if_neg h3] at *
    by_cases h4 : P j 0 = 4
    · rw [if_pos h4] at *
      have := cut_b5 hO hL hs hj h4 (by rw [hz]; exact ho) h
      omega
    · rw [if_neg h4] at *
      omega
theorem s_X1_moveDown {G : xG} {d : Nat} {f : Nat → xC} {r : Nat × Nat} {Q : Option Value → xM → Prop} {a n i j : Nat} {σ : xS} (hn : σ 9 0 = nI n) (hn2 : n ≤ 60) (hi : i < n) (hj : j < n) (hq : Q none (lput f a (lmv σ i j), r)) : xMet G (d + 2) mX1_moveDown [.ref a, .int (nI i), .int (nI j)] (lput f a σ, r) r Q := by
  refine xMet_0 (by decide +kernel) rfl (Nat.le_of_ble_eq_true rfl) ?_
  show xX G (d + 2) mX1_moveDown r r (xΦ G r r Q) 0 [(0, .ref a), (1, .int (nI i)), (2, .int (nI j))] [] (lput f a σ, r)
  refine xr_aload_n (n := 1) dX1_moveDown_0 rfl rfl ?_
  refine xr_iload_n (n := 2) dX1_moveDown_1 rfl rfl ?_
  refine xr_callV (y2 := mX1_holds) (As := [_]) (n := 5) dX1_moveDown_2 lm_X1_47 pm_X1_holds pi_X1_holds (by first | exact lat_0 (lput_at _ _ _) | exact lat_r (lput_at _ _ _) (by decide)) rfl rfl rfl (by simp [Value.category]) rfl ⟨Nat.le_refl _, Nat.le_refl _⟩ ?_
  refine s_X1_holds (lput_at _ _ _) hn hn2 ?_
  dsimp only [xK, xps]
  refine xr_beq (tgt := 112) (n := 8) dX1_moveDown_5 (by decide) rfl (fun h5 => ?_) (fun h5 => ?_)
  · exact absurd (ib_s hi hn2) h5
  · refine xr_aload_n (n := 9) dX1_moveDown_8 rfl rfl ?_
    refine xr_iload_n (n := 10) dX1_moveDown_9 rfl rfl ?_
    refine xr_callV (y2 := mX1_holds) (As := [_]) (n := 13) dX1_moveDown_10 lm_X1_47 pm_X1_holds pi_X1_holds (by first | exact lat_0 (lput_at _ _ _) | exact lat_r (lput_at _ _ _) (by decide)) rfl rfl rfl (by simp [Value.category]) rfl ⟨Nat.le_refl _, Nat.le_refl _⟩ ?_
    refine s_X1_holds (lput_at _ _ _) hn hn2 ?_
    dsimp only [xK, xps]
    refine xr_beq (tgt := 112) (n := 16) dX1_moveDown_13 (by decide) rfl (fun h13 => ?_) (fun h13 => ?_)
    · exact absurd (ib_s hj hn2) h13
    · refine xr_aload_n (n := 17) dX1_moveDown_16 rfl rfl ?_
      refine xr_get (n := 20) dX1_moveDown_17 fl_X1_9 (by first | exact lat_0 (lput_at _ _ _) | exact lat_r (lput_at _ _ _) (by decide)) (by rfl) rfl ?_
      refine xr_iload_n (n := 21) dX1_moveDown_20 rfl rfl ?_
      refine xr_aload_n (n := 22) dX1_moveDown_21 rfl rfl ?_
      refine xr_get (n := 25) dX1_moveDown_22 fl_X1_9 (by first | exact lat_0 (lput_at _ _ _) | exact lat_r (lput_at _ _ _) (by decide)) (by rfl) rfl ?_
      refine xr_iload_n (n := 26) dX1_moveDown_25 rfl rfl ?_
      refine xr_iaload (n := 27) dX1_moveDown_26 (by first | exact lat_0 (lput_at _ _ _) | exact lat_r (lput_at _ _ _) (by decide)) (by first | exact vp_in_nI (by omega) (by omega)) rfl ?_
      (first | (simp (disch := omega) only [nI_clamp, pk_mul, nI_add, oi1, up2_ss, up2_n, up2_sn, ur_s, ur_n, Nat.reduceMul, Nat.reduceAdd, Nat.add_zero]) | skip)
      refine xq_iastore (n := 28) dX1_moveDown_27 (by first | exact lat_0 (lput_at _ _ _) | exact lat_r (lput_at _ _ _) (by decide)) (by first | exact vp_in_nI (by omega) (by omega)) rfl ?_
      simp (disch := omega) only [nI_clamp, List.set, lw_0, lw_1, lw_2, lw_3, lw_4, lw_5, lw_6, lw_7, lw_8, lw_9]
      refine xr_aload_n (n := 29) dX1_moveDown_28 rfl rfl ?_
      refine xr_get (n := 32) dX1_moveDown_29 fl_X1_15 (by first | exact lat_0 (lput_at _ _ _) | exact lat_r (lput_at _ _ _) (by decide)) (by rfl) rfl ?_
      refine xr_iload_n (n := 33) dX1_moveDown_32 rfl rfl ?_
      refine xr_aload_n (n := 34) dX1_moveDown_33 rfl rfl ?_
      refine xr_get (n := 37) dX1_moveDown_34 fl_X1_15 (by first | exact lat_0 (lput_at _ _ _) | exact lat_r (lput_at _ _ _) (by decide)) (by rfl) rfl ?_
      refine xr_iload_n (n := 38) dX1_moveDown_37 rfl rfl ?_
      refine xr_iaload (n := 39) dX1_moveDown_38 (by first | exact lat_0 (lput_at _ _ _) | exact lat_r (lput_at _ _ _) (by decide)) (by first | exact vp_in_nI (by omega) (by omega)) rfl ?_
      (first | (simp (disch := omega) only [nI_clamp, pk_mul, nI_add, oi1, up2_ss, up2_n, up2_sn, ur_s, ur_n, Nat.reduceMul, Nat.reduceAdd, Nat.add_zero]) | skip)
      refine xq_iastore (n := 40) dX1_moveDown_39 (by first | exact lat_0 (lput_at _ _ _) | exact lat_r (lput_at _ _ _) (by decide)) (by first | exact vp_in_nI (by omega) (by omega)) rfl ?_
      simp (disch := omega) only [nI_clamp, List.set, lw_0, lw_1, lw_2, lw_3, lw_4, lw_5, lw_6, lw_7, lw_8, lw_9]
      refine xr_aload_n (n := 41) dX1_moveDown_40 rfl rfl ?_
      refine xr_get (n := 44) dX1_moveDown_41 fl_X1_18 (by first | exact lat_0 (lput_at _ _ _) | exact lat_r (lput_at _ _ _) (by decide)) (by rfl) rfl ?_
      refine xr_iload_n (n := 45) dX1_moveDown_44 rfl rfl ?_
      refine xr_aload_n (n := 46) dX1_moveDown_45 rfl rfl ?_
      refine xr_get (n := 49) dX1_moveDown_46 fl_X1_18 (by first | exact lat_0 (lput_at _ _ _) | exact lat_r (lput_at _ _ _) (by decide)) (by rfl) rfl ?_
      refine xr_iload_n (n := 50) dX1_moveDown_49 rfl rfl ?_
      refine xr_iaload (n := 51) dX1_moveDown_50 (by first | exact lat_0 (lput_at _ _ _) | exact lat_r (lput_at _ _ _) (by decide)) (by first | exact vp_in_nI (by omega) (by omega)) rfl ?_
      (first | (simp (disch := omega) only [nI_clamp, pk_mul, nI_add, oi1, up2_ss, up2_n, up2_sn, ur_s, ur_n, Nat.reduceMul, Nat.reduceAdd, Nat.add_zero]) | skip)
      refine xq_iastore (n := 52) dX1_moveDown_51 (by first | exact lat_0 (lput_at _ _ _) | exact lat_r (lput_at _ _ _) (by decide)) (by first | exact vp_in_nI (by omega) (by omega)) rfl ?_
      simp (disch := omega) only [nI_clamp, List.set, lw_0, lw_1, lw_2, lw_3, lw_4, lw_5, lw_6, lw_7, lw_8, lw_9]
      refine xr_aload_n (n := 53) dX1_moveDown_52 rfl rfl ?_
      refine xr_get (n := 56) dX1_moveDown_53 fl_X1_21 (by first | exact lat_0 (lput_at _ _ _) | exact lat_r (lput_at _ _ _) (by decide)) (by rfl) rfl ?_
      refine xr_iload_n (n := 57) dX1_moveDown_56 rfl rfl ?_
      refine xr_aload_n (n := 58) dX1_moveDown_57 rfl rfl ?_
      refine xr_get (n := 61) dX1_moveDown_58 fl_X1_21 (by first | exact lat_0 (lput_at _ _ _) | exact lat_r (lput_at _ _ _) (by decide)) (by rfl) rfl ?_
      refine xr_iload_n (n := 62) dX1_moveDown_61 rfl rfl ?_
      refine xr_iaload (n := 63) dX1_moveDown_62 (by first | exact lat_0 (lput_at _ _ _) | exact lat_r (lput_at _ _ _) (by decide)) (by first | exact vp_in_nI (by omega) (by omega)) rfl ?_
      (first | (simp (disch := omega) only [nI_clamp, pk_mul, nI_add, oi1, up2_ss, up2_n, up2_sn, ur_s, ur_n, Nat.reduceMul, Nat.reduceAdd, Nat.add_zero]) | skip)
      refine xq_iastore (n := 64) dX1_moveDown_63 (by first | exact lat_0 (lput_at _ _ _) | exact lat_r (lput_at _ _ _) (by decide)) (by first | exact vp_in_nI (by omega) (by omega)) rfl ?_
      simp (disch := omega) only [nI_clamp, List.set, lw_0, lw_1, lw_2, lw_3, lw_4, lw_5, lw_6, lw_7, lw_8, lw_9]
      refine xr_aload_n (n := 65) dX1_moveDown_64 rfl rfl ?_
      refine xr_get (n := 68) dX1_moveDown_65 fl_X1_24 (by first | exact lat_0 (lput_at _ _ _) | exact lat_r (lput_at _ _ _) (by decide)) (by rfl) rfl ?_
      refine xr_iload_n (n := 69) dX1_moveDown_68 rfl rfl ?_
      refine xr_aload_n (n := 70) dX1_moveDown_69 rfl rfl ?_
      refine xr_get (n := 73) dX1_moveDown_70 fl_X1_24 (by first | exact lat_0 (lput_at _ _ _) | exact lat_r (lput_at _ _ _) (by decide)) (by rfl) rfl ?_
      refine xr_iload_n (n := 74) dX1_moveDown_73 rfl rfl ?_
      refine xr_iaload (n := 75) dX1_moveDown_74 (by first | exact lat_0 (lput_at _ _ _) | exact lat_r (lput_at _ _ _) (by decide)) (by first | exact vp_in_nI (by omega) (by omega)) rfl ?_
      (first | (simp (disch := omega) only [nI_clamp, pk_mul, nI_add, oi1, up2_ss, up2_n, up2_sn, ur_s, ur_n, Nat.reduceMul, Nat.reduceAdd, Nat.add_zero]) | skip)
      refine xq_iastore (n := 76) dX1_moveDown_75 (by first | exact lat_0 (lput_at _ _ _) | exact lat_r (lput_at _ _ _) (by decide)) (by first | exact vp_in_nI (by omega) (by omega)) rfl ?_
      simp (disch := omega) only [nI_clamp, List.set, lw_0, lw_1, lw_2, lw_3, lw_4, lw_5, lw_6, lw_7, lw_8, lw_9]
      refine xr_aload_n (n := 77) dX1_moveDown_76 rfl rfl ?_
      refine xr_get (n := 80) dX1_moveDown_77 fl_X1_27 (by first | exact lat_0 (lput_at _ _ _) | exact lat_r (lput_at _ _ _) (by decide)) (by rfl) rfl ?_
      refine xr_iload_n (n := 81) dX1_moveDown_80 rfl rfl ?_
      refine xr_aload_n (n := 82) dX1_moveDown_81 rfl rfl ?_
      refine xr_get (n := 85) dX1_moveDown_82 fl_X1_27 (by first | exact lat_0 (lput_at _ _ _) | exact lat_r (lput_at _ _ _) (by decide)) (by rfl) rfl ?_
      refine xr_iload_n (n := 86) dX1_moveDown_85 rfl rfl ?_
      refine xr_iaload (n := 87) dX1_moveDown_86 (by first | exact lat_0 (lput_at _ _ _) | exact lat_r (lput_at _ _ _) (by decide)) (by first | exact vp_in_nI (by omega) (by omega)) rfl ?_
      (first | (simp (disch := omega) only [nI_clamp, pk_mul, nI_add, oi1, up2_ss, up2_n, up2_sn, ur_s, ur_n, Nat.reduceMul, Nat.reduceAdd, Nat.add_zero]) | skip)
      refine xq_iastore (n := 88) dX1_moveDown_87 (by first | exact lat_0 (lput_at _ _ _) | exact lat_r (lput_at _ _ _) (by decide)) (by first | exact vp_in_nI (by omega) (by omega)) rfl ?_
      simp (disch := omega) only [nI_clamp, List.set, lw_0, lw_1, lw_2, lw_3, lw_4, lw_5, lw_6, lw_7, lw_8, lw_9]
      refine xr_aload_n (n := 89) dX1_moveDown_88 rfl rfl ?_
      refine xr_get (n := 92) dX1_moveDown_89 fl_X1_30 (by first | exact lat_0 (lput_at _ _ _) | exact lat_r (lput_at _ _ _) (by decide)) (by rfl) rfl ?_
      refine xr_iload_n (n := 93) dX1_moveDown_92 rfl rfl ?_
      refine xr_aload_n (n := 94) dX1_moveDown_93 rfl rfl ?_
      refine xr_get (n := 97) dX1_moveDown_94 fl_X1_30 (by first | exact lat_0 (lput_at _ _ _) | exact lat_r (lput_at _ _ _) (by decide)) (by rfl) rfl ?_
      refine xr_iload_n (n := 98) dX1_moveDown_97 rfl rfl ?_
      refine xr_iaload (n := 99) dX1_moveDown_98 (by first | exact lat_0 (lput_at _ _ _) | exact lat_r (lput_at _ _ _) (by decide)) (by first | exact vp_in_nI (by omega) (by omega)) rfl ?_
      (first | (simp (disch := omega) only [nI_clamp, pk_mul, nI_add, oi1, up2_ss, up2_n, up2_sn, ur_s, ur_n, Nat.reduceMul, Nat.reduceAdd, Nat.add_zero]) | skip)
      refine xq_iastore (n := 100) dX1_moveDown_99 (by first | exact lat_0 (lput_at _ _ _) | exact lat_r (lput_at _ _ _) (by decide)) (by first | exact vp_in_nI (by omega) (by omega)) rfl ?_
      simp (disch := omega) only [nI_clamp, List.set, lw_0, lw_1, lw_2, lw_3, lw_4, lw_5, lw_6, lw_7, lw_8, lw_9]
      refine xr_aload_n (n := 101) dX1_moveDown_100 rfl rfl ?_
      refine xr_get (n := 104) dX1_moveDown_101 fl_X1_33 (by first | exact lat_0 (lput_at _ _ _) | exact lat_r (lput_at _ _ _) (by decide)) (by rfl) rfl ?_
      refine xr_iload_n (n := 105) dX1_moveDown_104 rfl rfl ?_
      refine xr_aload_n (n := 106) dX1_moveDown_105 rfl rfl ?_
      refine xr_get (n := 109) dX1_moveDown_106 fl_X1_33 (by first | exact lat_0 (lput_at _ _ _) | exact lat_r (lput_at _ _ _) (by decide)) (by rfl) rfl ?_
      refine xr_iload_n (n := 110) dX1_moveDown_109 rfl rfl ?_
      refine xr_iaload (n := 111) dX1_moveDown_110 (by first | exact lat_0 (lput_at _ _ _) | exact lat_r (lput_at _ _ _) (by decide)) (by first | exact vp_in_nI (by omega) (by omega)) rfl ?_
      (first | (simp (disch := omega) only [nI_clamp, pk_mul, nI_add, oi1, up2_ss, up2_n, up2_sn, ur_s, ur_n, Nat.reduceMul, Nat.reduceAdd, Nat.add_zero]) | skip)
      refine xq_iastore (n := 112) dX1_moveDown_111 (by first | exact lat_0 (lput_at _ _ _) | exact lat_r (lput_at _ _ _) (by decide)) (by first | exact vp_in_nI (by omega) (by omega)) rfl ?_
      simp (disch := omega) only [nI_clamp, List.set, lw_0, lw_1, lw_2, lw_3, lw_4, lw_5, lw_6, lw_7, lw_8, lw_9]
      refine xr_return dX1_moveDown_112 rfl rfl ?_
      first | exact hq | (rw [b2i_t (by ((try simp (disch := omega) only [i_lt, i_le, i_eq, nt, i_m1, Int32.toInt_zero] at *); omega))] at hq; exact hq) | (rw [b2i_f (by ((try simp (disch := omega) only [i_lt, i_le, i_eq, nt, i_m1, Int32.toInt_zero] at *); omega))] at hq; exact hq)

theorem s_X1_placeWithout {G : xG} {d : Nat} {f : Nat → xC} {r : Nat × Nat} {Q : Option Value → xM → Prop} {v : Int32} {s z : Nat}  (hq : Q (some (.int (pwI v s z))) (f, r)) : xMet G d mX1_placeWithout [.int v, .int (nI s), .int (nI z)] (f, r) r Q := by
  refine xMet_0 (by decide +kernel) rfl (Nat.le_of_ble_eq_true rfl) ?_
  show xX G d mX1_placeWithout r r (xΦ G r r Q) 0 [(0, .int v), (1, .int (nI s)), (2, .int (nI z))] [] (f, r)
  refine xr_iload_n (n := 1) dX1_placeWithout_0 rfl rfl ?_
  refine xr_iload_n (n := 2) dX1_placeWithout_1 rfl rfl ?_
  refine xr_icmp_le (tgt := 11) (n := 5) dX1_placeWithout_2 (by decide) rfl (fun h2 => ?_) (fun h2 => ?_)
  · refine xr_iload_n (n := 12) dX1_placeWithout_11 rfl rfl ?_
    refine xr_ireturn dX1_placeWithout_12 rfl rfl rfl ?_
    refine qi hq ?_
    unfold pwI
    first | rw [if_pos (by ((try simp (disch := omega) only [i_lt, i_le, i_eq, nt, i_m1, Int32.toInt_zero] at *); omega))] | rw [if_neg (by ((try simp (disch := omega) only [i_lt, i_le, i_eq, nt, i_m1, Int32.toInt_zero] at *); omega))]
  · refine xr_iload_n (n := 6) dX1_placeWithout_5 rfl rfl ?_
    refine xr_iload_n (n := 7) dX1_placeWithout_6 rfl rfl ?_
    refine xr_isub (n := 8) dX1_placeWithout_7 rfl ?_
    refine xr_goto (n := 12) dX1_placeWithout_8 (by decide) ?_
    refine xr_ireturn dX1_placeWithout_12 rfl rfl rfl ?_
    refine qi hq ?_
    unfold pwI
    first | rw [if_pos (by ((try simp (disch := omega) only [i_lt, i_le, i_eq, nt, i_m1, Int32.toInt_zero] at *); omega))] | rw [if_neg (by ((try simp (disch := omega) only [i_lt, i_le, i_eq, nt, i_m1, Int32.toInt_zero] at *); omega))]

theorem s_X1_remove {G : xG} {d : Nat} {f : Nat → xC} {r : Nat × Nat} {Q : Option Value → xM → Prop} {a n s : Nat} {σ : xS} {P : Nat → Nat → Nat} (hP : LsP σ n P) (hO : okP n P) (hL : lam n P) (hs : s < n) (hq : ∀ τ, LsP τ (n - psz P s) (pcut P s) → Q none (lput f a τ, r)) : xMet G (d + 5) mX1_remove [.ref a, .int (nI s)] (lput f a σ, r) r Q := by
  refine xMet_0 (by decide +kernel) rfl (Nat.le_of_ble_eq_true rfl) ?_
  show xX G (d + 5) mX1_remove r r (xΦ G r r Q) 0 [(0, .ref a), (1, .int (nI s))] [] (lput f a σ, r)
  obtain ⟨hn, hn2, hS⟩ := id hP
  obtain ⟨hz0, hzn, hpe⟩ := psz_bd hO hs
  obtain ⟨⟨-, -, -, -, -, -, g7⟩, -⟩ := hS s hs
  rw [hpe] at g7
  refine xr_aload_n (n := 1) dX1_remove_0 rfl rfl ?_
  refine xr_iload_n (n := 2) dX1_remove_1 rfl rfl ?_
  refine xr_callV (y2 := mX1_holds) (As := [_]) (n := 5) dX1_remove_2 lm_X1_47 pm_X1_holds pi_X1_holds (by first | exact lat_0 (lput_at _ _ _) | exact lat_r (lput_at _ _ _) (by decide)) rfl rfl rfl (by simp [Value.category]) rfl ⟨Nat.le_refl _, Nat.le_refl _⟩ ?_
  refine s_X1_holds (lput_at _ _ _) hn hn2 ?_
  dsimp only [xK, xps]
  refine xr_bne (tgt := 9) (n := 8) dX1_remove_5 (by decide) rfl (fun h5 => ?_) (fun h5 => ?_)
  · refine xr_aload_n (n := 10) dX1_remove_9 rfl rfl ?_
    refine xr_get (n := 13) dX1_remove_10 fl_X1_33 (by first | exact lat_0 (lput_at _ _ _) | exact lat_r (lput_at _ _ _) (by decide)) (by rfl) rfl ?_
    refine xr_iload_n (n := 14) dX1_remove_13 rfl rfl ?_
    refine xr_iaload (n := 15) dX1_remove_14 (by first | exact lat_0 (lput_at _ _ _) | exact lat_r (lput_at _ _ _) (by decide)) (by first | exact vp_in_nI (by omega) (by omega)) rfl ?_
    (first | (simp (disch := omega) only [nI_clamp, pk_mul, nI_add, oi1, up2_ss, up2_n, up2_sn, ur_s, ur_n, Nat.reduceMul, Nat.reduceAdd, Nat.add_zero, hn]) | skip)
    rw [g7]
    refine xr_iload_n (n := 16) dX1_remove_15 rfl rfl ?_
    refine xr_isub (n := 17) dX1_remove_16 rfl ?_
    rw [pk_sub (by omega), Nat.add_sub_cancel_left]
    refine xq_istore_n 2 (n := 18) dX1_remove_17 rfl rfl rfl ?_
    simp only [xst, Nat.beq, List.filter, Bool.not_true, Bool.not_false]
    refine xr_aload_n (n := 19) dX1_remove_18 rfl rfl ?_
    refine xr_get (n := 22) dX1_remove_19 fl_X1_33 (by first | exact lat_0 (lput_at _ _ _) | exact lat_r (lput_at _ _ _) (by decide)) (by rfl) rfl ?_
    refine xr_iload_n (n := 23) dX1_remove_22 rfl rfl ?_
    refine xr_iaload (n := 24) dX1_remove_23 (by first | exact lat_0 (lput_at _ _ _) | exact lat_r (lput_at _ _ _) (by decide)) (by first | exact vp_in_nI (by omega) (by omega)) rfl ?_
    (first | (simp (disch := omega) only [nI_clamp, pk_mul, nI_add, oi1, up2_ss, up2_n, up2_sn, ur_s, ur_n, Nat.reduceMul, Nat.reduceAdd, Nat.add_zero, hn]) | skip)
    rw [g7]
    refine xq_istore_n 3 (n := 25) dX1_remove_24 rfl rfl rfl ?_
    simp only [xst, Nat.beq, List.filter, Bool.not_true, Bool.not_false]
    have hmd : ∀ j, j < n - psz P s → mid (pcut P s) j = pw s (psz P s) (mid P (srcc s (psz P s) j)) ∧ pend (pcut P s) j = pw s (psz P s) (pend P (srcc s (psz P s) j)) := fun j hj => ⟨mid_pcut, pend_pcut⟩
    have hou : ∀ j, j < n - psz P s → pwI (oui (outr P (srcc s (psz P s) j) (srcc s (psz P s) j))) s (psz P s) = oui (outr (pcut P s) j j) := fun j hj => pwI_o hO hL hs hj
    have hpc : ∀ j w, w ≠ 5 → w ≠ 6 → pcut P s j w = P (srcc s (psz P s) j) w := fun j w h5 h6 => pcut_w h5 h6
    have hOc := ok_pcut hO hL hs
    generalize hpz : psz P s = z at *
    have outB : ∀ k, k ≤ n - z → ∀ τ, τ 9 0 = nI (n - z) → (∀ w, w < 5 → ∀ j, j < n - z → τ w j = σ w (srcc s z j)) ∧ (∀ w, 5 ≤ w → w ≤ 7 → ∀ j, j < n - z → τ w j = if j < k then pwI (σ w (srcc s z j)) s z else σ w (srcc s z j)) → xX G (d + 5) mX1_remove r r (xΦ G r r Q) 59 [(0, .ref a), (1, .int (nI s)), (2, .int (nI z)), (3, .int (nI k))] [] (lput f a τ, r) := by
      refine nat_down (P := fun k => ∀ τ, τ 9 0 = nI (n - z) → (∀ w, w < 5 → ∀ j, j < n - z → τ w j = σ w (srcc s z j)) ∧ (∀ w, 5 ≤ w → w ≤ 7 → ∀ j, j < n - z → τ w j = if j < k then pwI (σ w (srcc s z j)) s z else σ w (srcc s z j)) → xX G (d + 5) mX1_remove r r (xΦ G r r Q) 59 [(0, .ref a), (1, .int (nI s)), (2, .int (nI z)), (3, .int (nI k))] [] (lput f a τ, r)) (N := n - z) ?_ ?_
      · intro τ hτ hi
        refine xr_iload_n (n := 60) dX1_remove_59 rfl rfl ?_
        refine xr_aload_n (n := 61) dX1_remove_60 rfl rfl ?_
        refine xr_get (n := 64) dX1_remove_61 fl_X1_39 (by first | exact lat_0 (lput_at _ _ _) | exact lat_r (lput_at _ _ _) (by decide)) (by rfl) rfl ?_
        (first | (simp (disch := omega) only [nI_clamp, pk_mul, nI_add, oi1, up2_ss, up2_n, up2_sn, ur_s, ur_n, Nat.reduceMul, Nat.reduceAdd, Nat.add_zero, hn, hτ]) | skip)
        refine xr_icmp_ge (tgt := 130) (n := 67) dX1_remove_64 (by decide) rfl (fun h64 => ?_) (fun h64 => by (exfalso; ((try simp (disch := omega) only [i_lt, i_le, i_eq, nt, i_m1, Int32.toInt_zero] at *); omega)))
        refine xr_aload_n (n := 131) dX1_remove_130 rfl rfl ?_
        refine xr_callV (y2 := mX1_link) (As := []) (n := 134) dX1_remove_131 lm_X1_65 pm_X1_link pi_X1_link (by first | exact lat_0 (lput_at _ _ _) | exact lat_r (lput_at _ _ _) (by decide)) rfl rfl rfl (by simp [Value.category]) rfl ⟨Nat.le_refl _, Nat.le_refl _⟩ ?_
        refine s_X1_link (n := n - z) (P := pcut P s) ⟨hτ, by omega, fun j hj => ?_⟩ hOc (fun τ' hw hP' => ?_)
        · obtain ⟨⟨e0, e1, e2, e3, e5, e6, e7⟩, e8⟩ := hS (srcc s z j) (srcc_n hj hzn)
          obtain ⟨-, -, -, -, -, q6, q5⟩ := hO.2 (srcc s z j) (srcc_n hj hzn)
          have hjn := srcc_n (s := s) hj hzn
          have hb7 : pend P (srcc s z j) ≤ 60 ∧ (s < pend P (srcc s z j) → z ≤ pend P (srcc s z j)) := by have hq7 : pend P (srcc s z j) ≤ n := (psz_bd hO hjn).2.2 ▸ (psz_bd hO hjn).2.1; refine ⟨by omega, fun q => ?_⟩; have := srcc_out s z j; have := psz_bd hO hjn; exact pz_le hO hL hs hjn hpz hpe (srcc_out s z j) q
          have hb6 : mid P (srcc s z j) ≤ 60 ∧ (s < mid P (srcc s z j) → z ≤ mid P (srcc s z j)) := by refine ⟨?_, fun q => ?_⟩; (unfold mid; split <;> (try split) <;> omega); exact mz_le hO hL hs hjn hpz hpe (srcc_out s z j) q
          unfold LsS
          rw [hi.1 0 (by omega) j hj, hi.1 1 (by omega) j hj, hi.1 2 (by omega) j hj, hi.1 3 (by omega) j hj, hi.1 4 (by omega) j hj, hi.2 5 (by omega) (by omega) j hj, hi.2 6 (by omega) (by omega) j hj, hi.2 7 (by omega) (by omega) j hj, if_pos hj, if_pos hj, if_pos hj, (hmd j hj).1, (hmd j hj).2, hpc j 0 (by omega) (by omega), hpc j 1 (by omega) (by omega), hpc j 2 (by omega) (by omega), hpc j 3 (by omega) (by omega), hpc j 4 (by omega) (by omega), ← hou j hj, e5, e6, e7, pwI_n hb6.1 (by omega) hb6.2, pwI_n hb7.1 (by omega) hb7.2]
          exact ⟨e0, e1, e2, e3, rfl, rfl, rfl⟩
        dsimp only [xK, xps]
        refine xr_return dX1_remove_134 rfl rfl ?_
        exact hq τ' hP'
      · intro k hk ih τ hτ hi
        refine xr_iload_n (n := 60) dX1_remove_59 rfl rfl ?_
        refine xr_aload_n (n := 61) dX1_remove_60 rfl rfl ?_
        refine xr_get (n := 64) dX1_remove_61 fl_X1_39 (by first | exact lat_0 (lput_at _ _ _) | exact lat_r (lput_at _ _ _) (by decide)) (by rfl) rfl ?_
        (first | (simp (disch := omega) only [nI_clamp, pk_mul, nI_add, oi1, up2_ss, up2_n, up2_sn, ur_s, ur_n, Nat.reduceMul, Nat.reduceAdd, Nat.add_zero, hn, hτ]) | skip)
        refine xr_icmp_ge (tgt := 130) (n := 67) dX1_remove_64 (by decide) rfl (fun h64 => by (exfalso; ((try simp (disch := omega) only [i_lt, i_le, i_eq, nt, i_m1, Int32.toInt_zero] at *); omega))) (fun h64 => ?_)
        refine xr_iload_n (n := 68) dX1_remove_67 rfl rfl ?_
        refine xr_bipush (v := nI 60) (n := 70) dX1_remove_68 (by decide) rfl ?_
        refine xr_icmp_ge (tgt := 130) (n := 73) dX1_remove_70 (by decide) rfl (fun h70 => by (exfalso; ((try simp (disch := omega) only [i_lt, i_le, i_eq, nt, i_m1, Int32.toInt_zero] at *); omega))) (fun h70 => ?_)
        refine xr_aload_n (n := 74) dX1_remove_73 rfl rfl ?_
        refine xr_get (n := 77) dX1_remove_74 fl_X1_27 (by first | exact lat_0 (lput_at _ _ _) | exact lat_r (lput_at _ _ _) (by decide)) (by rfl) rfl ?_
        refine xr_iload_n (n := 78) dX1_remove_77 rfl rfl ?_
        refine xr_aload_n (n := 79) dX1_remove_78 rfl rfl ?_
        refine xr_get (n := 82) dX1_remove_79 fl_X1_27 (by first | exact lat_0 (lput_at _ _ _) | exact lat_r (lput_at _ _ _) (by decide)) (by rfl) rfl ?_
        refine xr_iload_n (n := 83) dX1_remove_82 rfl rfl ?_
        refine xr_iaload (n := 84) dX1_remove_83 (by first | exact lat_0 (lput_at _ _ _) | exact lat_r (lput_at _ _ _) (by decide)) (by first | exact vp_in_nI (by omega) (by omega)) rfl ?_
        (first | (simp (disch := omega) only [nI_clamp, pk_mul, nI_add, oi1, up2_ss, up2_n, up2_sn, ur_s, ur_n, Nat.reduceMul, Nat.reduceAdd, Nat.add_zero, hn, hτ]) | skip)
        refine xr_iload_n (n := 85) dX1_remove_84 rfl rfl ?_
        refine xr_iload_n (n := 86) dX1_remove_85 rfl rfl ?_
        refine xr_callS (y2 := mX1_placeWithout) (As := [_, _, _]) (n := 89) dX1_remove_86 lm_X1_61 pm_X1_placeWithout kp_static_yX1_placeWithout rfl rfl (by simp [Value.category]) rfl ⟨Nat.le_refl _, Nat.le_refl _⟩ ?_
        refine s_X1_placeWithout ?_
        dsimp only [xK, xps]
        refine xq_iastore (n := 90) dX1_remove_89 (by first | exact lat_0 (lput_at _ _ _) | exact lat_r (lput_at _ _ _) (by decide)) (by first | exact vp_in_nI (by omega) (by omega)) rfl ?_
        simp (disch := omega) only [nI_clamp, List.set, lw_0, lw_1, lw_2, lw_3, lw_4, lw_5, lw_6, lw_7, lw_8, lw_9]
        refine xr_aload_n (n := 91) dX1_remove_90 rfl rfl ?_
        refine xr_get (n := 94) dX1_remove_91 fl_X1_30 (by first | exact lat_0 (lput_at _ _ _) | exact lat_r (lput_at _ _ _) (by decide)) (by rfl) rfl ?_
        refine xr_iload_n (n := 95) dX1_remove_94 rfl rfl ?_
        refine xr_aload_n (n := 96) dX1_remove_95 rfl rfl ?_
        refine xr_get (n := 99) dX1_remove_96 fl_X1_30 (by first | exact lat_0 (lput_at _ _ _) | exact lat_r (lput_at _ _ _) (by decide)) (by rfl) rfl ?_
        refine xr_iload_n (n := 100) dX1_remove_99 rfl rfl ?_
        refine xr_iaload (n := 101) dX1_remove_100 (by first | exact lat_0 (lput_at _ _ _) | exact lat_r (lput_at _ _ _) (by decide)) (by first | exact vp_in_nI (by omega) (by omega)) rfl ?_
        (first | (simp (disch := omega) only [nI_clamp, pk_mul, nI_add, oi1, up2_ss, up2_n, up2_sn, ur_s, ur_n, Nat.reduceMul, Nat.reduceAdd, Nat.add_zero, hn, hτ]) | skip)
        refine xr_iload_n (n := 102) dX1_remove_101 rfl rfl ?_
        refine xr_iload_n (n := 103) dX1_remove_102 rfl rfl ?_
        refine xr_callS (y2 := mX1_placeWithout) (As := [_, _, _]) (n := 106) dX1_remove_103 lm_X1_61 pm_X1_placeWithout kp_static_yX1_placeWithout rfl rfl (by simp [Value.category]) rfl ⟨Nat.le_refl _, Nat.le_refl _⟩ ?_
        refine s_X1_placeWithout ?_
        dsimp only [xK, xps]
        refine xq_iastore (n := 107) dX1_remove_106 (by first | exact lat_0 (lput_at _ _ _) | exact lat_r (lput_at _ _ _) (by decide)) (by first | exact vp_in_nI (by omega) (by omega)) rfl ?_
        simp (disch := omega) only [nI_clamp, List.set, lw_0, lw_1, lw_2, lw_3, lw_4, lw_5, lw_6, lw_7, lw_8, lw_9]
        refine xr_aload_n (n := 108) dX1_remove_107 rfl rfl ?_
        refine xr_get (n := 111) dX1_remove_108 fl_X1_33 (by first | exact lat_0 (lput_at _ _ _) | exact lat_r (lput_at _ _ _) (by decide)) (by rfl) rfl ?_
        refine xr_iload_n (n := 112) dX1_remove_111 rfl rfl ?_
        refine xr_aload_n (n := 113) dX1_remove_112 rfl rfl ?_
        refine xr_get (n := 116) dX1_remove_113 fl_X1_33 (by first | exact lat_0 (lput_at _ _ _) | exact lat_r (lput_at _ _ _) (by decide)) (by rfl) rfl ?_
        refine xr_iload_n (n := 117) dX1_remove_116 rfl rfl ?_
        refine xr_iaload (n := 118) dX1_remove_117 (by first | exact lat_0 (lput_at _ _ _) | exact lat_r (lput_at _ _ _) (by decide)) (by first | exact vp_in_nI (by omega) (by omega)) rfl ?_
        (first | (simp (disch := omega) only [nI_clamp, pk_mul, nI_add, oi1, up2_ss, up2_n, up2_sn, ur_s, ur_n, Nat.reduceMul, Nat.reduceAdd, Nat.add_zero, hn, hτ]) | skip)
        refine xr_iload_n (n := 119) dX1_remove_118 rfl rfl ?_
        refine xr_iload_n (n := 120) dX1_remove_119 rfl rfl ?_
        refine xr_callS (y2 := mX1_placeWithout) (As := [_, _, _]) (n := 123) dX1_remove_120 lm_X1_61 pm_X1_placeWithout kp_static_yX1_placeWithout rfl rfl (by simp [Value.category]) rfl ⟨Nat.le_refl _, Nat.le_refl _⟩ ?_
        refine s_X1_placeWithout ?_
        dsimp only [xK, xps]
        refine xq_iastore (n := 124) dX1_remove_123 (by first | exact lat_0 (lput_at _ _ _) | exact lat_r (lput_at _ _ _) (by decide)) (by first | exact vp_in_nI (by omega) (by omega)) rfl ?_
        simp (disch := omega) only [nI_clamp, List.set, lw_0, lw_1, lw_2, lw_3, lw_4, lw_5, lw_6, lw_7, lw_8, lw_9]
        refine xr_iinc (n := 127) dX1_remove_124 rfl rfl (rfl) rfl ?_
        simp only [xst, Nat.beq, List.filter, Bool.not_true, Bool.not_false]
        (first | (simp (disch := omega) only [nI_clamp, pk_mul, nI_add, oi1, up2_ss, up2_n, up2_sn, ur_s, ur_n, Nat.reduceMul, Nat.reduceAdd, Nat.add_zero, hn, hτ]) | skip)
        refine xr_goto (n := 59) dX1_remove_127 (by decide) ?_
        refine ih _ ?_ ⟨fun w hw j hj => ?_, fun w hw hw7 j hj => ?_⟩
        · rw [up2_n _ _ _ (by omega), up2_n _ _ _ (by omega), up2_n _ _ _ (by omega)]; exact hτ
        · rw [up2_n _ _ _ (by omega), up2_n _ _ _ (by omega), up2_n _ _ _ (by omega)]; exact hi.1 w hw j hj
        · have hold := hi.2 w hw hw7 j hj
          have hcase : w = 5 ∨ w = 6 ∨ w = 7 := by omega
          by_cases e : j = k
          · subst e
            rw [if_neg (Nat.lt_irrefl j)] at hold
            rw [if_pos (Nat.lt_succ_self j), ← hold]
            rcases hcase with rfl | rfl | rfl <;> simp (disch := omega) only [up2_n, up2_ss]
          · have hh : (if j < k + 1 then pwI (σ w (srcc s z j)) s z else σ w (srcc s z j)) = (if j < k then pwI (σ w (srcc s z j)) s z else σ w (srcc s z j)) := by
              by_cases e2 : j < k
              · rw [if_pos e2, if_pos (by omega)]
              · rw [if_neg e2, if_neg (by omega)]
            rw [hh, ← hold]
            rcases hcase with rfl | rfl | rfl <;> simp (disch := omega) only [up2_n, up2_sn]
    have outA : ∀ k, k ≤ n → s + z ≤ k → ∀ τ, τ 9 0 = nI n → (∀ w, w < 8 → ∀ j, τ w j = if s ≤ j ∧ j + z < k then σ w (j + z) else σ w j) → xX G (d + 5) mX1_remove r r (xΦ G r r Q) 25 [(0, .ref a), (1, .int (nI s)), (2, .int (nI z)), (3, .int (nI k))] [] (lput f a τ, r) := by
      refine nat_down (P := fun k => s + z ≤ k → ∀ τ, τ 9 0 = nI n → (∀ w, w < 8 → ∀ j, τ w j = if s ≤ j ∧ j + z < k then σ w (j + z) else σ w j) → xX G (d + 5) mX1_remove r r (xΦ G r r Q) 25 [(0, .ref a), (1, .int (nI s)), (2, .int (nI z)), (3, .int (nI k))] [] (lput f a τ, r)) (N := n) ?_ ?_
      · intro hsz τ hτ hi
        refine xr_iload_n (n := 26) dX1_remove_25 rfl rfl ?_
        refine xr_aload_n (n := 27) dX1_remove_26 rfl rfl ?_
        refine xr_get (n := 30) dX1_remove_27 fl_X1_39 (by first | exact lat_0 (lput_at _ _ _) | exact lat_r (lput_at _ _ _) (by decide)) (by rfl) rfl ?_
        (first | (simp (disch := omega) only [nI_clamp, pk_mul, nI_add, oi1, up2_ss, up2_n, up2_sn, ur_s, ur_n, Nat.reduceMul, Nat.reduceAdd, Nat.add_zero, hn, hτ]) | skip)
        refine xr_icmp_ge (tgt := 47) (n := 33) dX1_remove_30 (by decide) rfl (fun h30 => ?_) (fun h30 => by (exfalso; ((try simp (disch := omega) only [i_lt, i_le, i_eq, nt, i_m1, Int32.toInt_zero] at *); omega)))
        refine xr_aload_n (n := 48) dX1_remove_47 rfl rfl ?_
        refine xr_dup (n := 49) dX1_remove_48 rfl rfl ?_
        refine xr_get (n := 52) dX1_remove_49 fl_X1_39 (by first | exact lat_0 (lput_at _ _ _) | exact lat_r (lput_at _ _ _) (by decide)) (by rfl) rfl ?_
        (first | (simp (disch := omega) only [nI_clamp, pk_mul, nI_add, oi1, up2_ss, up2_n, up2_sn, ur_s, ur_n, Nat.reduceMul, Nat.reduceAdd, Nat.add_zero, hn, hτ]) | skip)
        refine xr_iload_n (n := 53) dX1_remove_52 rfl rfl ?_
        refine xr_isub (n := 54) dX1_remove_53 rfl ?_
        (first | (simp (disch := omega) only [nI_clamp, pk_mul, nI_add, oi1, up2_ss, up2_n, up2_sn, ur_s, ur_n, Nat.reduceMul, Nat.reduceAdd, Nat.add_zero, hn, hτ]) | skip)
        rw [pk_sub (by omega)]
        refine xq_put (n := 57) dX1_remove_54 fl_X1_39 rfl (by first | exact lat_0 (lput_at _ _ _) | exact lat_r (lput_at _ _ _) (by decide)) (by rfl) (by rfl) (by rfl) rfl ?_
        simp (disch := omega) only [nI_clamp, List.set, lw_0, lw_1, lw_2, lw_3, lw_4, lw_5, lw_6, lw_7, lw_8, lw_9]
        refine xr_iconst (v := nI 0) (n := 58) dX1_remove_57 (by decide) rfl ?_
        refine xq_istore_n 3 (n := 59) dX1_remove_58 rfl rfl rfl ?_
        simp only [xst, Nat.beq, List.filter, Bool.not_true, Bool.not_false]
        refine outB 0 (Nat.zero_le _) _ (up2_ss _ _ _ _) ⟨fun w hw j hj => ?_, fun w hw hw7 j hj => ?_⟩
        · rw [up2_n _ _ _ (by omega), hi w (by omega) j]
          unfold srcc
          by_cases e : j < s
          · rw [if_pos e, if_neg (by omega)]
          · rw [if_neg e, if_pos ⟨by omega, by omega⟩]
        · rw [if_neg (Nat.not_lt_zero j), up2_n _ _ _ (by omega), hi w (by omega) j]
          unfold srcc
          by_cases e : j < s
          · rw [if_pos e, if_neg (by omega)]
          · rw [if_neg e, if_pos ⟨by omega, by omega⟩]
      · intro k hk ih hsz τ hτ hi
        refine xr_iload_n (n := 26) dX1_remove_25 rfl rfl ?_
        refine xr_aload_n (n := 27) dX1_remove_26 rfl rfl ?_
        refine xr_get (n := 30) dX1_remove_27 fl_X1_39 (by first | exact lat_0 (lput_at _ _ _) | exact lat_r (lput_at _ _ _) (by decide)) (by rfl) rfl ?_
        (first | (simp (disch := omega) only [nI_clamp, pk_mul, nI_add, oi1, up2_ss, up2_n, up2_sn, ur_s, ur_n, Nat.reduceMul, Nat.reduceAdd, Nat.add_zero, hn, hτ]) | skip)
        refine xr_icmp_ge (tgt := 47) (n := 33) dX1_remove_30 (by decide) rfl (fun h30 => by (exfalso; ((try simp (disch := omega) only [i_lt, i_le, i_eq, nt, i_m1, Int32.toInt_zero] at *); omega))) (fun h30 => ?_)
        refine xr_aload_n (n := 34) dX1_remove_33 rfl rfl ?_
        refine xr_iload_n (n := 35) dX1_remove_34 rfl rfl ?_
        refine xr_iload_n (n := 36) dX1_remove_35 rfl rfl ?_
        refine xr_iload_n (n := 37) dX1_remove_36 rfl rfl ?_
        refine xr_isub (n := 38) dX1_remove_37 rfl ?_
        rw [pk_sub (by omega)]
        refine xr_callV (y2 := mX1_moveDown) (As := [_, _]) (n := 41) dX1_remove_38 lm_X1_57 pm_X1_moveDown pi_X1_moveDown (by first | exact lat_0 (lput_at _ _ _) | exact lat_r (lput_at _ _ _) (by decide)) rfl rfl rfl (by simp [Value.category]) rfl ⟨Nat.le_refl _, Nat.le_refl _⟩ ?_
        refine s_X1_moveDown hτ hn2 hk (by omega) ?_
        dsimp only [xK, xps]
        refine xr_iinc (n := 44) dX1_remove_41 rfl rfl (rfl) rfl ?_
        simp only [xst, Nat.beq, List.filter, Bool.not_true, Bool.not_false]
        (first | (simp (disch := omega) only [nI_clamp, pk_mul, nI_add, oi1, up2_ss, up2_n, up2_sn, ur_s, ur_n, Nat.reduceMul, Nat.reduceAdd, Nat.add_zero, hn, hτ]) | skip)
        refine xr_goto (n := 25) dX1_remove_44 (by decide) ?_
        refine ih (by omega) _ ?_ (fun w hw j => ?_)
        · rw [lmv_a, if_neg (by omega)]; exact hτ
        · rw [lmv_a]
          by_cases e : j = k - z
          · rw [if_pos ⟨hw, e⟩, if_pos ⟨by omega, by omega⟩, hi w hw k, if_neg (by omega)]
            congr 1
            omega
          · rw [if_neg (fun q => e q.2), hi w hw j]
            by_cases e2 : s ≤ j ∧ j + z < k
            · rw [if_pos e2, if_pos ⟨e2.1, by omega⟩]
            · rw [if_neg e2, if_neg (by omega)]
    exact outA (s + z) (by omega) (Nat.le_refl _) σ hn (fun w hw j => by rw [if_neg (by omega)])
  · exact absurd (ib_s hs hn2) h5
