/-! the class: a step, a run -/
theorem lat_t {f : Nat → xC} {a b : Nat} {σ δ : xS} (h : lat f b σ) (hd : b + 10 ≤ a ∨ a + 7 ≤ b) : lat (tput f a δ) b σ := bat_out h (by omega)
def rgt (P : Nat → Nat → Nat) (s : Nat) : Nat := if P s 2 = 0 then 10 else P s 4
theorem rgt_ok {n s : Nat} {P : Nat → Nat → Nat} {σ : xS} (hP : LsP σ n P) (hO : okP n P) (hs : s < n) (h0 : P s 0 = 0) : σ 4 s = nI (tmv (rgt P s)) ∧ okT (rgt P s) := by
  obtain ⟨-, -, h3⟩ := hP
  obtain ⟨⟨-, -, hx, -⟩, -⟩ := h3 s hs
  obtain ⟨-, h4, h5⟩ := hx h0
  obtain ⟨-, -, -, -, ho, -⟩ := hO.2 s hs
  unfold rgt
  by_cases e : P s 2 = 0
  · rw [if_pos e]; exact ⟨h5 e, Or.inr ⟨by omega, by omega⟩⟩
  · rw [if_neg e]; exact ⟨h4 e, ho⟩
theorem aterm_bd {δ : xS} {u : Nat} (hb : ∀ i, i < 6 → -999 ≤ (δ 1 i).toInt ∧ (δ 1 i).toInt ≤ 999) (hu : okT u) : -999 ≤ (aterm δ u).toInt ∧ (aterm δ u).toInt ≤ 999 := by
  unfold aterm
  unfold okT at hu
  split
  · exact hb u (by omega)
  · rw [nt _ (by omega)]; omega
theorem s_X2_add_t {G : xG} {d : Nat} {f : Nat → xC} {r : Nat × Nat} {Q : Option Value → xM → Prop} {a tl : Nat} {δ : xS} {v : Int32} (h9 : δ 9 0 = nI tl) (hb : tl ≤ 400) (hq : Q none (tput f a (up2 (if tl < 40 then up2 δ 0 tl v else δ) 9 0 (nI (tl + 1))), r)) : xMet G (d + 1) mX2_add [.ref (a + 1), .int v] (tput f a δ, r) r Q := by
  have h := s_X2_add (G := G) (d := d) (r := r) (f := tput f a δ) (a := a + 1) (σ := δ) (v := v) (Q := Q) h9 hb (by
    rw [t_oput (fun w h0 h9 h10 => by
      rw [up2_n _ _ _ h9]
      split
      · exact up2_n _ _ _ h0
      · rfl)]
    exact hq)
  rw [oat_put (t_oat (tput_at f a δ))] at h
  exact h
theorem s_X2_begin_t {G : xG} {d : Nat} {f : Nat → xC} {r : Nat × Nat} {Q : Option Value → xM → Prop} {a : Nat} {δ : xS} (hq : Q none (tput f a (up2 δ 9 0 (nI 0)), r)) : xMet G d mX2_begin [.ref (a + 1)] (tput f a δ, r) r Q := by
  have h := s_X2_begin (G := G) (d := d) (r := r) (f := tput f a δ) (a := a + 1) (σ := δ) (Q := Q) (by
    rw [t_oput (fun w h0 h9 h10 => up2_n _ _ _ h9)]
    exact hq)
  rw [oat_put (t_oat (tput_at f a δ))] at h
  exact h
theorem trC_step {n s t mk rd mo tl : Nat} {P : Nat → Nat → Nat} {δ : xS} (hO : okP n P) (hs : s < n) (hC : trC δ t mk rd mo tl) (ht : t < 400) : ∃ mk' rd' mo' tl', trC (ainc (adata P s δ)) (t + 1) mk' rd' mo' tl' := by
  obtain ⟨c5, c6, c7, c8, c9, b6, b7, b8, b9, bt, c4, c1⟩ := hC
  have hs6 := (hO.2 s hs).2.1
  have hn60 := hO.1
  unfold ainc adata
  split
  · refine ⟨mk, rd, mo, tl, ?_⟩
    unfold aset
    refine ⟨?_, ?_, ?_, ?_, ?_, by omega, by omega, by omega, by omega, by omega, fun k hk => ?_, fun i hi => ?_⟩
    · rw [up2_ss, up2_n _ _ _ (by omega), c5, nI_add]
    · rw [up2_n _ _ _ (by omega), up2_n _ _ _ (by omega)]; exact c6
    · rw [up2_n _ _ _ (by omega), up2_n _ _ _ (by omega)]; exact c7
    · rw [up2_n _ _ _ (by omega), up2_n _ _ _ (by omega)]; exact c8
    · rw [up2_n _ _ _ (by omega), up2_n _ _ _ (by omega)]; exact c9
    · obtain ⟨u, hu, he⟩ := c4 k hk
      exact ⟨u, by omega, by rw [up2_n _ _ _ (by omega), up2_n _ _ _ (by omega)]; exact he⟩
    · rw [up2_n _ _ _ (by omega), up2_a, if_pos rfl]
      split
      · exact mheld_bd _
      · exact c1 i hi
  · split
    · refine ⟨mk, rd, mo, tl + 1, ?_⟩
      have hr : ∀ w, w ≠ 0 → (if ix (δ 9 0) < 40 then up2 δ 0 (ix (δ 9 0)) (δ 1 (P s 1)) else δ) w = δ w := fun w hw => by
        split
        · exact up2_n _ _ _ hw
        · rfl
      unfold atell
      refine ⟨?_, ?_, ?_, ?_, ?_, by omega, by omega, by omega, by omega, by omega, fun k hk => ?_, fun i hi => ?_⟩
      · rw [up2_ss, up2_n _ _ _ (by omega), hr 5 (by omega), c5, nI_add]
      · rw [up2_n _ _ _ (by omega), up2_n _ _ _ (by omega), hr 6 (by omega)]; exact c6
      · rw [up2_n _ _ _ (by omega), up2_n _ _ _ (by omega), hr 7 (by omega)]; exact c7
      · rw [up2_n _ _ _ (by omega), up2_n _ _ _ (by omega), hr 8 (by omega)]; exact c8
      · rw [up2_n _ _ _ (by omega), up2_ss, c9, nI_add]
      · obtain ⟨u, hu, he⟩ := c4 k hk
        exact ⟨u, by omega, by rw [up2_n _ _ _ (by omega), up2_n _ _ _ (by omega), hr 4 (by omega)]; exact he⟩
      · rw [up2_n _ _ _ (by omega), up2_n _ _ _ (by omega), hr 1 (by omega)]; exact c1 i hi
    · split
      · refine ⟨mk + 1, rd, mo, tl, ?_⟩
        have hr : ∀ w, w ≠ 3 → w ≠ 2 → (if ix (δ 6 0) < 40 then ur (up2 δ 3 (ix (δ 6 0)) (δ 5 0)) 2 (fo (fun c => δ 1 c) (δ 2) (6 * ix (δ 6 0)) 6) else δ) w = δ w := fun w hw hw2 => by
          split
          · rw [ur_n _ _ hw2, up2_n _ _ _ hw]
          · rfl
        unfold amark
        refine ⟨?_, ?_, ?_, ?_, ?_, by omega, by omega, by omega, by omega, by omega, fun k hk => ?_, fun i hi => ?_⟩
        · rw [up2_ss, up2_n _ _ _ (by omega), hr 5 (by omega) (by omega), c5, nI_add]
        · rw [up2_n _ _ _ (by omega), up2_ss, c6, nI_add]
        · rw [up2_n _ _ _ (by omega), up2_n _ _ _ (by omega), hr 7 (by omega) (by omega)]; exact c7
        · rw [up2_n _ _ _ (by omega), up2_n _ _ _ (by omega), hr 8 (by omega) (by omega)]; exact c8
        · rw [up2_n _ _ _ (by omega), up2_n _ _ _ (by omega), hr 9 (by omega) (by omega)]; exact c9
        · obtain ⟨u, hu, he⟩ := c4 k hk
          exact ⟨u, by omega, by rw [up2_n _ _ _ (by omega), up2_n _ _ _ (by omega), hr 4 (by omega) (by omega)]; exact he⟩
        · rw [up2_n _ _ _ (by omega), up2_n _ _ _ (by omega), hr 1 (by omega) (by omega)]; exact c1 i hi
      · split
        · split
          · obtain ⟨u, hu, he⟩ := c4 s (by omega)
            unfold alook
            refine ⟨mk, rd + 1, if mo < u + 1 then u + 1 else mo, tl, ?_, ?_, ?_, ?_, ?_, by omega, by omega, by split <;> omega, by omega, by omega, fun k hk => ?_, fun i hi => ?_⟩
            · rw [up2_ss, up2_n _ _ _ (by omega), up2_n _ _ _ (by omega), up2_n _ _ _ (by omega), c5, nI_add]
            · rw [up2_n _ _ _ (by omega), up2_n _ _ _ (by omega), up2_n _ _ _ (by omega), up2_n _ _ _ (by omega)]; exact c6
            · rw [up2_n _ _ _ (by omega), up2_ss, c7, nI_add]
            · rw [up2_n _ _ _ (by omega), up2_n _ _ _ (by omega), up2_ss, c8, he, nI_add]
              by_cases e : mo < u + 1
              · rw [if_pos e, if_pos (by rw [i_lt, nt _ (by omega), nt _ (by omega)]; omega)]
              · rw [if_neg e, if_neg (by rw [i_lt, nt _ (by omega), nt _ (by omega)]; omega)]
            · rw [up2_n _ _ _ (by omega), up2_n _ _ _ (by omega), up2_n _ _ _ (by omega), up2_n _ _ _ (by omega)]; exact c9
            · rw [up2_n _ _ _ (by omega), up2_n _ _ _ (by omega), up2_n _ _ _ (by omega)]
              by_cases e : k = s
              · subst e; exact ⟨u + 1, by omega, by rw [up2_ss, he, nI_add]⟩
              · obtain ⟨u2, hu2, he2⟩ := c4 k hk
                exact ⟨u2, by omega, by rw [up2_sn _ _ _ e]; exact he2⟩
            · rw [up2_n _ _ _ (by omega), up2_n _ _ _ (by omega), up2_n _ _ _ (by omega), up2_n _ _ _ (by omega)]; exact c1 i hi
          · refine ⟨mk, rd, mo, tl, ?_, ?_, ?_, ?_, ?_, by omega, by omega, by omega, by omega, by omega, fun k hk => ?_, fun i hi => ?_⟩
            · rw [up2_ss, up2_n _ _ _ (by omega), c5, nI_add]
            · rw [up2_n _ _ _ (by omega), up2_n _ _ _ (by omega)]; exact c6
            · rw [up2_n _ _ _ (by omega), up2_n _ _ _ (by omega)]; exact c7
            · rw [up2_n _ _ _ (by omega), up2_n _ _ _ (by omega)]; exact c8
            · rw [up2_n _ _ _ (by omega), up2_n _ _ _ (by omega)]; exact c9
            · rw [up2_n _ _ _ (by omega)]
              by_cases e : k = s
              · subst e; exact ⟨0, by omega, up2_ss _ _ _ _⟩
              · obtain ⟨u2, hu2, he2⟩ := c4 k hk
                exact ⟨u2, by omega, by rw [up2_sn _ _ _ e]; exact he2⟩
            · rw [up2_n _ _ _ (by omega), up2_n _ _ _ (by omega)]; exact c1 i hi
        · refine ⟨mk, rd, mo, tl, ?_, ?_, ?_, ?_, ?_, by omega, by omega, by omega, by omega, by omega, fun k hk => ?_, fun i hi => ?_⟩
          · rw [up2_ss, c5, nI_add]
          · rw [up2_n _ _ _ (by omega)]; exact c6
          · rw [up2_n _ _ _ (by omega)]; exact c7
          · rw [up2_n _ _ _ (by omega)]; exact c8
          · rw [up2_n _ _ _ (by omega)]; exact c9
          · obtain ⟨u, hu, he⟩ := c4 k hk
            exact ⟨u, by omega, by rw [up2_n _ _ _ (by omega)]; exact he⟩
          · rw [up2_n _ _ _ (by omega)]; exact c1 i hi
theorem s_X6_resultOf {G : xG} {d : Nat} {f : Nat → xC} {r : Nat × Nat} {Q : Option Value → xM → Prop} {a b n s : Nat} {σ δ : xS} {P : Nat → Nat → Nat} (hL : lat f b σ) (hd : b + 10 ≤ a ∨ a + 7 ≤ b) (hP : LsP σ n P) (hO : okP n P) (hs : s < n) (h0 : P s 0 = 0) (hb : ∀ i, i < 6 → -999 ≤ (δ 1 i).toInt ∧ (δ 1 i).toInt ≤ 999) (hq : Q (some (.int (mheld (mval (aterm δ (P s 3)) (aterm δ (P s 4)) (P s 2))))) (tput f a δ, r)) : xMet G (d + 4) mX6_resultOf [.ref a, .ref b, .int (nI s)] (tput f a δ, r) r Q := by
  refine xMet_0 (by decide +kernel) rfl (Nat.le_of_ble_eq_true rfl) ?_
  show xX G (d + 4) mX6_resultOf r r (xΦ G r r Q) 0 [(0, .ref a), (1, .ref b), (2, .int (nI s))] [] (tput f a δ, r)
  obtain ⟨hn, hn2, hS⟩ := id hP
  obtain ⟨⟨g0, g1, g2, g3, g5, g6, g7⟩, g8⟩ := hS s hs
  obtain ⟨k0, k1, k2, k3, k4, k6, k5⟩ := hO.2 s hs
  obtain ⟨hr4, hrk⟩ := rgt_ok hP hO hs h0
  have hop := nt (P s 2) (by omega)
  have hrg : P s 2 ≠ 0 → rgt P s = P s 4 := fun q => if_neg q
  refine xr_aload_n (n := 1) dX6_resultOf_0 rfl rfl ?_
  refine xr_aload_n (n := 2) dX6_resultOf_1 rfl rfl ?_
  refine xr_iload_n (n := 3) dX6_resultOf_2 rfl rfl ?_
  refine xr_callV (y2 := mX1_leftOf) (As := [_]) (n := 6) dX6_resultOf_3 lm_X6_110 pm_X1_leftOf pi_X1_leftOf (by first | exact tat_0 (tput_at _ _ _) | exact tat_r (tput_at _ _ _) (by decide) | exact lat_0 (lat_t hL hd) | exact lat_r (lat_t hL hd) (by decide)) rfl rfl rfl (by simp [Value.category]) rfl ⟨Nat.le_refl _, Nat.le_refl _⟩ ?_
  refine s_X1_leftOf (lat_t hL hd) hn hn2 hs ?_
  dsimp only [xK, xps]
  rw [(g2 h0).1]
  refine xr_callV (y2 := mX6_termValue) (As := [_]) (n := 9) dX6_resultOf_6 lm_X6_113 pm_X6_termValue pi_X6_termValue (by first | exact tat_0 (tput_at _ _ _) | exact tat_r (tput_at _ _ _) (by decide) | exact lat_0 (lat_t hL hd) | exact lat_r (lat_t hL hd) (by decide)) rfl rfl rfl (by simp [Value.category]) rfl ⟨Nat.le_refl _, Nat.le_refl _⟩ ?_
  refine s_X6_termValue (by assumption) ?_
  dsimp only [xK, xps]
  refine xq_istore_n 3 (n := 10) dX6_resultOf_9 rfl rfl rfl ?_
  simp only [xst, Nat.beq, List.filter, Bool.not_true, Bool.not_false]
  refine xr_aload_n (n := 11) dX6_resultOf_10 rfl rfl ?_
  refine xr_aload_n (n := 12) dX6_resultOf_11 rfl rfl ?_
  refine xr_iload_n (n := 13) dX6_resultOf_12 rfl rfl ?_
  refine xr_callV (y2 := mX1_rightOf) (As := [_]) (n := 16) dX6_resultOf_13 lm_X6_116 pm_X1_rightOf pi_X1_rightOf (by first | exact tat_0 (tput_at _ _ _) | exact tat_r (tput_at _ _ _) (by decide) | exact lat_0 (lat_t hL hd) | exact lat_r (lat_t hL hd) (by decide)) rfl rfl rfl (by simp [Value.category]) rfl ⟨Nat.le_refl _, Nat.le_refl _⟩ ?_
  refine s_X1_rightOf (lat_t hL hd) hn hn2 hs ?_
  dsimp only [xK, xps]
  rw [hr4]
  refine xr_callV (y2 := mX6_termValue) (As := [_]) (n := 19) dX6_resultOf_16 lm_X6_113 pm_X6_termValue pi_X6_termValue (by first | exact tat_0 (tput_at _ _ _) | exact tat_r (tput_at _ _ _) (by decide) | exact lat_0 (lat_t hL hd) | exact lat_r (lat_t hL hd) (by decide)) rfl rfl rfl (by simp [Value.category]) rfl ⟨Nat.le_refl _, Nat.le_refl _⟩ ?_
  refine s_X6_termValue (by assumption) ?_
  dsimp only [xK, xps]
  refine xr_istore (n := 21) dX6_resultOf_19 rfl rfl ?_
  simp only [xst, Nat.beq, List.filter, Bool.not_true, Bool.not_false]
  refine xr_aload_n (n := 22) dX6_resultOf_21 rfl rfl ?_
  refine xr_iload_n (n := 23) dX6_resultOf_22 rfl rfl ?_
  refine xr_callV (y2 := mX1_operatorOf) (As := [_]) (n := 26) dX6_resultOf_23 lm_X6_119 pm_X1_operatorOf pi_X1_operatorOf (by first | exact tat_0 (tput_at _ _ _) | exact tat_r (tput_at _ _ _) (by decide) | exact lat_0 (lat_t hL hd) | exact lat_r (lat_t hL hd) (by decide)) rfl rfl rfl (by simp [Value.category]) rfl ⟨Nat.le_refl _, Nat.le_refl _⟩ ?_
  refine s_X1_operatorOf (lat_t hL hd) hn hn2 hs ?_
  dsimp only [xK, xps]
  rw [g3]
  rcases (show (nI (P s 2)).toInt < 42 ∨ 45 < (nI (P s 2)).toInt ∨ (nI (P s 2)).toInt = 42 ∨ (nI (P s 2)).toInt = 43 ∨ (nI (P s 2)).toInt = 44 ∨ (nI (P s 2)).toInt = 45 by omega) with hx | hx | hx | hx | hx | hx
  · refine xr_tableOut (n := 80) dX6_resultOf_26 (Or.inl hx) (by decide) ?_
    refine xr_iload_n (n := 81) dX6_resultOf_80 rfl rfl ?_
    refine xr_ireturn dX6_resultOf_81 rfl rfl rfl ?_
    refine qi hq ?_
    unfold mval
    first
      | (exfalso; omega)
      | (rw [hrg (by omega), if_neg (by omega), if_pos (by omega)]; done)
      | (rw [hrg (by omega), if_neg (by omega), if_neg (by omega), if_pos (by omega)]; done)
      | (rw [hrg (by omega), if_neg (by omega), if_neg (by omega), if_neg (by omega)]; done)
      | (rw [if_pos (by omega)]; exact mheld_id (aterm_bd hb k3))
  · refine xr_tableOut (n := 80) dX6_resultOf_26 (Or.inr hx) (by decide) ?_
    refine xr_iload_n (n := 81) dX6_resultOf_80 rfl rfl ?_
    refine xr_ireturn dX6_resultOf_81 rfl rfl rfl ?_
    refine qi hq ?_
    unfold mval
    first
      | (exfalso; omega)
      | (rw [hrg (by omega), if_neg (by omega), if_pos (by omega)]; done)
      | (rw [hrg (by omega), if_neg (by omega), if_neg (by omega), if_pos (by omega)]; done)
      | (rw [hrg (by omega), if_neg (by omega), if_neg (by omega), if_neg (by omega)]; done)
      | (rw [if_pos (by omega)]; exact mheld_id (aterm_bd hb k3))
  · refine xr_tableIn (n := 72) (off := 46) dX6_resultOf_26 (by omega) (by omega) (by rw [hx]; rfl) (by decide) ?_
    refine xr_iload_n (n := 73) dX6_resultOf_72 rfl rfl ?_
    refine xr_iload (n := 75) dX6_resultOf_73 rfl rfl ?_
    refine xr_imul (n := 76) dX6_resultOf_75 rfl ?_
    refine xr_callS (y2 := mX6_nearestValue) (As := [_]) (n := 79) dX6_resultOf_76 lm_X6_122 pm_X6_nearestValue kp_static_yX6_nearestValue rfl rfl (by simp [Value.category]) rfl ⟨Nat.le_refl _, Nat.le_refl _⟩ ?_
    refine s_X6_nearestValue ?_
    dsimp only [xK, xps]
    refine xr_ireturn dX6_resultOf_79 rfl rfl rfl ?_
    refine qi hq ?_
    unfold mval
    first
      | (exfalso; omega)
      | (rw [hrg (by omega), if_neg (by omega), if_pos (by omega)]; done)
      | (rw [hrg (by omega), if_neg (by omega), if_neg (by omega), if_pos (by omega)]; done)
      | (rw [hrg (by omega), if_neg (by omega), if_neg (by omega), if_neg (by omega)]; done)
      | (rw [if_pos (by omega)]; exact mheld_id (aterm_bd hb k3))
  · refine xr_tableIn (n := 56) (off := 30) dX6_resultOf_26 (by omega) (by omega) (by rw [hx]; rfl) (by decide) ?_
    refine xr_iload_n (n := 57) dX6_resultOf_56 rfl rfl ?_
    refine xr_iload (n := 59) dX6_resultOf_57 rfl rfl ?_
    refine xr_iadd (n := 60) dX6_resultOf_59 rfl ?_
    refine xr_callS (y2 := mX6_nearestValue) (As := [_]) (n := 63) dX6_resultOf_60 lm_X6_122 pm_X6_nearestValue kp_static_yX6_nearestValue rfl rfl (by simp [Value.category]) rfl ⟨Nat.le_refl _, Nat.le_refl _⟩ ?_
    refine s_X6_nearestValue ?_
    dsimp only [xK, xps]
    refine xr_ireturn dX6_resultOf_63 rfl rfl rfl ?_
    refine qi hq ?_
    unfold mval
    first
      | (exfalso; omega)
      | (rw [hrg (by omega), if_neg (by omega), if_pos (by omega)]; done)
      | (rw [hrg (by omega), if_neg (by omega), if_neg (by omega), if_pos (by omega)]; done)
      | (rw [hrg (by omega), if_neg (by omega), if_neg (by omega), if_neg (by omega)]; done)
      | (rw [if_pos (by omega)]; exact mheld_id (aterm_bd hb k3))
  · refine xr_tableIn (n := 80) (off := 54) dX6_resultOf_26 (by omega) (by omega) (by rw [hx]; rfl) (by decide) ?_
    refine xr_iload_n (n := 81) dX6_resultOf_80 rfl rfl ?_
    refine xr_ireturn dX6_resultOf_81 rfl rfl rfl ?_
    refine qi hq ?_
    unfold mval
    first
      | (exfalso; omega)
      | (rw [hrg (by omega), if_neg (by omega), if_pos (by omega)]; done)
      | (rw [hrg (by omega), if_neg (by omega), if_neg (by omega), if_pos (by omega)]; done)
      | (rw [hrg (by omega), if_neg (by omega), if_neg (by omega), if_neg (by omega)]; done)
      | (rw [if_pos (by omega)]; exact mheld_id (aterm_bd hb k3))
  · refine xr_tableIn (n := 64) (off := 38) dX6_resultOf_26 (by omega) (by omega) (by rw [hx]; rfl) (by decide) ?_
    refine xr_iload_n (n := 65) dX6_resultOf_64 rfl rfl ?_
    refine xr_iload (n := 67) dX6_resultOf_65 rfl rfl ?_
    refine xr_isub (n := 68) dX6_resultOf_67 rfl ?_
    refine xr_callS (y2 := mX6_nearestValue) (As := [_]) (n := 71) dX6_resultOf_68 lm_X6_122 pm_X6_nearestValue kp_static_yX6_nearestValue rfl rfl (by simp [Value.category]) rfl ⟨Nat.le_refl _, Nat.le_refl _⟩ ?_
    refine s_X6_nearestValue ?_
    dsimp only [xK, xps]
    refine xr_ireturn dX6_resultOf_71 rfl rfl rfl ?_
    refine qi hq ?_
    unfold mval
    first
      | (exfalso; omega)
      | (rw [hrg (by omega), if_neg (by omega), if_pos (by omega)]; done)
      | (rw [hrg (by omega), if_neg (by omega), if_neg (by omega), if_pos (by omega)]; done)
      | (rw [hrg (by omega), if_neg (by omega), if_neg (by omega), if_neg (by omega)]; done)
      | (rw [if_pos (by omega)]; exact mheld_id (aterm_bd hb k3))

theorem s_X6_countLook {G : xG} {d : Nat} {f : Nat → xC} {r : Nat × Nat} {Q : Option Value → xM → Prop} {a s x rd mo : Nat} {δ : xS} {p : Prop} [Decidable p] (hs : s < 60) (hxe : δ 4 s = nI x) (hx : x ≤ 400) (c7 : δ 7 0 = nI rd) (c8 : δ 8 0 = nI mo) (hm : mo ≤ 400) (hq : Q none (tput f a (if p then alook s δ else up2 δ 4 s (nI 0)), r)) : xMet G (d + 5) mX6_countLook [.ref a, .int (nI s), .int (b2i p)] (tput f a δ, r) r Q := by
  refine xMet_0 (by decide +kernel) rfl (Nat.le_of_ble_eq_true rfl) ?_
  show xX G (d + 5) mX6_countLook r r (xΦ G r r Q) 0 [(0, .ref a), (1, .int (nI s)), (2, .int (b2i p))] [] (tput f a δ, r)
  refine xr_iload_n (n := 1) dX6_countLook_0 rfl rfl ?_
  refine xr_iconst (v := nI 0) (n := 2) dX6_countLook_1 (by decide) rfl ?_
  refine xr_bipush (v := nI 59) (n := 4) dX6_countLook_2 (by decide) rfl ?_
  refine xr_callS (y2 := mX7_isWithin) (As := [_, _, _]) (n := 7) dX6_countLook_4 lm_X6_100 pm_X7_isWithin kp_static_yX7_isWithin rfl rfl (by simp [Value.category]) rfl ⟨Nat.le_refl _, Nat.le_refl _⟩ ?_
  refine s_X7_isWithin ?_
  dsimp only [xK, xps]
  refine xr_beq (tgt := 49) (n := 10) dX6_countLook_7 (by decide) rfl (fun h7 => ?_) (fun h7 => ?_)
  · exact absurd (show (nI 0).toInt ≤ (nI s).toInt ∧ (nI s).toInt ≤ (nI 59).toInt from by rw [nt _ (by omega), nt _ (by omega), nt _ (by omega)]; omega) h7
  · refine xr_aload_n (n := 11) dX6_countLook_10 rfl rfl ?_
    refine xr_get (n := 14) dX6_countLook_11 fl_X6_28 (by first | exact tat_0 (tput_at _ _ _) | exact tat_r (tput_at _ _ _) (by decide)) (by rfl) rfl ?_
    refine xr_iload_n (n := 15) dX6_countLook_14 rfl rfl ?_
    refine xr_iload_n (n := 16) dX6_countLook_15 rfl rfl ?_
    refine xr_beq (tgt := 30) (n := 19) dX6_countLook_16 (by decide) rfl (fun h16 => ?_) (fun h16 => ?_)
    · refine xr_iconst (v := nI 0) (n := 31) dX6_countLook_30 (by decide) rfl ?_
      refine xq_iastore (n := 32) dX6_countLook_31 (by first | exact tat_0 (tput_at _ _ _) | exact tat_r (tput_at _ _ _) (by decide)) (by first | exact vp_in_nI (by omega) (by omega)) rfl ?_
      simp (disch := omega) only [nI_clamp, List.set, tw_0, tw_1, tw_2, tw_3, tw_4, tw_5, tw_6, tw_7, tw_8, tw_9, tw_10]
      refine xr_aload_n (n := 33) dX6_countLook_32 rfl rfl ?_
      refine xr_aload_n (n := 34) dX6_countLook_33 rfl rfl ?_
      refine xr_get (n := 37) dX6_countLook_34 fl_X6_61 (by first | exact tat_0 (tput_at _ _ _) | exact tat_r (tput_at _ _ _) (by decide)) (by rfl) rfl ?_
      (first | (simp (disch := omega) only [nI_clamp, pk_mul, nI_add, oi1, up2_ss, up2_n, up2_sn, ur_s, ur_n, Nat.reduceMul, Nat.reduceAdd, Nat.add_zero, hxe, c7, c8]) | skip)
      refine xr_aload_n (n := 38) dX6_countLook_37 rfl rfl ?_
      refine xr_get (n := 41) dX6_countLook_38 fl_X6_28 (by first | exact tat_0 (tput_at _ _ _) | exact tat_r (tput_at _ _ _) (by decide)) (by rfl) rfl ?_
      refine xr_iload_n (n := 42) dX6_countLook_41 rfl rfl ?_
      refine xr_iaload (n := 43) dX6_countLook_42 (by first | exact tat_0 (tput_at _ _ _) | exact tat_r (tput_at _ _ _) (by decide)) (by first | exact vp_in_nI (by omega) (by omega)) rfl ?_
      (first | (simp (disch := omega) only [nI_clamp, pk_mul, nI_add, oi1, up2_ss, up2_n, up2_sn, ur_s, ur_n, Nat.reduceMul, Nat.reduceAdd, Nat.add_zero, hxe, c7, c8]) | skip)
      refine xr_mmax (n := 46) dX6_countLook_43 km_X6_104 (by simp [Value.category]) rfl ?_
      skip
      refine xq_put (n := 49) dX6_countLook_46 fl_X6_61 rfl (by first | exact tat_0 (tput_at _ _ _) | exact tat_r (tput_at _ _ _) (by decide)) (by rfl) (by rfl) (by rfl) rfl ?_
      simp (disch := omega) only [nI_clamp, List.set, tw_0, tw_1, tw_2, tw_3, tw_4, tw_5, tw_6, tw_7, tw_8, tw_9, tw_10]
      refine xr_iload_n (n := 50) dX6_countLook_49 rfl rfl ?_
      refine xr_beq (tgt := 63) (n := 53) dX6_countLook_50 (by decide) rfl (fun h50 => ?_) (fun h50 => ?_)
      · refine xr_return dX6_countLook_63 rfl rfl ?_
        rw [if_neg h16] at hq
        refine qm hq ?_
        rw [if_neg (by rw [i_lt, nt _ (by omega), nt _ (by omega)]; omega), up2_id (s := up2 δ 4 s (nI 0)) (i := 8) (j := 0) (v := nI mo) (by rw [up2_n _ _ _ (by omega)]; exact c8)]
      · refine xr_aload_n (n := 54) dX6_countLook_53 rfl rfl ?_
        refine xr_dup (n := 55) dX6_countLook_54 rfl rfl ?_
        refine xr_get (n := 58) dX6_countLook_55 fl_X6_58 (by first | exact tat_0 (tput_at _ _ _) | exact tat_r (tput_at _ _ _) (by decide)) (by rfl) rfl ?_
        (first | (simp (disch := omega) only [nI_clamp, pk_mul, nI_add, oi1, up2_ss, up2_n, up2_sn, ur_s, ur_n, Nat.reduceMul, Nat.reduceAdd, Nat.add_zero, hxe, c7, c8]) | skip)
        refine xr_iconst (v := nI 1) (n := 59) dX6_countLook_58 (by decide) rfl ?_
        refine xr_iadd (n := 60) dX6_countLook_59 rfl ?_
        (first | (simp (disch := omega) only [nI_clamp, pk_mul, nI_add, oi1, up2_ss, up2_n, up2_sn, ur_s, ur_n, Nat.reduceMul, Nat.reduceAdd, Nat.add_zero, hxe, c7, c8]) | skip)
        refine xq_put (n := 63) dX6_countLook_60 fl_X6_58 rfl (by first | exact tat_0 (tput_at _ _ _) | exact tat_r (tput_at _ _ _) (by decide)) (by rfl) (by rfl) (by rfl) rfl ?_
        simp (disch := omega) only [nI_clamp, List.set, tw_0, tw_1, tw_2, tw_3, tw_4, tw_5, tw_6, tw_7, tw_8, tw_9, tw_10]
        refine xr_return dX6_countLook_63 rfl rfl ?_
        exact absurd h50 h16
    · refine xr_aload_n (n := 20) dX6_countLook_19 rfl rfl ?_
      refine xr_get (n := 23) dX6_countLook_20 fl_X6_28 (by first | exact tat_0 (tput_at _ _ _) | exact tat_r (tput_at _ _ _) (by decide)) (by rfl) rfl ?_
      refine xr_iload_n (n := 24) dX6_countLook_23 rfl rfl ?_
      refine xr_iaload (n := 25) dX6_countLook_24 (by first | exact tat_0 (tput_at _ _ _) | exact tat_r (tput_at _ _ _) (by decide)) (by first | exact vp_in_nI (by omega) (by omega)) rfl ?_
      (first | (simp (disch := omega) only [nI_clamp, pk_mul, nI_add, oi1, up2_ss, up2_n, up2_sn, ur_s, ur_n, Nat.reduceMul, Nat.reduceAdd, Nat.add_zero, hxe, c7, c8]) | skip)
      refine xr_iconst (v := nI 1) (n := 26) dX6_countLook_25 (by decide) rfl ?_
      refine xr_iadd (n := 27) dX6_countLook_26 rfl ?_
      (first | (simp (disch := omega) only [nI_clamp, pk_mul, nI_add, oi1, up2_ss, up2_n, up2_sn, ur_s, ur_n, Nat.reduceMul, Nat.reduceAdd, Nat.add_zero, hxe, c7, c8]) | skip)
      refine xr_goto (n := 31) dX6_countLook_27 (by decide) ?_
      refine xq_iastore (n := 32) dX6_countLook_31 (by first | exact tat_0 (tput_at _ _ _) | exact tat_r (tput_at _ _ _) (by decide)) (by first | exact vp_in_nI (by omega) (by omega)) rfl ?_
      simp (disch := omega) only [nI_clamp, List.set, tw_0, tw_1, tw_2, tw_3, tw_4, tw_5, tw_6, tw_7, tw_8, tw_9, tw_10]
      refine xr_aload_n (n := 33) dX6_countLook_32 rfl rfl ?_
      refine xr_aload_n (n := 34) dX6_countLook_33 rfl rfl ?_
      refine xr_get (n := 37) dX6_countLook_34 fl_X6_61 (by first | exact tat_0 (tput_at _ _ _) | exact tat_r (tput_at _ _ _) (by decide)) (by rfl) rfl ?_
      (first | (simp (disch := omega) only [nI_clamp, pk_mul, nI_add, oi1, up2_ss, up2_n, up2_sn, ur_s, ur_n, Nat.reduceMul, Nat.reduceAdd, Nat.add_zero, hxe, c7, c8]) | skip)
      refine xr_aload_n (n := 38) dX6_countLook_37 rfl rfl ?_
      refine xr_get (n := 41) dX6_countLook_38 fl_X6_28 (by first | exact tat_0 (tput_at _ _ _) | exact tat_r (tput_at _ _ _) (by decide)) (by rfl) rfl ?_
      refine xr_iload_n (n := 42) dX6_countLook_41 rfl rfl ?_
      refine xr_iaload (n := 43) dX6_countLook_42 (by first | exact tat_0 (tput_at _ _ _) | exact tat_r (tput_at _ _ _) (by decide)) (by first | exact vp_in_nI (by omega) (by omega)) rfl ?_
      (first | (simp (disch := omega) only [nI_clamp, pk_mul, nI_add, oi1, up2_ss, up2_n, up2_sn, ur_s, ur_n, Nat.reduceMul, Nat.reduceAdd, Nat.add_zero, hxe, c7, c8]) | skip)
      refine xr_mmax (n := 46) dX6_countLook_43 km_X6_104 (by simp [Value.category]) rfl ?_
      skip
      refine xq_put (n := 49) dX6_countLook_46 fl_X6_61 rfl (by first | exact tat_0 (tput_at _ _ _) | exact tat_r (tput_at _ _ _) (by decide)) (by rfl) (by rfl) (by rfl) rfl ?_
      simp (disch := omega) only [nI_clamp, List.set, tw_0, tw_1, tw_2, tw_3, tw_4, tw_5, tw_6, tw_7, tw_8, tw_9, tw_10]
      refine xr_iload_n (n := 50) dX6_countLook_49 rfl rfl ?_
      refine xr_beq (tgt := 63) (n := 53) dX6_countLook_50 (by decide) rfl (fun h50 => ?_) (fun h50 => ?_)
      · refine xr_return dX6_countLook_63 rfl rfl ?_
        exact absurd h16 h50
      · refine xr_aload_n (n := 54) dX6_countLook_53 rfl rfl ?_
        refine xr_dup (n := 55) dX6_countLook_54 rfl rfl ?_
        refine xr_get (n := 58) dX6_countLook_55 fl_X6_58 (by first | exact tat_0 (tput_at _ _ _) | exact tat_r (tput_at _ _ _) (by decide)) (by rfl) rfl ?_
        (first | (simp (disch := omega) only [nI_clamp, pk_mul, nI_add, oi1, up2_ss, up2_n, up2_sn, ur_s, ur_n, Nat.reduceMul, Nat.reduceAdd, Nat.add_zero, hxe, c7, c8]) | skip)
        refine xr_iconst (v := nI 1) (n := 59) dX6_countLook_58 (by decide) rfl ?_
        refine xr_iadd (n := 60) dX6_countLook_59 rfl ?_
        (first | (simp (disch := omega) only [nI_clamp, pk_mul, nI_add, oi1, up2_ss, up2_n, up2_sn, ur_s, ur_n, Nat.reduceMul, Nat.reduceAdd, Nat.add_zero, hxe, c7, c8]) | skip)
        refine xq_put (n := 63) dX6_countLook_60 fl_X6_58 rfl (by first | exact tat_0 (tput_at _ _ _) | exact tat_r (tput_at _ _ _) (by decide)) (by rfl) (by rfl) (by rfl) rfl ?_
        simp (disch := omega) only [nI_clamp, List.set, tw_0, tw_1, tw_2, tw_3, tw_4, tw_5, tw_6, tw_7, tw_8, tw_9, tw_10]
        refine xr_return dX6_countLook_63 rfl rfl ?_
        rw [if_pos h16] at hq
        unfold alook at hq
        rw [hxe, c7, c8, nI_add, nI_add] at hq
        exact hq

theorem s_X6_countLook_1 {G : xG} {d : Nat} {f : Nat → xC} {r : Nat × Nat} {Q : Option Value → xM → Prop} {a s x rd mo : Nat} {δ : xS} (hs : s < 60) (hxe : δ 4 s = nI x) (hx : x ≤ 400) (c7 : δ 7 0 = nI rd) (c8 : δ 8 0 = nI mo) (hm : mo ≤ 400) (hq : Q none (tput f a (alook s δ), r)) : xMet G (d + 5) mX6_countLook [.ref a, .int (nI s), .int (nI 1)] (tput f a δ, r) r Q :=
  s_X6_countLook (p := True) hs hxe hx c7 c8 hm hq
theorem s_X6_countLook_0 {G : xG} {d : Nat} {f : Nat → xC} {r : Nat × Nat} {Q : Option Value → xM → Prop} {a s x rd mo : Nat} {δ : xS} (hs : s < 60) (hxe : δ 4 s = nI x) (hx : x ≤ 400) (c7 : δ 7 0 = nI rd) (c8 : δ 8 0 = nI mo) (hm : mo ≤ 400) (hq : Q none (tput f a (up2 δ 4 s (nI 0)), r)) : xMet G (d + 5) mX6_countLook [.ref a, .int (nI s), .int (nI 0)] (tput f a δ, r) r Q :=
  s_X6_countLook (p := False) hs hxe hx c7 c8 hm hq