/-! the class: a step, a run -/
theorem lat_t {f : Nat → xC} {a b : Nat} {σ δ : xS} (h : lat f b σ) (hd : b + 10 ≤ a ∨ a + 7 ≤ b) : lat (tput f a δ) b σ := bat_out h (by omega)
def rgt (P : Nat → Nat → Nat) (s : Nat) : Nat := if P s 2 = 0 then 10 else P s 4
theorem rgt_ok {n s : Nat} {P : Nat → Nat → Nat} {σ : xS} (hP : LsP σ n P) (hO : okP n P) (hs : s < n) (h0 : P s 0 = 0) : σ 4 s = nI (tmv (rgt P s)) ∧ okT (rgt P s) := by
  obtain ⟨-, -, h3⟩ := hP
  obtain ⟨⟨-, -, hx, -⟩, -⟩ := h3 s hs
  obtain ⟨-, h4, h5⟩ := hx h0
  obtain ⟨-, -, -, -, ho, -⟩ := hO.2 s hs
  unfold rgt
  by_cases e : P s 2 = 0
  · rw [if_pos e]; exact ⟨h5 e, Or.inr ⟨by omega, by omega⟩⟩
  · rw [if_neg e]; exact ⟨h4 e, ho⟩
theorem aterm_bd {δ : xS} {u : Nat} (hb : ∀ i, i < 6 → -999 ≤ (δ 1 i).toInt ∧ (δ 1 i).toInt ≤ 999) (hu : okT u) : -999 ≤ (aterm δ u).toInt ∧ (aterm δ u).toInt ≤ 999 := by
  unfold aterm
  unfold okT at hu
  split
  · exact hb u (by omega)
  · rw [nt _ (by omega)]; omega
theorem s_X2_add_t {G : xG} {d : Nat} {f : Nat → xC} {r : Nat × Nat} {Q : Option Value → xM → Prop} {a tl : Nat} {δ : xS} {v : Int32} (h9 : δ 9 0 = nI tl) (hb : tl ≤ 400) (hq : Q none (tput f a (up2 (if tl < 40 then up2 δ 0 tl v else δ) 9 0 (nI (tl + 1))), r)) : xMet G (d + 1) mX2_add [.ref (a + 1), .int v] (tput f a δ, r) r Q := by
  have h := s_X2_add (G := G) (d := d) (r := r) (f := tput f a δ) (a := a + 1) (σ := δ) (v := v) (Q := Q) h9 hb (by
    rw [t_oput (fun w h0 h9 h10 => by
      rw [up2_n _ _ _ h9]
      split
      · exact up2_n _ _ _ h0
      · rfl)]
    exact hq)
  rw [oat_put (t_oat (tput_at f a δ))] at h
  exact h
theorem s_X2_begin_t {G : xG} {d : Nat} {f : Nat → xC} {r : Nat × Nat} {Q : Option Value → xM → Prop} {a : Nat} {δ : xS} (hq : Q none (tput f a (up2 δ 9 0 (nI 0)), r)) : xMet G d mX2_begin [.ref (a + 1)] (tput f a δ, r) r Q := by
  have h := s_X2_begin (G := G) (d := d) (r := r) (f := tput f a δ) (a := a + 1) (σ := δ) (Q := Q) (by
    rw [t_oput (fun w h0 h9 h10 => up2_n _ _ _ h9)]
    exact hq)
  rw [oat_put (t_oat (tput_at f a δ))] at h
  exact h
theorem trC_step {n s t mk rd mo tl : Nat} {P : Nat → Nat → Nat} {δ : xS} (hO : okP n P) (hs : s < n) (hC : trC δ t mk rd mo tl) (ht : t < 400) : ∃ mk' rd' mo' tl', trC (ainc (adata P s δ)) (t + 1) mk' rd' mo' tl' := by
  obtain ⟨c5, c6, c7, c8, c9, b6, b7, b8, b9, bt, c4, c1⟩ := hC
  have hs6 := (hO.2 s hs).2.1
  have hn60 := hO.1
  unfold ainc adata
  split
  · refine ⟨mk, rd, mo, tl, ?_⟩
    unfold aset
    refine ⟨?_, ?_, ?_, ?_, ?_, by omega, by omega, by omega, by omega, by omega, fun k hk => ?_, fun i hi => ?_⟩
    · rw [up2_ss, up2_n _ _ _ (by omega), c5, nI_add]
    · rw [up2_n _ _ _ (by omega), up2_n _ _ _ (by omega)]; exact c6
    · rw [up2_n _ _ _ (by omega), up2_n _ _ _ (by omega)]; exact c7
    · rw [up2_n _ _ _ (by omega), up2_n _ _ _ (by omega)]; exact c8
    · rw [up2_n _ _ _ (by omega), up2_n _ _ _ (by omega)]; exact c9
    · obtain ⟨u, hu, he⟩ := c4 k hk
      exact ⟨u, by omega, by rw [up2_n _ _ _ (by omega), up2_n _ _ _ (by omega)]; exact he⟩
    · rw [up2_n _ _ _ (by omega), up2_a, if_pos rfl]
      split
      · exact mheld_bd _
      · exact c1 i hi
  · split
    · refine ⟨mk, rd, mo, tl + 1, ?_⟩
      have hr : ∀ w, w ≠ 0 → (if ix (δ 9 0) < 40 then up2 δ 0 (ix (δ 9 0)) (δ 1 (P s 1)) else δ) w = δ w := fun w hw => by
        split
        · exact up2_n _ _ _ hw
        · rfl
      unfold atell
      refine ⟨?_, ?_, ?_, ?_, ?_, by omega, by omega, by omega, by omega, by omega, fun k hk => ?_, fun i hi => ?_⟩
      · rw [up2_ss, up2_n _ _ _ (by omega), hr 5 (by omega), c5, nI_add]
      · rw [up2_n _ _ _ (by omega), up2_n _ _ _ (by omega), hr 6 (by omega)]; exact c6
      · rw [up2_n _ _ _ (by omega), up2_n _ _ _ (by omega), hr 7 (by omega)]; exact c7
      · rw [up2_n _ _ _ (by omega), up2_n _ _ _ (by omega), hr 8 (by omega)]; exact c8
      · rw [up2_n _ _ _ (by omega), up2_ss, c9, nI_add]
      · obtain ⟨u, hu, he⟩ := c4 k hk
        exact ⟨u, by omega, by rw [up2_n _ _ _ (by omega), up2_n _ _ _ (by omega), hr 4 (by omega)]; exact he⟩
      · rw [up2_n _ _ _ (by omega), up2_n _ _ _ (by omega), hr 1 (by omega)]; exact c1 i hi
    · split
      · refine ⟨mk + 1, rd, mo, tl, ?_⟩
        have hr : ∀ w, w ≠ 3 → w ≠ 2 → (if ix (δ 6 0) < 40 then ur (up2 δ 3 (ix (δ 6 0)) (δ 5 0)) 2 (fo (fun c => δ 1 c) (δ 2) (6 * ix (δ 6 0)) 6) else δ) w = δ w := fun w hw hw2 => by
          split
          · rw [ur_n _ _ hw2, up2_n _ _ _ hw]
          · rfl
        unfold amark
        refine ⟨?_, ?_, ?_, ?_, ?_, by omega, by omega, by omega, by omega, by omega, fun k hk => ?_, fun i hi => ?_⟩
        · rw [up2_ss, up2_n _ _ _ (by omega), hr 5 (by omega) (by omega), c5, nI_add]
        · rw [up2_n _ _ _ (by omega), up2_ss, c6, nI_add]
        · rw [up2_n _ _ _ (by omega), up2_n _ _ _ (by omega), hr 7 (by omega) (by omega)]; exact c7
        · rw [up2_n _ _ _ (by omega), up2_n _ _ _ (by omega), hr 8 (by omega) (by omega)]; exact c8
        · rw [up2_n _ _ _ (by omega), up2_n _ _ _ (by omega), hr 9 (by omega) (by omega)]; exact c9
        · obtain ⟨u, hu, he⟩ := c4 k hk
          exact ⟨u, by omega, by rw [up2_n _ _ _ (by omega), up2_n _ _ _ (by omega), hr 4 (by omega) (by omega)]; exact he⟩
        · rw [up2_n _ _ _ (by omega), up2_n _ _ _ (by omega), hr 1 (by omega) (by omega)]; exact c1 i hi
      · split
        · split
          · obtain ⟨u, hu, he⟩ := c4 s (by omega)
            unfold alook
            refine ⟨mk, rd + 1, if mo < u + 1 then u + 1 else mo, tl, ?_, ?_, ?_, ?_, ?_, by omega, by omega, by split <;> omega, by omega, by omega, fun k hk => ?_, fun i hi => ?_⟩
            · rw [up2_ss, up2_n _ _ _ (by omega), up2_n _ _ _ (by omega), up2_n _ _ _ (by omega), c5, nI_add]
            · rw [up2_n _ _ _ (by omega), up2_n _ _ _ (by omega), up2_n _ _ _ (by omega), up2_n _ _ _ (by omega)]; exact c6
            · rw [up2_n _ _ _ (by omega), up2_ss, c7, nI_add]
            · rw [up2_n _ _ _ (by omega), up2_n _ _ _ (by omega), up2_ss, c8, he, nI_add]
              by_cases e : mo < u + 1
              · rw [if_pos e, if_pos (by rw [i_lt, nt _ (by omega), nt _ (by omega)]; omega)]
              · rw [if_neg e, if_neg (by rw [i_lt, nt _ (by omega), nt _ (by omega)]; omega)]
            · rw [up2_n _ _ _ (by omega), up2_n _ _ _ (by omega), up2_n _ _ _ (by omega), up2_n _ _ _ (by omega)]; exact c9
            · rw [up2_n _ _ _ (by omega), up2_n _ _ _ (by omega), up2_n _ _ _ (by omega)]
              by_cases e : k = s
              · subst e; exact ⟨u + 1, by omega, by rw [up2_ss, he, nI_add]⟩
              · obtain ⟨u2, hu2, he2⟩ := c4 k hk
                exact ⟨u2, by omega, by rw [up2_sn _ _ _ e]; exact he2⟩
            · rw [up2_n _ _ _ (by omega), up2_n _ _ _ (by omega), up2_n _ _ _ (by omega), up2_n _ _ _ (by omega)]; exact c1 i hi
          · refine ⟨mk, rd, mo, tl, ?_, ?_, ?_, ?_, ?_, by omega, by omega, by omega, by omega, by omega, fun k hk => ?_, fun i hi => ?_⟩
            · rw [up2_ss, up2_n _ _ _ (by omega), c5, nI_add]
            · rw [up2_n _ _ _ (by omega), up2_n _ _ _ (by omega)]; exact c6
            · rw [up2_n _ _ _ (by omega), up2_n _ _ _ (by omega)]; exact c7
            · rw [up2_n _ _ _ (by omega), up2_n _ _ _ (by omega)]; exact c8
            · rw [up2_n _ _ _ (by omega), up2_n _ _ _ (by omega)]; exact c9
            · rw [up2_n _ _ _ (by omega)]
              by_cases e : k = s
              · subst e; exact ⟨0, by omega, up2_ss _ _ _ _⟩
              · obtain ⟨u2, hu2, he2⟩ := c4 k hk
                exact ⟨u2, by omega, by rw [up2_sn _ _ _ e]; exact he2⟩
            · rw [up2_n _ _ _ (by omega), up2_n _ _ _ (by omega)]; exact c1 i hi
        · refine ⟨mk, rd, mo, tl, ?_, ?_, ?_, ?_, ?_, by omega, by omega, by omega, by omega, by omega, fun k hk => ?_, fun i hi => ?_⟩
          · rw [up2_ss, c5, nI_add]
          · rw [up2_n _ _ _ (by omega)]; exact c6
          · rw [up2_n _ _ _ (by omega)]; exact c7
          · rw [up2_n _ _ _ (by omega)]; exact c8
          · rw [up2_n _ _ _ (by omega)]; exact c9
          · obtain ⟨u, hu, he⟩ := c4 k hk
            exact ⟨u, by omega, by rw [up2_n _ _ _ (by omega)]; exact he⟩
          · rw [up2_n _ _ _ (by omega)]; exact c1 i hi
theorem s_X6_resultOf {G : xG} {d : Nat} {f : Nat → xC} {r : Nat × Nat} {Q : Option Value → xM → Prop} {a b n s : Nat} {σ δ : xS} {P : Nat → Nat → Nat} (hL : lat f b σ) (hd : b + 10 ≤ a ∨ a + 7 ≤ b) (hP : LsP σ n P) (hO : okP n P) (hs : s < n) (h0 : P s 0 = 0) (hb : ∀ i, i < 6 → -999 ≤ (δ 1 i).toInt ∧ (δ 1 i).toInt ≤ 999) (hq : Q (some (.int (mheld (mval (aterm δ (P s 3)) (aterm δ (P s 4)) (P s 2))))) (tput f a δ, r)) : xMet G (d + 4) mX6_resultOf [.ref a, .ref b, .int (nI s)] (tput f a δ, r) r Q := by
  refine xMet_0 (by decide +kernel) rfl (Nat.le_of_ble_eq_true rfl) ?_
  show xX G (d + 4) mX6_resultOf r r (xΦ G r r Q) 0 [(0, .ref a), (1, .ref b), (2, .int (nI s))] [] (tput f a δ, r)
  obtain ⟨hn, hn2, hS⟩ := id hP
  obtain ⟨⟨g0, g1, g2, g3, g5, g6, g7⟩, g8⟩ := hS s hs
  obtain ⟨k0, k1, k2, k3, k4, k6, k5⟩ := hO.2 s hs
  obtain ⟨hr4, hrk⟩ := rgt_ok hP hO hs h0
  have hop := nt (P s 2) (by omega)
  have hrg : P s 2 ≠ 0 → rgt P s = P s 4 := fun q => if_neg q
  refine xr_aload_n (n := 1) dX6_resultOf_0 rfl rfl ?_
  refine xr_aload_n (n := 2) dX6_resultOf_1 rfl rfl ?_
  refine xr_iload_n (n := 3) dX6_resultOf_2 rfl rfl ?_
  refine xr_callV (y2 := mX1_leftOf) (As := [_]) (n := 6) dX6_resultOf_3 lm_X6_109 pm_X1_leftOf pi_X1_leftOf (by first | exact tat_0 (tput_at _ _ _) | exact tat_r (tput_at _ _ _) (by decide) | exact lat_0 (lat_t hL hd) | exact lat_r (lat_t hL hd) (by decide)) rfl rfl rfl (by simp [Value.category]) rfl ⟨Nat.le_refl _, Nat.le_refl _⟩ ?_
  refine s_X1_leftOf (lat_t hL hd) hn hn2 hs ?_
  dsimp only [xK, xps]
  rw [(g2 h0).1]
  refine xr_callV (y2 := mX6_termValue) (As := [_]) (n := 9) dX6_resultOf_6 lm_X6_112 pm_X6_termValue pi_X6_termValue (by first | exact tat_0 (tput_at _ _ _) | exact tat_r (tput_at _ _ _) (by decide) | exact lat_0 (lat_t hL hd) | exact lat_r (lat_t hL hd) (by decide)) rfl rfl rfl (by simp [Value.category]) rfl ⟨Nat.le_refl _, Nat.le_refl _⟩ ?_
  refine s_X6_termValue (by assumption) ?_
  dsimp only [xK, xps]
  refine xq_istore_n 3 (n := 10) dX6_resultOf_9 rfl rfl rfl ?_
  simp only [xst, Nat.beq, List.filter, Bool.not_true, Bool.not_false]
  refine xr_aload_n (n := 11) dX6_resultOf_10 rfl rfl ?_
  refine xr_aload_n (n := 12) dX6_resultOf_11 rfl rfl ?_
  refine xr_iload_n (n := 13) dX6_resultOf_12 rfl rfl ?_
  refine xr_callV (y2 := mX1_rightOf) (As := [_]) (n := 16) dX6_resultOf_13 lm_X6_115 pm_X1_rightOf pi_X1_rightOf (by first | exact tat_0 (tput_at _ _ _) | exact tat_r (tput_at _ _ _) (by decide) | exact lat_0 (lat_t hL hd) | exact lat_r (lat_t hL hd) (by decide)) rfl rfl rfl (by simp [Value.category]) rfl ⟨Nat.le_refl _, Nat.le_refl _⟩ ?_
  refine s_X1_rightOf (lat_t hL hd) hn hn2 hs ?_
  dsimp only [xK, xps]
  rw [hr4]
  refine xr_callV (y2 := mX6_termValue) (As := [_]) (n := 19) dX6_resultOf_16 lm_X6_112 pm_X6_termValue pi_X6_termValue (by first | exact tat_0 (tput_at _ _ _) | exact tat_r (tput_at _ _ _) (by decide) | exact lat_0 (lat_t hL hd) | exact lat_r (lat_t hL hd) (by decide)) rfl rfl rfl (by simp [Value.category]) rfl ⟨Nat.le_refl _, Nat.le_refl _⟩ ?_
  refine s_X6_termValue (by assumption) ?_
  dsimp only [xK, xps]
  refine xr_istore (n := 21) dX6_resultOf_19 rfl rfl ?_
  simp only [xst, Nat.beq, List.filter, Bool.not_true, Bool.not_false]
  refine xr_aload_n (n := 22) dX6_resultOf_21 rfl rfl ?_
  refine xr_iload_n (n := 23) dX6_resultOf_22 rfl rfl ?_
  refine xr_callV (y2 := mX1_operatorOf) (As := [_]) (n := 26) dX6_resultOf_23 lm_X6_118 pm_X1_operatorOf pi_X1_operatorOf (by first | exact tat_0 (tput_at _ _ _) | exact tat_r (tput_at _ _ _) (by decide) | exact lat_0 (lat_t hL hd) | exact lat_r (lat_t hL hd) (by decide)) rfl rfl rfl (by simp [Value.category]) rfl ⟨Nat.le_refl _, Nat.le_refl _⟩ ?_
  refine s_X1_operatorOf (lat_t hL hd) hn hn2 hs ?_
  dsimp only [xK, xps]
  rw [g3]
  rcases (show (nI (P s 2)).toInt < 42 ∨ 45 < (nI (P s 2)).toInt ∨ (nI (P s 2)).toInt = 42 ∨ (nI (P s 2)).toInt = 43 ∨ (nI (P s 2)).toInt = 44 ∨ (nI (P s 2)).toInt = 45 by omega) with hx | hx | hx | hx | hx | hx
  · refine xr_tableOut (n := 80) dX6_resultOf_26 (Or.inl hx) (by decide) ?_
    refine xr_iload_n (n := 81) dX6_resultOf_80 rfl rfl ?_
    refine xr_ireturn dX6_resultOf_81 rfl rfl rfl ?_
    refine qi hq ?_
    unfold mval
    first
      | (exfalso; omega)
      | (rw [hrg (by omega), if_neg (by omega), if_pos (by omega)]; done)
      | (rw [hrg (by omega), if_neg (by omega), if_neg (by omega), if_pos (by omega)]; done)
      | (rw [hrg (by omega), if_neg (by omega), if_neg (by omega), if_neg (by omega)]; done)
      | (rw [if_pos (by omega)]; exact mheld_id (aterm_bd hb k3))
  · refine xr_tableOut (n := 80) dX6_resultOf_26 (Or.inr hx) (by decide) ?_
    refine xr_iload_n (n := 81) dX6_resultOf_80 rfl rfl ?_
    refine xr_ireturn dX6_resultOf_81 rfl rfl rfl ?_
    refine qi hq ?_
    unfold mval
    first
      | (exfalso; omega)
      | (rw [hrg (by omega), if_neg (by omega), if_pos (by omega)]; done)
      | (rw [hrg (by omega), if_neg (by omega), if_neg (by omega), if_pos (by omega)]; done)
      | (rw [hrg (by omega), if_neg (by omega), if_neg (by omega), if_neg (by omega)]; done)
      | (rw [if_pos (by omega)]; exact mheld_id (aterm_bd hb k3))
  · refine xr_tableIn (n := 72) (off := 46) dX6_resultOf_26 (by omega) (by omega) (by rw [hx]; rfl) (by decide) ?_
    refine xr_iload_n (n := 73) dX6_resultOf_72 rfl rfl ?_
    refine xr_iload (n := 75) dX6_resultOf_73 rfl rfl ?_
    refine xr_imul (n := 76) dX6_resultOf_75 rfl ?_
    refine xr_callS (y2 := mX6_nearestValue) (As := [_]) (n := 79) dX6_resultOf_76 lm_X6_121 pm_X6_nearestValue kp_static_yX6_nearestValue rfl rfl (by simp [Value.category]) rfl ⟨Nat.le_refl _, Nat.le_refl _⟩ ?_
    refine s_X6_nearestValue ?_
    dsimp only [xK, xps]
    refine xr_ireturn dX6_resultOf_79 rfl rfl rfl ?_
    refine qi hq ?_
    unfold mval
    first
      | (exfalso; omega)
      | (rw [hrg (by omega), if_neg (by omega), if_pos (by omega)]; done)
      | (rw [hrg (by omega), if_neg (by omega), if_neg (by omega), if_pos (by omega)]; done)
      | (rw [hrg (by omega), if_neg (by omega), if_neg (by omega), if_neg (by omega)]; done)
      | (rw [if_pos (by omega)]; exact mheld_id (aterm_bd hb k3))
  · refine xr_tableIn (n := 56) (off := 30) dX6_resultOf_26 (by omega) (by omega) (by rw [hx]; rfl) (by decide) ?_
    refine xr_iload_n (n := 57) dX6_resultOf_56 rfl rfl ?_
    refine xr_iload (n := 59) dX6_resultOf_57 rfl rfl ?_
    refine xr_iadd (n := 60) dX6_resultOf_59 rfl ?_
    refine xr_callS (y2 := mX6_nearestValue) (As := [_]) (n := 63) dX6_resultOf_60 lm_X6_121 pm_X6_nearestValue kp_static_yX6_nearestValue rfl rfl (by simp [Value.category]) rfl ⟨Nat.le_refl _, Nat.le_refl _⟩ ?_
    refine s_X6_nearestValue ?_
    dsimp only [xK, xps]
    refine xr_ireturn dX6_resultOf_63 rfl rfl rfl ?_
    refine qi hq ?_
    unfold mval
    first
      | (exfalso; omega)
      | (rw [hrg (by omega), if_neg (by omega), if_pos (by omega)]; done)
      | (rw [hrg (by omega), if_neg (by omega), if_neg (by omega), if_pos (by omega)]; done)
      | (rw [hrg (by omega), if_neg (by omega), if_neg (by omega), if_neg (by omega)]; done)
      | (rw [if_pos (by omega)]; exact mheld_id (aterm_bd hb k3))
  · refine xr_tableIn (n := 80) (off := 54) dX6_resultOf_26 (by omega) (by omega) (by rw [hx]; rfl) (by decide) ?_
    refine xr_iload_n (n := 81) dX6_resultOf_80 rfl rfl ?_
    refine xr_ireturn dX6_resultOf_81 rfl rfl rfl ?_
    refine qi hq ?_
    unfold mval
    first
      | (exfalso; omega)
      | (rw [hrg (by omega), if_neg (by omega), if_pos (by omega)]; done)
      | (rw [hrg (by omega), if_neg (by omega), if_neg (by omega), if_pos (by omega)]; done)
      | (rw [hrg (by omega), if_neg (by omega), if_neg (by omega), if_neg (by omega)]; done)
      | (rw [if_pos (by omega)]; exact mheld_id (aterm_bd hb k3))
  · refine xr_tableIn (n := 64) (off := 38) dX6_resultOf_26 (by omega) (by omega) (by rw [hx]; rfl) (by decide) ?_
    refine xr_iload_n (n := 65) dX6_resultOf_64 rfl rfl ?_
    refine xr_iload (n := 67) dX6_resultOf_65 rfl rfl ?_
    refine xr_isub (n := 68) dX6_resultOf_67 rfl ?_
    refine xr_callS (y2 := mX6_nearestValue) (As := [_]) (n := 71) dX6_resultOf_68 lm_X6_121 pm_X6_nearestValue kp_static_yX6_nearestValue rfl rfl (by simp [Value.category]) rfl ⟨Nat.le_refl _, Nat.le_refl _⟩ ?_
    refine s_X6_nearestValue ?_
    dsimp only [xK, xps]
    refine xr_ireturn dX6_resultOf_71 rfl rfl rfl ?_
    refine qi hq ?_
    unfold mval
    first
      | (exfalso; omega)
      | (rw [hrg (by omega), if_neg (by omega), if_pos (by omega)]; done)
      | (rw [hrg (by omega), if_neg (by omega), if_neg (by omega), if_pos (by omega)]; done)
      | (rw [hrg (by omega), if_neg (by omega), if_neg (by omega), if_neg (by omega)]; done)
      | (rw [if_pos (by omega)]; exact mheld_id (aterm_bd hb k3))

theorem s_X6_look {G : xG} {d : Nat} {f : Nat → xC} {r : Nat × Nat} {Q : Option Value → xM → Prop} {a b n s : Nat} {σ δ : xS} {P : Nat → Nat → Nat} {t mk rd mo tl : Nat} (hL : lat f b σ) (hd : b + 10 ≤ a ∨ a + 7 ≤ b) (hP : LsP σ n P) (hO : okP n P) (hs : s < n) (h3 : P s 0 = 3) (hC : trC δ t mk rd mo tl) (ht : t < 400) (hq : Q (some (.int (nI (anext P s δ)))) (tput f a (adata P s δ), r)) : xMet G (d + 5) mX6_look [.ref a, .ref b, .int (nI s)] (tput f a δ, r) r Q := by
  refine xMet_0 (by decide +kernel) rfl (Nat.le_of_ble_eq_true rfl) ?_
  show xX G (d + 5) mX6_look r r (xΦ G r r Q) 0 [(0, .ref a), (1, .ref b), (2, .int (nI s))] [] (tput f a δ, r)
  obtain ⟨hn, hn2, hS⟩ := id hP
  obtain ⟨⟨g0, g1, g2, g3, g5, g6, g7⟩, g8⟩ := hS s hs
  obtain ⟨k0, k1, k2, k3, k4, k6, k5⟩ := hO.2 s hs
  obtain ⟨c5, c6, c7, c8, c9, b6, b7, b8, b9, bt, c4, c1⟩ := id hC
  obtain ⟨x, hx, hxe⟩ := c4 s (by omega)
  have h36 := k6 (by omega)
  have hmid : mid P s = P s 6 := if_pos h3
  have hpe : pend P s = P s 6 := if_pos (by omega)
  rw [hmid] at g6
  rw [hpe] at g7
  refine xr_aload_n (n := 1) dX6_look_0 rfl rfl ?_
  refine xr_aload_n (n := 2) dX6_look_1 rfl rfl ?_
  refine xr_iload_n (n := 3) dX6_look_2 rfl rfl ?_
  refine xr_callV (y2 := mX1_targetOf) (As := [_]) (n := 6) dX6_look_3 lm_X6_68 pm_X1_targetOf pi_X1_targetOf (by first | exact tat_0 (tput_at _ _ _) | exact tat_r (tput_at _ _ _) (by decide) | exact lat_0 (lat_t hL hd) | exact lat_r (lat_t hL hd) (by decide)) rfl rfl rfl (by simp [Value.category]) rfl ⟨Nat.le_refl _, Nat.le_refl _⟩ ?_
  refine s_X1_targetOf (lat_t hL hd) hn hn2 hs ?_
  dsimp only [xK, xps]
  rw [g1]
  refine xr_callV (y2 := mX6_valueOf) (As := [_]) (n := 9) dX6_look_6 lm_X6_80 pm_X6_valueOf pi_X6_valueOf (by first | exact tat_0 (tput_at _ _ _) | exact tat_r (tput_at _ _ _) (by decide) | exact lat_0 (lat_t hL hd) | exact lat_r (lat_t hL hd) (by decide)) rfl rfl rfl (by simp [Value.category]) rfl ⟨Nat.le_refl _, Nat.le_refl _⟩ ?_
  refine s_X6_valueOf' (by omega) ?_
  dsimp only [xK, xps]
  refine xr_if_le (tgt := 16) (n := 12) dX6_look_9 (by decide) rfl (fun h9 => ?_) (fun h9 => ?_)
  · have hpos : ¬ 0 < δ 1 (P s 1) := by ((try simp (disch := omega) only [i_lt, i_le, i_eq, nt, i_m1, Int32.toInt_zero] at *); omega)
    refine xr_iconst (v := nI 0) (n := 17) dX6_look_16 (by decide) rfl ?_
    refine xq_istore_n 3 (n := 18) dX6_look_17 rfl rfl rfl ?_
    simp only [xst, Nat.beq, List.filter, Bool.not_true, Bool.not_false]
    refine xr_iload_n (n := 19) dX6_look_18 rfl rfl ?_
    refine xr_iconst (v := nI 0) (n := 20) dX6_look_19 (by decide) rfl ?_
    refine xr_bipush (v := nI 59) (n := 22) dX6_look_20 (by decide) rfl ?_
    refine xr_callS (y2 := mX7_isWithin) (As := [_, _, _]) (n := 25) dX6_look_22 lm_X6_99 pm_X7_isWithin kp_static_yX7_isWithin rfl rfl (by simp [Value.category]) rfl ⟨Nat.le_refl _, Nat.le_refl _⟩ ?_
    refine s_X7_isWithin ?_
    dsimp only [xK, xps]
    refine xr_beq (tgt := 67) (n := 28) dX6_look_25 (by decide) rfl (fun h25 => ?_) (fun h25 => ?_)
    · exact absurd (show (nI 0).toInt ≤ (nI s).toInt ∧ (nI s).toInt ≤ (nI 59).toInt from by rw [nt _ (by omega), nt _ (by omega), nt _ (by omega)]; omega) h25
    · refine xr_aload_n (n := 29) dX6_look_28 rfl rfl ?_
      refine xr_get (n := 32) dX6_look_29 fl_X6_28 (by first | exact tat_0 (tput_at _ _ _) | exact tat_r (tput_at _ _ _) (by decide) | exact lat_0 (lat_t hL hd) | exact lat_r (lat_t hL hd) (by decide)) (by rfl) rfl ?_
      refine xr_iload_n (n := 33) dX6_look_32 rfl rfl ?_
      refine xr_iload_n (n := 34) dX6_look_33 rfl rfl ?_
      refine xr_if_eq (tgt := 48) (n := 37) dX6_look_34 (by decide) rfl (fun h34 => ?_) (fun h34 => by (exfalso; revert h34; decide))
      refine xr_iconst (v := nI 0) (n := 49) dX6_look_48 (by decide) rfl ?_
      refine xq_iastore (n := 50) dX6_look_49 (by first | exact tat_0 (tput_at _ _ _) | exact tat_r (tput_at _ _ _) (by decide) | exact lat_0 (lat_t hL hd) | exact lat_r (lat_t hL hd) (by decide)) (by first | exact vp_in_nI (by omega) (by omega)) rfl ?_
      simp (disch := omega) only [nI_clamp, List.set, tw_0, tw_1, tw_2, tw_3, tw_4, tw_5, tw_6, tw_7, tw_8, tw_9, tw_10]
      refine xr_aload_n (n := 51) dX6_look_50 rfl rfl ?_
      refine xr_aload_n (n := 52) dX6_look_51 rfl rfl ?_
      refine xr_get (n := 55) dX6_look_52 fl_X6_61 (by first | exact tat_0 (tput_at _ _ _) | exact tat_r (tput_at _ _ _) (by decide) | exact lat_0 (lat_t hL hd) | exact lat_r (lat_t hL hd) (by decide)) (by rfl) rfl ?_
      (first | (simp (disch := omega) only [nI_clamp, pk_mul, nI_add, oi1, up2_ss, up2_n, up2_sn, ur_s, ur_n, Nat.reduceMul, Nat.reduceAdd, Nat.add_zero, hxe, c7, c8]) | skip)
      refine xr_aload_n (n := 56) dX6_look_55 rfl rfl ?_
      refine xr_get (n := 59) dX6_look_56 fl_X6_28 (by first | exact tat_0 (tput_at _ _ _) | exact tat_r (tput_at _ _ _) (by decide) | exact lat_0 (lat_t hL hd) | exact lat_r (lat_t hL hd) (by decide)) (by rfl) rfl ?_
      refine xr_iload_n (n := 60) dX6_look_59 rfl rfl ?_
      refine xr_iaload (n := 61) dX6_look_60 (by first | exact tat_0 (tput_at _ _ _) | exact tat_r (tput_at _ _ _) (by decide) | exact lat_0 (lat_t hL hd) | exact lat_r (lat_t hL hd) (by decide)) (by first | exact vp_in_nI (by omega) (by omega)) rfl ?_
      (first | (simp (disch := omega) only [nI_clamp, pk_mul, nI_add, oi1, up2_ss, up2_n, up2_sn, ur_s, ur_n, Nat.reduceMul, Nat.reduceAdd, Nat.add_zero, hxe, c7, c8]) | skip)
      refine xr_mmax (n := 64) dX6_look_61 km_X6_103 (by simp [Value.category]) rfl ?_
      skip
      refine xq_put (n := 67) dX6_look_64 fl_X6_61 rfl (by first | exact tat_0 (tput_at _ _ _) | exact tat_r (tput_at _ _ _) (by decide) | exact lat_0 (lat_t hL hd) | exact lat_r (lat_t hL hd) (by decide)) (by rfl) (by rfl) (by rfl) rfl ?_
      simp (disch := omega) only [nI_clamp, List.set, tw_0, tw_1, tw_2, tw_3, tw_4, tw_5, tw_6, tw_7, tw_8, tw_9, tw_10]
      refine xr_iload_n (n := 68) dX6_look_67 rfl rfl ?_
      refine xr_if_eq (tgt := 81) (n := 71) dX6_look_68 (by decide) rfl (fun h68 => ?_) (fun h68 => by (exfalso; revert h68; decide))
      refine xr_iload_n (n := 82) dX6_look_81 rfl rfl ?_
      refine xr_if_eq (tgt := 93) (n := 85) dX6_look_82 (by decide) rfl (fun h82 => ?_) (fun h82 => by (exfalso; revert h82; decide))
      refine xr_aload_n (n := 94) dX6_look_93 rfl rfl ?_
      refine xr_iload_n (n := 95) dX6_look_94 rfl rfl ?_
      refine xr_callV (y2 := mX1_passed) (As := [_]) (n := 98) dX6_look_95 lm_X6_96 pm_X1_passed pi_X1_passed (by first | exact tat_0 (tput_at _ _ _) | exact tat_r (tput_at _ _ _) (by decide) | exact lat_0 (lat_t hL hd) | exact lat_r (lat_t hL hd) (by decide)) rfl rfl rfl (by simp [Value.category]) rfl ⟨Nat.le_refl _, Nat.le_refl _⟩ ?_
      refine s_X1_passed (lat_t hL hd) hn hn2 hs g6 (by omega) g7 (by omega) ?_
      dsimp only [xK, xps]
      refine xr_ireturn dX6_look_98 rfl rfl rfl ?_
      have hA : adata P s δ = up2 δ 4 s (nI 0) := by
        unfold adata
        rw [if_neg (by omega), if_neg (by omega), if_neg (by omega), if_pos h3, if_neg hpos]
      have hN : anext P s δ = fol P s := by
        unfold anext
        rw [if_neg (by omega), if_pos h3, if_neg hpos]
      rw [hA, hN] at hq
      refine qi (qm hq ?_) ?_
      · rw [if_neg (by rw [i_lt, nt _ (by omega), nt _ (by omega)]; omega), up2_id (s := up2 δ 4 s (nI 0)) (i := 8) (j := 0) (v := nI mo) (by rw [up2_n _ _ _ (by omega)]; exact c8)]
      · rw [if_neg (by omega), g8]
  · have hpos : 0 < δ 1 (P s 1) := by ((try simp (disch := omega) only [i_lt, i_le, i_eq, nt, i_m1, Int32.toInt_zero] at *); omega)
    refine xr_iconst (v := nI 1) (n := 13) dX6_look_12 (by decide) rfl ?_
    refine xr_goto (n := 17) dX6_look_13 (by decide) ?_
    refine xq_istore_n 3 (n := 18) dX6_look_17 rfl rfl rfl ?_
    simp only [xst, Nat.beq, List.filter, Bool.not_true, Bool.not_false]
    refine xr_iload_n (n := 19) dX6_look_18 rfl rfl ?_
    refine xr_iconst (v := nI 0) (n := 20) dX6_look_19 (by decide) rfl ?_
    refine xr_bipush (v := nI 59) (n := 22) dX6_look_20 (by decide) rfl ?_
    refine xr_callS (y2 := mX7_isWithin) (As := [_, _, _]) (n := 25) dX6_look_22 lm_X6_99 pm_X7_isWithin kp_static_yX7_isWithin rfl rfl (by simp [Value.category]) rfl ⟨Nat.le_refl _, Nat.le_refl _⟩ ?_
    refine s_X7_isWithin ?_
    dsimp only [xK, xps]
    refine xr_beq (tgt := 67) (n := 28) dX6_look_25 (by decide) rfl (fun h25 => ?_) (fun h25 => ?_)
    · exact absurd (show (nI 0).toInt ≤ (nI s).toInt ∧ (nI s).toInt ≤ (nI 59).toInt from by rw [nt _ (by omega), nt _ (by omega), nt _ (by omega)]; omega) h25
    · refine xr_aload_n (n := 29) dX6_look_28 rfl rfl ?_
      refine xr_get (n := 32) dX6_look_29 fl_X6_28 (by first | exact tat_0 (tput_at _ _ _) | exact tat_r (tput_at _ _ _) (by decide) | exact lat_0 (lat_t hL hd) | exact lat_r (lat_t hL hd) (by decide)) (by rfl) rfl ?_
      refine xr_iload_n (n := 33) dX6_look_32 rfl rfl ?_
      refine xr_iload_n (n := 34) dX6_look_33 rfl rfl ?_
      refine xr_if_eq (tgt := 48) (n := 37) dX6_look_34 (by decide) rfl (fun h34 => by (exfalso; revert h34; decide)) (fun h34 => ?_)
      refine xr_aload_n (n := 38) dX6_look_37 rfl rfl ?_
      refine xr_get (n := 41) dX6_look_38 fl_X6_28 (by first | exact tat_0 (tput_at _ _ _) | exact tat_r (tput_at _ _ _) (by decide) | exact lat_0 (lat_t hL hd) | exact lat_r (lat_t hL hd) (by decide)) (by rfl) rfl ?_
      refine xr_iload_n (n := 42) dX6_look_41 rfl rfl ?_
      refine xr_iaload (n := 43) dX6_look_42 (by first | exact tat_0 (tput_at _ _ _) | exact tat_r (tput_at _ _ _) (by decide) | exact lat_0 (lat_t hL hd) | exact lat_r (lat_t hL hd) (by decide)) (by first | exact vp_in_nI (by omega) (by omega)) rfl ?_
      (first | (simp (disch := omega) only [nI_clamp, pk_mul, nI_add, oi1, up2_ss, up2_n, up2_sn, ur_s, ur_n, Nat.reduceMul, Nat.reduceAdd, Nat.add_zero, hxe, c7, c8]) | skip)
      refine xr_iconst (v := nI 1) (n := 44) dX6_look_43 (by decide) rfl ?_
      refine xr_iadd (n := 45) dX6_look_44 rfl ?_
      (first | (simp (disch := omega) only [nI_clamp, pk_mul, nI_add, oi1, up2_ss, up2_n, up2_sn, ur_s, ur_n, Nat.reduceMul, Nat.reduceAdd, Nat.add_zero, hxe, c7, c8]) | skip)
      refine xr_goto (n := 49) dX6_look_45 (by decide) ?_
      refine xq_iastore (n := 50) dX6_look_49 (by first | exact tat_0 (tput_at _ _ _) | exact tat_r (tput_at _ _ _) (by decide) | exact lat_0 (lat_t hL hd) | exact lat_r (lat_t hL hd) (by decide)) (by first | exact vp_in_nI (by omega) (by omega)) rfl ?_
      simp (disch := omega) only [nI_clamp, List.set, tw_0, tw_1, tw_2, tw_3, tw_4, tw_5, tw_6, tw_7, tw_8, tw_9, tw_10]
      refine xr_aload_n (n := 51) dX6_look_50 rfl rfl ?_
      refine xr_aload_n (n := 52) dX6_look_51 rfl rfl ?_
      refine xr_get (n := 55) dX6_look_52 fl_X6_61 (by first | exact tat_0 (tput_at _ _ _) | exact tat_r (tput_at _ _ _) (by decide) | exact lat_0 (lat_t hL hd) | exact lat_r (lat_t hL hd) (by decide)) (by rfl) rfl ?_
      (first | (simp (disch := omega) only [nI_clamp, pk_mul, nI_add, oi1, up2_ss, up2_n, up2_sn, ur_s, ur_n, Nat.reduceMul, Nat.reduceAdd, Nat.add_zero, hxe, c7, c8]) | skip)
      refine xr_aload_n (n := 56) dX6_look_55 rfl rfl ?_
      refine xr_get (n := 59) dX6_look_56 fl_X6_28 (by first | exact tat_0 (tput_at _ _ _) | exact tat_r (tput_at _ _ _) (by decide) | exact lat_0 (lat_t hL hd) | exact lat_r (lat_t hL hd) (by decide)) (by rfl) rfl ?_
      refine xr_iload_n (n := 60) dX6_look_59 rfl rfl ?_
      refine xr_iaload (n := 61) dX6_look_60 (by first | exact tat_0 (tput_at _ _ _) | exact tat_r (tput_at _ _ _) (by decide) | exact lat_0 (lat_t hL hd) | exact lat_r (lat_t hL hd) (by decide)) (by first | exact vp_in_nI (by omega) (by omega)) rfl ?_
      (first | (simp (disch := omega) only [nI_clamp, pk_mul, nI_add, oi1, up2_ss, up2_n, up2_sn, ur_s, ur_n, Nat.reduceMul, Nat.reduceAdd, Nat.add_zero, hxe, c7, c8]) | skip)
      refine xr_mmax (n := 64) dX6_look_61 km_X6_103 (by simp [Value.category]) rfl ?_
      skip
      refine xq_put (n := 67) dX6_look_64 fl_X6_61 rfl (by first | exact tat_0 (tput_at _ _ _) | exact tat_r (tput_at _ _ _) (by decide) | exact lat_0 (lat_t hL hd) | exact lat_r (lat_t hL hd) (by decide)) (by rfl) (by rfl) (by rfl) rfl ?_
      simp (disch := omega) only [nI_clamp, List.set, tw_0, tw_1, tw_2, tw_3, tw_4, tw_5, tw_6, tw_7, tw_8, tw_9, tw_10]
      refine xr_iload_n (n := 68) dX6_look_67 rfl rfl ?_
      refine xr_if_eq (tgt := 81) (n := 71) dX6_look_68 (by decide) rfl (fun h68 => by (exfalso; revert h68; decide)) (fun h68 => ?_)
      refine xr_aload_n (n := 72) dX6_look_71 rfl rfl ?_
      refine xr_dup (n := 73) dX6_look_72 rfl rfl ?_
      refine xr_get (n := 76) dX6_look_73 fl_X6_58 (by first | exact tat_0 (tput_at _ _ _) | exact tat_r (tput_at _ _ _) (by decide) | exact lat_0 (lat_t hL hd) | exact lat_r (lat_t hL hd) (by decide)) (by rfl) rfl ?_
      (first | (simp (disch := omega) only [nI_clamp, pk_mul, nI_add, oi1, up2_ss, up2_n, up2_sn, ur_s, ur_n, Nat.reduceMul, Nat.reduceAdd, Nat.add_zero, hxe, c7, c8]) | skip)
      refine xr_iconst (v := nI 1) (n := 77) dX6_look_76 (by decide) rfl ?_
      refine xr_iadd (n := 78) dX6_look_77 rfl ?_
      (first | (simp (disch := omega) only [nI_clamp, pk_mul, nI_add, oi1, up2_ss, up2_n, up2_sn, ur_s, ur_n, Nat.reduceMul, Nat.reduceAdd, Nat.add_zero, hxe, c7, c8]) | skip)
      refine xq_put (n := 81) dX6_look_78 fl_X6_58 rfl (by first | exact tat_0 (tput_at _ _ _) | exact tat_r (tput_at _ _ _) (by decide) | exact lat_0 (lat_t hL hd) | exact lat_r (lat_t hL hd) (by decide)) (by rfl) (by rfl) (by rfl) rfl ?_
      simp (disch := omega) only [nI_clamp, List.set, tw_0, tw_1, tw_2, tw_3, tw_4, tw_5, tw_6, tw_7, tw_8, tw_9, tw_10]
      refine xr_iload_n (n := 82) dX6_look_81 rfl rfl ?_
      refine xr_if_eq (tgt := 93) (n := 85) dX6_look_82 (by decide) rfl (fun h82 => by (exfalso; revert h82; decide)) (fun h82 => ?_)
      refine xr_aload_n (n := 86) dX6_look_85 rfl rfl ?_
      refine xr_iload_n (n := 87) dX6_look_86 rfl rfl ?_
      refine xr_callV (y2 := mX1_entered) (As := [_]) (n := 90) dX6_look_87 lm_X6_93 pm_X1_entered pi_X1_entered (by first | exact tat_0 (tput_at _ _ _) | exact tat_r (tput_at _ _ _) (by decide) | exact lat_0 (lat_t hL hd) | exact lat_r (lat_t hL hd) (by decide)) rfl rfl rfl (by simp [Value.category]) rfl ⟨Nat.le_refl _, Nat.le_refl _⟩ ?_
      refine s_X1_entered (lat_t hL hd) hn hn2 hs g6 (by omega) g0 (by omega) ?_
      dsimp only [xK, xps]
      refine xr_goto (n := 98) dX6_look_90 (by decide) ?_
      refine xr_ireturn dX6_look_98 rfl rfl rfl ?_
      have hA : adata P s δ = alook s δ := by
        unfold adata
        rw [if_neg (by omega), if_neg (by omega), if_neg (by omega), if_pos h3, if_pos hpos]
      have hN : anext P s δ = if s + 1 < P s 6 then s + 1 else s := by
        unfold anext
        rw [if_neg (by omega), if_pos h3, if_pos hpos]
      rw [hA, hN] at hq
      unfold alook at hq
      rw [hxe, c7, c8, nI_add, nI_add] at hq
      refine qi (qm hq ?_) ?_
      · rfl
      · by_cases e : s + 1 < P s 6
        · rw [if_pos e, if_pos e]
        · rw [if_neg e, if_neg e, if_pos (by omega)]
