/-! the class: questions about runs -/
def st3 (δ : xS) (T : Nat) : Prop := (∃ t, t ≤ T ∧ δ 5 0 = nI t) ∧ ∀ i, ∃ t, t ≤ T ∧ δ 3 i = nI t
theorem ad_5 {P : Nat → Nat → Nat} {s : Nat} {δ : xS} : adata P s δ 5 = δ 5 := by
  unfold adata
  split
  · exact up2_n _ _ _ (by omega)
  · split
    · unfold atell
      rw [up2_n _ _ _ (by omega)]
      split
      · exact up2_n _ _ _ (by omega)
      · rfl
    · split
      · unfold amark
        rw [up2_n _ _ _ (by omega)]
        split
        · rw [ur_n _ _ (by omega), up2_n _ _ _ (by omega)]
        · rfl
      · split
        · split
          · unfold alook
            rw [up2_n _ _ _ (by omega), up2_n _ _ _ (by omega), up2_n _ _ _ (by omega)]
          · exact up2_n _ _ _ (by omega)
        · rfl
theorem ad_3 {P : Nat → Nat → Nat} {s : Nat} {δ : xS} (i : Nat) : adata P s δ 3 i = δ 3 i ∨ adata P s δ 3 i = δ 5 0 := by
  unfold adata
  split
  · exact Or.inl (by unfold aset; rw [up2_n _ _ _ (by omega)])
  · split
    · unfold atell
      rw [up2_n _ _ _ (by omega)]
      split
      · exact Or.inl (by rw [up2_n _ _ _ (by omega)])
      · exact Or.inl rfl
    · split
      · unfold amark
        rw [up2_n _ _ _ (by omega)]
        split
        · rw [ur_n _ _ (by omega)]
          by_cases e : i = ix (δ 6 0)
          · subst e; exact Or.inr (up2_ss _ _ _ _)
          · exact Or.inl (up2_sn _ _ _ e)
        · exact Or.inl rfl
      · split
        · split
          · unfold alook
            exact Or.inl (by rw [up2_n _ _ _ (by omega), up2_n _ _ _ (by omega), up2_n _ _ _ (by omega)])
          · exact Or.inl (by rw [up2_n _ _ _ (by omega)])
        · exact Or.inl rfl
theorem st3_run {n : Nat} {P : Nat → Nat → Nat} : ∀ (g s : Nat) (δ : xS) (T : Nat), st3 δ T → st3 (arun n P g s δ).2 (T + g)
  | 0, _, _, _, h => h
  | g + 1, s, δ, T, h => by
    unfold arun
    split
    · have h2 : st3 (ainc (adata P s δ)) (T + 1) := by
        obtain ⟨⟨t, ht, h5⟩, h3⟩ := h
        unfold ainc
        refine ⟨⟨t + 1, by omega, ?_⟩, fun i => ?_⟩
        · rw [up2_ss, ad_5, h5, nI_add]
        · rw [up2_n _ _ _ (by omega)]
          rcases ad_3 (P := P) (s := s) (δ := δ) i with e | e
          · obtain ⟨t3, q, e3⟩ := h3 i
            exact ⟨t3, by omega, e.trans e3⟩
          · exact ⟨t, by omega, e.trans h5⟩
      have := st3_run (n := n) (P := P) g (anext P s δ) _ (T + 1) h2
      rw [show T + (g + 1) = T + 1 + g by omega]
      exact this
    · obtain ⟨⟨t, ht, h5⟩, h3⟩ := h
      exact ⟨⟨t, by omega, h5⟩, fun i => by obtain ⟨t3, q, e3⟩ := h3 i; exact ⟨t3, by omega, e3⟩⟩
theorem st3_D {n : Nat} {P : Nat → Nat → Nat} {a b : Int32} : st3 (runD n P a b).2 400 := by
  have := st3_run (n := n) (P := P) 400 0 (d0 a b) 0 ⟨⟨0, by omega, rfl⟩, fun i => ⟨0, by omega, rfl⟩⟩
  rw [Nat.zero_add] at this
  exact this
theorem ab_0 {A B : Nat × xS} {k : Nat} (hA : st3 A.2 400) (hB : st3 B.2 400) : 0 ≤ (ab (ldv A B k)).toInt := by
  obtain ⟨x, hx, ex⟩ := hA.2 k
  obtain ⟨y, hy, ey⟩ := hB.2 k
  unfold ab ldv
  rw [ex, ey]
  by_cases e : x < y
  · have h1 : (nI x - nI y) < 0 := by rw [i_lt, pk_sub_toInt (by omega) (by omega), Int32.toInt_zero]; omega
    rw [if_pos h1, Int32.neg_sub, pk_sub_toInt (by omega) (by omega)]
    omega
  · have h1 : ¬ (nI x - nI y) < 0 := by rw [i_lt, pk_sub_toInt (by omega) (by omega), Int32.toInt_zero]; omega
    rw [if_neg h1, pk_sub_toInt (by omega) (by omega)]
    omega
theorem trR.c {δ : xS} {n : Nat} {P : Nat → Nat → Nat} {u v : Int32} (h : trR δ n P u v) (hO : okP n P) (hi : inpt u v) : ∃ mk tl, mk ≤ 400 ∧ tl ≤ 400 ∧ δ 6 0 = nI mk ∧ δ 9 0 = nI tl := by
  obtain ⟨-, -, t, mk, rd, mo, tl, c5, c6, c7, c8, c9, b6, b7, b8, b9, bt, -⟩ := trace_sim hO (tst_d0 u v) hi
  exact ⟨mk, tl, by omega, by omega, h.1.2.2.1.2.1.trans c6, h.1.2.2.1.2.2.2.2.trans c9⟩
section
variable {z n sv : Nat} {rl : Nat → Nat} {S : Nat → xS} {t : Nat → Int32} {N : Nat → Nat} {P : Nat → Nat → Nat → Nat} {HN : Nat → Nat → Nat} {HP : Nat → Nat → Nat → Nat → Nat} {f f1 : Nat → xC}
theorem CV.u0 (h : CV f z rl sv S t n N P HN HP) (h5 : sv ≤ 5) (τ : xS) : CV (tput f (z + 120) τ) z rl sv (ss S 15 τ) t n N P HN HP ∧ rgn z f (tput f (z + 120) τ) := by
  obtain ⟨c, r⟩ := h.1.ut0 τ
  exact ⟨h.sm h5 c (fun i hi => ss_n (by omega)) (ss_n (by omega)) (by rw [ss_n (by omega)]; exact h.2.2.1), r⟩
theorem CV.u1 (h : CV f z rl sv S t n N P HN HP) (h5 : sv ≤ 5) (τ : xS) : CV (tput f (z + 127) τ) z rl sv (ss S 16 τ) t n N P HN HP ∧ rgn z f (tput f (z + 127) τ) := by
  obtain ⟨c, r⟩ := h.1.ut1 τ
  exact ⟨h.sm h5 c (fun i hi => ss_n (by omega)) (ss_n (by omega)) (by rw [ss_n (by omega)]; exact h.2.2.1), r⟩
theorem s_X4_follow_p {G : xG} {d : Nat} {r : Nat × Nat} {Q : Option Value → xM → Prop} {u v : Int32} (hV : CV f z rl sv S t n N P HN HP) (hA : AI t n sv N P HN HP) (hi : inpt u v) (hq : ∀ f' S', CV f' z rl sv S' t n N P HN HP → rgn z f f' → trR (S' 15) (N 0) (P 0) u v → trR (S' 16) (N 1) (P 1) u v → Q none (f', r)) : xMet G (d + 8) mX4_follow [.ref (z + 119), .ref (rl 0), .ref (rl 1), .int u, .int v] (f, r) r Q := by
  have hC := hV.1
  have b0 := hC.1.1 0 (by omega)
  have b1 := hC.1.1 1 (by omega)
  unfold LB at b0 b1
  refine s_X4_follow hC.2.1.2.1 (by omega) hC.t0 hC.t1 (by omega) (hC.l (i := 0) (by omega)) (hC.l (i := 1) (by omega)) (by omega) (by omega) (by omega) (hV.2.2.2.1 0 (by omega)) (hA.2.2.2.1 0 (by omega)).1 (hV.2.2.2.1 1 (by omega)) (hA.2.2.2.1 1 (by omega)).1 hi (fun τ κ h1 h2 => ?_)
  obtain ⟨v1, r1⟩ := hV.u0 hA.2.2.1 τ
  obtain ⟨v2, r2⟩ := v1.u1 hA.2.2.1 κ
  exact hq _ _ v2 (r1.tr r2) (by rw [ss_n (by omega), ss_s]; exact h1) (by rw [ss_s]; exact h2)
end
theorem s_X7_traceOf {G : xG} {d : Nat} {f : Nat → xC} {r : Nat × Nat} {Q : Option Value → xM → Prop} {z n sv : Nat} {rl : Nat → Nat} {S : Nat → xS} {t : Nat → Int32} {N : Nat → Nat} {P : Nat → Nat → Nat → Nat} {HN : Nat → Nat → Nat} {HP : Nat → Nat → Nat → Nat → Nat} {pn : Nat} {a b : Int32} (hV : CV f z rl sv S t n N P HN HP) (hA : AI t n sv N P HN HP) (hpn : pn ≤ 1) (hi : inpt a b) (hq : ∀ f' S', CV f' z rl sv S' t n N P HN HP → rgn z f f' → trR (S' 15) (N pn) (P pn) a b → Q (some (.ref (z + 120))) (f', r)) : xMet G (d + 8) mX7_traceOf [.ref z, .int (nI pn), .int a, .int b] (f, r) r Q := by
  refine xMet_0 (by decide +kernel) rfl (Nat.le_of_ble_eq_true rfl) ?_
  show xX G (d + 8) mX7_traceOf r r (xΦ G r r Q) 0 [(0, .ref z), (1, .int (nI pn)), (2, .int a), (3, .int b)] [] (f, r)
  have hC := hV.1
  have b0 := hC.1.1 pn (by omega)
  unfold LB at b0
  refine xr_aload_n (n := 1) dX7_traceOf_0 rfl rfl ?_
  refine xr_get (n := 4) dX7_traceOf_1 fl_X7_42 (by first | assumption | exact hC.2.1.1 | exact hC.2.1.2.1 | exact hC.2.2.1.1 | exact xat_0 hC.x | exact lat_0 hC.d | exact lat_0 (hC.l (by omega)) | exact qat_0 hC.q | exact tat_0 hC.t0 | exact tat_0 hC.t1 | exact tat_r hC.t0 (i := 1) (by decide) | exact tat_r hC.t1 (i := 1) (by decide) | exact hC1.2.1.1 | exact hC1.2.1.2.1 | exact hC1.2.2.1.1 | exact xat_0 hC1.x | exact lat_0 hC1.d | exact lat_0 (hC1.l (by omega)) | exact qat_0 hC1.q | exact tat_0 hC1.t0 | exact tat_0 hC1.t1 | exact tat_r hC1.t0 (i := 1) (by decide) | exact tat_r hC1.t1 (i := 1) (by decide) | exact hC2.2.1.1 | exact hC2.2.1.2.1 | exact hC2.2.2.1.1 | exact xat_0 hC2.x | exact lat_0 hC2.d | exact lat_0 (hC2.l (by omega)) | exact qat_0 hC2.q | exact tat_0 hC2.t0 | exact tat_0 hC2.t1 | exact tat_r hC2.t0 (i := 1) (by decide) | exact tat_r hC2.t1 (i := 1) (by decide)) (by rfl) rfl ?_
  refine xr_get (n := 7) dX7_traceOf_4 fl_X7_187 (by first | assumption | exact hC.2.1.1 | exact hC.2.1.2.1 | exact hC.2.2.1.1 | exact xat_0 hC.x | exact lat_0 hC.d | exact lat_0 (hC.l (by omega)) | exact qat_0 hC.q | exact tat_0 hC.t0 | exact tat_0 hC.t1 | exact tat_r hC.t0 (i := 1) (by decide) | exact tat_r hC.t1 (i := 1) (by decide) | exact hC1.2.1.1 | exact hC1.2.1.2.1 | exact hC1.2.2.1.1 | exact xat_0 hC1.x | exact lat_0 hC1.d | exact lat_0 (hC1.l (by omega)) | exact qat_0 hC1.q | exact tat_0 hC1.t0 | exact tat_0 hC1.t1 | exact tat_r hC1.t0 (i := 1) (by decide) | exact tat_r hC1.t1 (i := 1) (by decide) | exact hC2.2.1.1 | exact hC2.2.1.2.1 | exact hC2.2.2.1.1 | exact xat_0 hC2.x | exact lat_0 hC2.d | exact lat_0 (hC2.l (by omega)) | exact qat_0 hC2.q | exact tat_0 hC2.t0 | exact tat_0 hC2.t1 | exact tat_r hC2.t0 (i := 1) (by decide) | exact tat_r hC2.t1 (i := 1) (by decide)) (by rfl) rfl ?_
  refine xr_aload_n (n := 8) dX7_traceOf_7 rfl rfl ?_
  refine xr_iload_n (n := 9) dX7_traceOf_8 rfl rfl ?_
  refine xr_callV (y2 := mX7_listingOf) (As := [_]) (n := 12) dX7_traceOf_9 lm_X7_89 pm_X7_listingOf pi_X7_listingOf (by first | assumption | exact hC.2.1.1 | exact hC.2.1.2.1 | exact hC.2.2.1.1 | exact xat_0 hC.x | exact lat_0 hC.d | exact lat_0 (hC.l (by omega)) | exact qat_0 hC.q | exact tat_0 hC.t0 | exact tat_0 hC.t1 | exact tat_r hC.t0 (i := 1) (by decide) | exact tat_r hC.t1 (i := 1) (by decide) | exact hC1.2.1.1 | exact hC1.2.1.2.1 | exact hC1.2.2.1.1 | exact xat_0 hC1.x | exact lat_0 hC1.d | exact lat_0 (hC1.l (by omega)) | exact qat_0 hC1.q | exact tat_0 hC1.t0 | exact tat_0 hC1.t1 | exact tat_r hC1.t0 (i := 1) (by decide) | exact tat_r hC1.t1 (i := 1) (by decide) | exact hC2.2.1.1 | exact hC2.2.1.2.1 | exact hC2.2.2.1.1 | exact xat_0 hC2.x | exact lat_0 hC2.d | exact lat_0 (hC2.l (by omega)) | exact qat_0 hC2.q | exact tat_0 hC2.t0 | exact tat_0 hC2.t1 | exact tat_r hC2.t0 (i := 1) (by decide) | exact tat_r hC2.t1 (i := 1) (by decide)) rfl rfl rfl (by simp [Value.category]) rfl ⟨Nat.le_refl _, Nat.le_refl _⟩ ?_
  refine s_X7_listingOf hC hpn ?_
  dsimp only [xK, xps]
  refine xr_iload_n (n := 13) dX7_traceOf_12 rfl rfl ?_
  refine xr_iload_n (n := 14) dX7_traceOf_13 rfl rfl ?_
  refine xr_callV (y2 := mX6_follow) (As := [_, _, _]) (n := 17) dX7_traceOf_14 lm_X7_212 pm_X6_follow pi_X6_follow (by first | assumption | exact hC.2.1.1 | exact hC.2.1.2.1 | exact hC.2.2.1.1 | exact xat_0 hC.x | exact lat_0 hC.d | exact lat_0 (hC.l (by omega)) | exact qat_0 hC.q | exact tat_0 hC.t0 | exact tat_0 hC.t1 | exact tat_r hC.t0 (i := 1) (by decide) | exact tat_r hC.t1 (i := 1) (by decide) | exact hC1.2.1.1 | exact hC1.2.1.2.1 | exact hC1.2.2.1.1 | exact xat_0 hC1.x | exact lat_0 hC1.d | exact lat_0 (hC1.l (by omega)) | exact qat_0 hC1.q | exact tat_0 hC1.t0 | exact tat_0 hC1.t1 | exact tat_r hC1.t0 (i := 1) (by decide) | exact tat_r hC1.t1 (i := 1) (by decide) | exact hC2.2.1.1 | exact hC2.2.1.2.1 | exact hC2.2.2.1.1 | exact xat_0 hC2.x | exact lat_0 hC2.d | exact lat_0 (hC2.l (by omega)) | exact qat_0 hC2.q | exact tat_0 hC2.t0 | exact tat_0 hC2.t1 | exact tat_r hC2.t0 (i := 1) (by decide) | exact tat_r hC2.t1 (i := 1) (by decide)) rfl rfl rfl (by simp [Value.category]) rfl ⟨Nat.le_refl _, Nat.le_refl _⟩ ?_
  refine s_X6_follow_f hC.t0 (hC.l (i := pn) (by omega)) (by omega) (hV.2.2.2.1 pn hpn) (hA.2.2.2.1 pn hpn).1 hi (fun τ hτ => ?_)
  obtain ⟨hV1, hr1⟩ := hV.u0 hA.2.2.1 τ
  have hC1 := hV1.1
  have hτ1 : trR (ss S 15 τ 15) (N pn) (P pn) a b := by rw [ss_s]; exact hτ
  generalize tput f (z + 120) τ = f1 at hV1 hr1 hC1 ⊢
  generalize ss S 15 τ = S1 at hV1 hτ1 hC1
  dsimp only [xK, xps]
  refine xr_aload_n (n := 18) dX7_traceOf_17 rfl rfl ?_
  refine xr_get (n := 21) dX7_traceOf_18 fl_X7_42 (by first | assumption | exact hC.2.1.1 | exact hC.2.1.2.1 | exact hC.2.2.1.1 | exact xat_0 hC.x | exact lat_0 hC.d | exact lat_0 (hC.l (by omega)) | exact qat_0 hC.q | exact tat_0 hC.t0 | exact tat_0 hC.t1 | exact tat_r hC.t0 (i := 1) (by decide) | exact tat_r hC.t1 (i := 1) (by decide) | exact hC1.2.1.1 | exact hC1.2.1.2.1 | exact hC1.2.2.1.1 | exact xat_0 hC1.x | exact lat_0 hC1.d | exact lat_0 (hC1.l (by omega)) | exact qat_0 hC1.q | exact tat_0 hC1.t0 | exact tat_0 hC1.t1 | exact tat_r hC1.t0 (i := 1) (by decide) | exact tat_r hC1.t1 (i := 1) (by decide) | exact hC2.2.1.1 | exact hC2.2.1.2.1 | exact hC2.2.2.1.1 | exact xat_0 hC2.x | exact lat_0 hC2.d | exact lat_0 (hC2.l (by omega)) | exact qat_0 hC2.q | exact tat_0 hC2.t0 | exact tat_0 hC2.t1 | exact tat_r hC2.t0 (i := 1) (by decide) | exact tat_r hC2.t1 (i := 1) (by decide)) (by rfl) rfl ?_
  refine xr_get (n := 24) dX7_traceOf_21 fl_X7_187 (by first | assumption | exact hC.2.1.1 | exact hC.2.1.2.1 | exact hC.2.2.1.1 | exact xat_0 hC.x | exact lat_0 hC.d | exact lat_0 (hC.l (by omega)) | exact qat_0 hC.q | exact tat_0 hC.t0 | exact tat_0 hC.t1 | exact tat_r hC.t0 (i := 1) (by decide) | exact tat_r hC.t1 (i := 1) (by decide) | exact hC1.2.1.1 | exact hC1.2.1.2.1 | exact hC1.2.2.1.1 | exact xat_0 hC1.x | exact lat_0 hC1.d | exact lat_0 (hC1.l (by omega)) | exact qat_0 hC1.q | exact tat_0 hC1.t0 | exact tat_0 hC1.t1 | exact tat_r hC1.t0 (i := 1) (by decide) | exact tat_r hC1.t1 (i := 1) (by decide) | exact hC2.2.1.1 | exact hC2.2.1.2.1 | exact hC2.2.2.1.1 | exact xat_0 hC2.x | exact lat_0 hC2.d | exact lat_0 (hC2.l (by omega)) | exact qat_0 hC2.q | exact tat_0 hC2.t0 | exact tat_0 hC2.t1 | exact tat_r hC2.t0 (i := 1) (by decide) | exact tat_r hC2.t1 (i := 1) (by decide)) (by rfl) rfl ?_
  refine xr_areturn dX7_traceOf_24 rfl rfl ?_
  exact hq f1 S1 hV1 hr1 hτ1

theorem s_X7_run {G : xG} {d : Nat} {f : Nat → xC} {r : Nat × Nat} {Q : Option Value → xM → Prop} {z n sv : Nat} {rl : Nat → Nat} {S : Nat → xS} {t : Nat → Int32} {N : Nat → Nat} {P : Nat → Nat → Nat → Nat} {HN : Nat → Nat → Nat} {HP : Nat → Nat → Nat → Nat → Nat} {p a b w : Int32} (hV : CV f z rl sv S t n N P HN HP) (hA : AI t n sv N P HN HP) (hq0 : ¬ ((0 ≤ p.toInt ∧ p.toInt ≤ 1) ∧ ((-999 ≤ a.toInt ∧ a.toInt ≤ 999) ∧ (-999 ≤ b.toInt ∧ b.toInt ≤ 999)) ∧ (0 ≤ w.toInt ∧ w.toInt ≤ 5)) → Q (some (.int (-10001))) (f, r)) (hq : ∀ (pn wn : Nat), pn ≤ 1 → wn ≤ 5 → p = nI pn → w = nI wn → inpt a b → ∀ f', CI f' z t n sv N P HN HP → rgn z f f' → Q (some (.int (runV (N pn) (runD (N pn) (P pn) a b) wn))) (f', r)) : xMet G (d + 9) mX7_run [.ref z, .int p, .int a, .int b, .int w] (f, r) r Q := by
  refine xMet_0 (by decide +kernel) rfl (Nat.le_of_ble_eq_true rfl) ?_
  show xX G (d + 9) mX7_run r r (xΦ G r r Q) 0 [(0, .ref z), (1, .int p), (2, .int a), (3, .int b), (4, .int w)] [] (f, r)
  have hC := hV.1
  refine xr_iload_n (n := 1) dX7_run_0 rfl rfl ?_
  refine xr_callS (y2 := mX7_isProgram) (As := [_]) (n := 4) dX7_run_1 lm_X7_75 pm_X7_isProgram kp_static_yX7_isProgram rfl rfl (by simp [Value.category]) rfl ⟨Nat.le_refl _, Nat.le_refl _⟩ ?_
  refine s_X7_isProgram ?_
  dsimp only [xK, xps]
  refine xr_beq (tgt := 25) (n := 7) dX7_run_4 (by decide) rfl (fun h4 => ?_) (fun h4 => ?_)
  · refine xr_sipush (v := (-10001)) (n := 28) dX7_run_25 (by decide) rfl ?_
    refine xr_ireturn dX7_run_28 rfl rfl rfl ?_
    exact hq0 (fun z => h4 z.1)
  · obtain ⟨pn, hpn, rfl⟩ := k_of h4.1
    have hp1 : pn ≤ 1 := by (have h4b := h4.2; rw [nt _ hpn] at h4b; omega)
    refine xr_iload_n (n := 8) dX7_run_7 rfl rfl ?_
    refine xr_iload_n (n := 9) dX7_run_8 rfl rfl ?_
    refine xr_callS (y2 := mX7_isInput) (As := [_, _]) (n := 12) dX7_run_9 lm_X7_122 pm_X7_isInput kp_static_yX7_isInput rfl rfl (by simp [Value.category]) rfl ⟨Nat.le_refl _, Nat.le_refl _⟩ ?_
    refine s_X7_isInput ?_
    dsimp only [xK, xps]
    refine xr_beq (tgt := 25) (n := 15) dX7_run_12 (by decide) rfl (fun h12 => ?_) (fun h12 => ?_)
    · refine xr_sipush (v := (-10001)) (n := 28) dX7_run_25 (by decide) rfl ?_
      refine xr_ireturn dX7_run_28 rfl rfl rfl ?_
      exact hq0 (fun z => h12 z.2.1)
    · refine xr_iload (n := 17) dX7_run_15 rfl rfl ?_
      refine xr_iconst (v := nI 0) (n := 18) dX7_run_17 (by decide) rfl ?_
      refine xr_iconst (v := nI 5) (n := 19) dX7_run_18 (by decide) rfl ?_
      refine xr_callS (y2 := mX7_isWithin) (As := [_, _, _]) (n := 22) dX7_run_19 lm_X7_59 pm_X7_isWithin kp_static_yX7_isWithin rfl rfl (by simp [Value.category]) rfl ⟨Nat.le_refl _, Nat.le_refl _⟩ ?_
      refine s_X7_isWithin ?_
      dsimp only [xK, xps]
      refine xr_bne (tgt := 29) (n := 25) dX7_run_22 (by decide) rfl (fun h22 => ?_) (fun h22 => ?_)
      · rw [nt _ (by omega), nt _ (by omega)] at h22
        refine xr_aload_n (n := 30) dX7_run_29 rfl rfl ?_
        refine xr_iload_n (n := 31) dX7_run_30 rfl rfl ?_
        refine xr_iload_n (n := 32) dX7_run_31 rfl rfl ?_
        refine xr_iload_n (n := 33) dX7_run_32 rfl rfl ?_
        refine xr_callV (y2 := mX7_traceOf) (As := [_, _, _]) (n := 36) dX7_run_33 lm_X7_126 pm_X7_traceOf pi_X7_traceOf (by first | assumption | exact hC.2.1.1 | exact hC.2.1.2.1 | exact hC.2.2.1.1 | exact xat_0 hC.x | exact lat_0 hC.d | exact lat_0 (hC.l (by omega)) | exact qat_0 hC.q | exact tat_0 hC.t0 | exact tat_0 hC.t1 | exact tat_r hC.t0 (i := 1) (by decide) | exact tat_r hC.t1 (i := 1) (by decide) | exact hC1.2.1.1 | exact hC1.2.1.2.1 | exact hC1.2.2.1.1 | exact xat_0 hC1.x | exact lat_0 hC1.d | exact lat_0 (hC1.l (by omega)) | exact qat_0 hC1.q | exact tat_0 hC1.t0 | exact tat_0 hC1.t1 | exact tat_r hC1.t0 (i := 1) (by decide) | exact tat_r hC1.t1 (i := 1) (by decide) | exact hC2.2.1.1 | exact hC2.2.1.2.1 | exact hC2.2.2.1.1 | exact xat_0 hC2.x | exact lat_0 hC2.d | exact lat_0 (hC2.l (by omega)) | exact qat_0 hC2.q | exact tat_0 hC2.t0 | exact tat_0 hC2.t1 | exact tat_r hC2.t0 (i := 1) (by decide) | exact tat_r hC2.t1 (i := 1) (by decide)) rfl rfl rfl (by simp [Value.category]) rfl ⟨Nat.le_refl _, Nat.le_refl _⟩ ?_
        refine s_X7_traceOf hV hA hp1 h12 (fun f1 S1 hV1 hr1 htr => ?_)
        have hC1 := hV1.1
        obtain ⟨mk, tl, hmk, htl, e6, e9⟩ := htr.c (hA.2.2.2.1 pn hp1).1 h12
        dsimp only [xK, xps]
        refine xr_astore (n := 38) dX7_run_36 rfl rfl ?_
        simp only [xst, Nat.beq, List.filter, Bool.not_true, Bool.not_false]
        refine xr_iload (n := 40) dX7_run_38 rfl rfl ?_
        rcases (show w.toInt < 0 ∨ 4 < w.toInt ∨ w.toInt = 0 ∨ w.toInt = 1 ∨ w.toInt = 2 ∨ w.toInt = 3 ∨ w.toInt = 4 by omega) with hx | hx | hx | hx | hx | hx | hx
        · refine xr_tableOut (n := 120) dX7_run_40 (Or.inl hx) (by decide) ?_
          exact absurd h22.1 (by omega)
        · refine xr_tableOut (n := 120) dX7_run_40 (Or.inr hx) (by decide) ?_
          have hw : w = nI 5 := w_nI (by omega) (by omega)
          subst hw
          refine xr_aload (n := 122) dX7_run_120 rfl rfl ?_
          refine xr_get (n := 125) dX7_run_122 fl_X7_152 (by first | assumption | exact hC.2.1.1 | exact hC.2.1.2.1 | exact hC.2.2.1.1 | exact xat_0 hC.x | exact lat_0 hC.d | exact lat_0 (hC.l (by omega)) | exact qat_0 hC.q | exact tat_0 hC.t0 | exact tat_0 hC.t1 | exact tat_r hC.t0 (i := 1) (by decide) | exact tat_r hC.t1 (i := 1) (by decide) | exact hC1.2.1.1 | exact hC1.2.1.2.1 | exact hC1.2.2.1.1 | exact xat_0 hC1.x | exact lat_0 hC1.d | exact lat_0 (hC1.l (by omega)) | exact qat_0 hC1.q | exact tat_0 hC1.t0 | exact tat_0 hC1.t1 | exact tat_r hC1.t0 (i := 1) (by decide) | exact tat_r hC1.t1 (i := 1) (by decide) | exact hC2.2.1.1 | exact hC2.2.1.2.1 | exact hC2.2.2.1.1 | exact xat_0 hC2.x | exact lat_0 hC2.d | exact lat_0 (hC2.l (by omega)) | exact qat_0 hC2.q | exact tat_0 hC2.t0 | exact tat_0 hC2.t1 | exact tat_r hC2.t0 (i := 1) (by decide) | exact tat_r hC2.t1 (i := 1) (by decide)) (by rfl) rfl ?_
          rw [htr.1.2.2.1.2.2.2.1]
          refine xr_ireturn dX7_run_125 rfl rfl rfl ?_
          exact hq pn 5 hp1 (by omega) rfl rfl h12 f1 ⟨_, _, hV1⟩ hr1
        · refine xr_tableIn (n := 76) (off := 36) dX7_run_40 (by omega) (by omega) (by rw [hx]; rfl) (by decide) ?_
          have hw : w = nI 0 := w_nI (by omega) (by omega)
          subst hw
          refine xr_aload (n := 78) dX7_run_76 rfl rfl ?_
          refine xr_get (n := 81) dX7_run_78 fl_X7_130 (by first | assumption | exact hC.2.1.1 | exact hC.2.1.2.1 | exact hC.2.2.1.1 | exact xat_0 hC.x | exact lat_0 hC.d | exact lat_0 (hC.l (by omega)) | exact qat_0 hC.q | exact tat_0 hC.t0 | exact tat_0 hC.t1 | exact tat_r hC.t0 (i := 1) (by decide) | exact tat_r hC.t1 (i := 1) (by decide) | exact hC1.2.1.1 | exact hC1.2.1.2.1 | exact hC1.2.2.1.1 | exact xat_0 hC1.x | exact lat_0 hC1.d | exact lat_0 (hC1.l (by omega)) | exact qat_0 hC1.q | exact tat_0 hC1.t0 | exact tat_0 hC1.t1 | exact tat_r hC1.t0 (i := 1) (by decide) | exact tat_r hC1.t1 (i := 1) (by decide) | exact hC2.2.1.1 | exact hC2.2.1.2.1 | exact hC2.2.2.1.1 | exact xat_0 hC2.x | exact lat_0 hC2.d | exact lat_0 (hC2.l (by omega)) | exact qat_0 hC2.q | exact tat_0 hC2.t0 | exact tat_0 hC2.t1 | exact tat_r hC2.t0 (i := 1) (by decide) | exact tat_r hC2.t1 (i := 1) (by decide)) (by rfl) rfl ?_
          rw [htr.1.2.2.1.1]
          refine xr_ireturn dX7_run_81 rfl rfl rfl ?_
          exact hq pn 0 hp1 (by omega) rfl rfl h12 f1 ⟨_, _, hV1⟩ hr1
        · refine xr_tableIn (n := 82) (off := 42) dX7_run_40 (by omega) (by omega) (by rw [hx]; rfl) (by decide) ?_
          have hw : w = nI 1 := w_nI (by omega) (by omega)
          subst hw
          refine xr_aload (n := 84) dX7_run_82 rfl rfl ?_
          refine xr_get (n := 87) dX7_run_84 fl_X7_135 (by first | assumption | exact hC.2.1.1 | exact hC.2.1.2.1 | exact hC.2.2.1.1 | exact xat_0 hC.x | exact lat_0 hC.d | exact lat_0 (hC.l (by omega)) | exact qat_0 hC.q | exact tat_0 hC.t0 | exact tat_0 hC.t1 | exact tat_r hC.t0 (i := 1) (by decide) | exact tat_r hC.t1 (i := 1) (by decide) | exact hC1.2.1.1 | exact hC1.2.1.2.1 | exact hC1.2.2.1.1 | exact xat_0 hC1.x | exact lat_0 hC1.d | exact lat_0 (hC1.l (by omega)) | exact qat_0 hC1.q | exact tat_0 hC1.t0 | exact tat_0 hC1.t1 | exact tat_r hC1.t0 (i := 1) (by decide) | exact tat_r hC1.t1 (i := 1) (by decide) | exact hC2.2.1.1 | exact hC2.2.1.2.1 | exact hC2.2.2.1.1 | exact xat_0 hC2.x | exact lat_0 hC2.d | exact lat_0 (hC2.l (by omega)) | exact qat_0 hC2.q | exact tat_0 hC2.t0 | exact tat_0 hC2.t1 | exact tat_r hC2.t0 (i := 1) (by decide) | exact tat_r hC2.t1 (i := 1) (by decide)) (by rfl) rfl ?_
          refine xr_get (n := 90) dX7_run_87 fl_X7_139 (by first | assumption | exact hC.2.1.1 | exact hC.2.1.2.1 | exact hC.2.2.1.1 | exact xat_0 hC.x | exact lat_0 hC.d | exact lat_0 (hC.l (by omega)) | exact qat_0 hC.q | exact tat_0 hC.t0 | exact tat_0 hC.t1 | exact tat_r hC.t0 (i := 1) (by decide) | exact tat_r hC.t1 (i := 1) (by decide) | exact hC1.2.1.1 | exact hC1.2.1.2.1 | exact hC1.2.2.1.1 | exact xat_0 hC1.x | exact lat_0 hC1.d | exact lat_0 (hC1.l (by omega)) | exact qat_0 hC1.q | exact tat_0 hC1.t0 | exact tat_0 hC1.t1 | exact tat_r hC1.t0 (i := 1) (by decide) | exact tat_r hC1.t1 (i := 1) (by decide) | exact hC2.2.1.1 | exact hC2.2.1.2.1 | exact hC2.2.2.1.1 | exact xat_0 hC2.x | exact lat_0 hC2.d | exact lat_0 (hC2.l (by omega)) | exact qat_0 hC2.q | exact tat_0 hC2.t0 | exact tat_0 hC2.t1 | exact tat_r hC2.t0 (i := 1) (by decide) | exact tat_r hC2.t1 (i := 1) (by decide)) (by rfl) rfl ?_
          rw [show S1 15 10 0 = _ from htr.2]
          refine xr_if_eq (tgt := 97) (n := 93) dX7_run_90 (by decide) rfl (fun h90 => ?_) (fun h90 => ?_)
          · refine xr_iconst (v := nI 0) (n := 98) dX7_run_97 (by decide) rfl ?_
            refine xr_ireturn dX7_run_98 rfl rfl rfl ?_
            have e1 : cutD (N pn) (runD (N pn) (P pn) a b) = nI 0 := by
              unfold cutD at h90 ⊢
              split
              · rename_i hlt
                first | rfl | exact absurd h90 (by rw [if_pos hlt]; decide +kernel)
              · rename_i hlt
                first | rfl | exact absurd (by rw [if_neg hlt]; rfl) h90
            have h9 := hq pn 1 hp1 (by omega) rfl rfl h12 f1 ⟨_, _, hV1⟩ hr1
            rw [show runV (N pn) (runD (N pn) (P pn) a b) 1 = _ from e1] at h9
            exact h9
          · refine xr_iconst (v := nI 1) (n := 94) dX7_run_93 (by decide) rfl ?_
            refine xr_goto (n := 98) dX7_run_94 (by decide) ?_
            refine xr_ireturn dX7_run_98 rfl rfl rfl ?_
            have e1 : cutD (N pn) (runD (N pn) (P pn) a b) = nI 1 := by
              unfold cutD at h90 ⊢
              split
              · rename_i hlt
                first | rfl | exact absurd h90 (by rw [if_pos hlt]; decide +kernel)
              · rename_i hlt
                first | rfl | exact absurd (by rw [if_neg hlt]; rfl) h90
            have h9 := hq pn 1 hp1 (by omega) rfl rfl h12 f1 ⟨_, _, hV1⟩ hr1
            rw [show runV (N pn) (runD (N pn) (P pn) a b) 1 = _ from e1] at h9
            exact h9
        · refine xr_tableIn (n := 99) (off := 59) dX7_run_40 (by omega) (by omega) (by rw [hx]; rfl) (by decide) ?_
          have hw : w = nI 2 := w_nI (by omega) (by omega)
          subst hw
          refine xr_aload (n := 101) dX7_run_99 rfl rfl ?_
          refine xr_get (n := 104) dX7_run_101 fl_X7_135 (by first | assumption | exact hC.2.1.1 | exact hC.2.1.2.1 | exact hC.2.2.1.1 | exact xat_0 hC.x | exact lat_0 hC.d | exact lat_0 (hC.l (by omega)) | exact qat_0 hC.q | exact tat_0 hC.t0 | exact tat_0 hC.t1 | exact tat_r hC.t0 (i := 1) (by decide) | exact tat_r hC.t1 (i := 1) (by decide) | exact hC1.2.1.1 | exact hC1.2.1.2.1 | exact hC1.2.2.1.1 | exact xat_0 hC1.x | exact lat_0 hC1.d | exact lat_0 (hC1.l (by omega)) | exact qat_0 hC1.q | exact tat_0 hC1.t0 | exact tat_0 hC1.t1 | exact tat_r hC1.t0 (i := 1) (by decide) | exact tat_r hC1.t1 (i := 1) (by decide) | exact hC2.2.1.1 | exact hC2.2.1.2.1 | exact hC2.2.2.1.1 | exact xat_0 hC2.x | exact lat_0 hC2.d | exact lat_0 (hC2.l (by omega)) | exact qat_0 hC2.q | exact tat_0 hC2.t0 | exact tat_0 hC2.t1 | exact tat_r hC2.t0 (i := 1) (by decide) | exact tat_r hC2.t1 (i := 1) (by decide)) (by rfl) rfl ?_
          refine xr_get (n := 107) dX7_run_104 fl_X7_143 (by first | assumption | exact hC.2.1.1 | exact hC.2.1.2.1 | exact hC.2.2.1.1 | exact xat_0 hC.x | exact lat_0 hC.d | exact lat_0 (hC.l (by omega)) | exact qat_0 hC.q | exact tat_0 hC.t0 | exact tat_0 hC.t1 | exact tat_r hC.t0 (i := 1) (by decide) | exact tat_r hC.t1 (i := 1) (by decide) | exact hC1.2.1.1 | exact hC1.2.1.2.1 | exact hC1.2.2.1.1 | exact xat_0 hC1.x | exact lat_0 hC1.d | exact lat_0 (hC1.l (by omega)) | exact qat_0 hC1.q | exact tat_0 hC1.t0 | exact tat_0 hC1.t1 | exact tat_r hC1.t0 (i := 1) (by decide) | exact tat_r hC1.t1 (i := 1) (by decide) | exact hC2.2.1.1 | exact hC2.2.1.2.1 | exact hC2.2.2.1.1 | exact xat_0 hC2.x | exact lat_0 hC2.d | exact lat_0 (hC2.l (by omega)) | exact qat_0 hC2.q | exact tat_0 hC2.t0 | exact tat_0 hC2.t1 | exact tat_r hC2.t0 (i := 1) (by decide) | exact tat_r hC2.t1 (i := 1) (by decide)) (by rfl) rfl ?_
          rw [htr.1.2.2.1.2.2.2.2]
          refine xr_ireturn dX7_run_107 rfl rfl rfl ?_
          exact hq pn 2 hp1 (by omega) rfl rfl h12 f1 ⟨_, _, hV1⟩ hr1
        · refine xr_tableIn (n := 108) (off := 68) dX7_run_40 (by omega) (by omega) (by rw [hx]; rfl) (by decide) ?_
          have hw : w = nI 3 := w_nI (by omega) (by omega)
          subst hw
          refine xr_aload (n := 110) dX7_run_108 rfl rfl ?_
          refine xr_get (n := 113) dX7_run_110 fl_X7_146 (by first | assumption | exact hC.2.1.1 | exact hC.2.1.2.1 | exact hC.2.2.1.1 | exact xat_0 hC.x | exact lat_0 hC.d | exact lat_0 (hC.l (by omega)) | exact qat_0 hC.q | exact tat_0 hC.t0 | exact tat_0 hC.t1 | exact tat_r hC.t0 (i := 1) (by decide) | exact tat_r hC.t1 (i := 1) (by decide) | exact hC1.2.1.1 | exact hC1.2.1.2.1 | exact hC1.2.2.1.1 | exact xat_0 hC1.x | exact lat_0 hC1.d | exact lat_0 (hC1.l (by omega)) | exact qat_0 hC1.q | exact tat_0 hC1.t0 | exact tat_0 hC1.t1 | exact tat_r hC1.t0 (i := 1) (by decide) | exact tat_r hC1.t1 (i := 1) (by decide) | exact hC2.2.1.1 | exact hC2.2.1.2.1 | exact hC2.2.2.1.1 | exact xat_0 hC2.x | exact lat_0 hC2.d | exact lat_0 (hC2.l (by omega)) | exact qat_0 hC2.q | exact tat_0 hC2.t0 | exact tat_0 hC2.t1 | exact tat_r hC2.t0 (i := 1) (by decide) | exact tat_r hC2.t1 (i := 1) (by decide)) (by rfl) rfl ?_
          rw [htr.1.2.2.1.2.1]
          refine xr_ireturn dX7_run_113 rfl rfl rfl ?_
          exact hq pn 3 hp1 (by omega) rfl rfl h12 f1 ⟨_, _, hV1⟩ hr1
        · refine xr_tableIn (n := 114) (off := 74) dX7_run_40 (by omega) (by omega) (by rw [hx]; rfl) (by decide) ?_
          have hw : w = nI 4 := w_nI (by omega) (by omega)
          subst hw
          refine xr_aload (n := 116) dX7_run_114 rfl rfl ?_
          refine xr_get (n := 119) dX7_run_116 fl_X7_149 (by first | assumption | exact hC.2.1.1 | exact hC.2.1.2.1 | exact hC.2.2.1.1 | exact xat_0 hC.x | exact lat_0 hC.d | exact lat_0 (hC.l (by omega)) | exact qat_0 hC.q | exact tat_0 hC.t0 | exact tat_0 hC.t1 | exact tat_r hC.t0 (i := 1) (by decide) | exact tat_r hC.t1 (i := 1) (by decide) | exact hC1.2.1.1 | exact hC1.2.1.2.1 | exact hC1.2.2.1.1 | exact xat_0 hC1.x | exact lat_0 hC1.d | exact lat_0 (hC1.l (by omega)) | exact qat_0 hC1.q | exact tat_0 hC1.t0 | exact tat_0 hC1.t1 | exact tat_r hC1.t0 (i := 1) (by decide) | exact tat_r hC1.t1 (i := 1) (by decide) | exact hC2.2.1.1 | exact hC2.2.1.2.1 | exact hC2.2.2.1.1 | exact xat_0 hC2.x | exact lat_0 hC2.d | exact lat_0 (hC2.l (by omega)) | exact qat_0 hC2.q | exact tat_0 hC2.t0 | exact tat_0 hC2.t1 | exact tat_r hC2.t0 (i := 1) (by decide) | exact tat_r hC2.t1 (i := 1) (by decide)) (by rfl) rfl ?_
          rw [htr.1.2.2.1.2.2.1]
          refine xr_ireturn dX7_run_119 rfl rfl rfl ?_
          exact hq pn 4 hp1 (by omega) rfl rfl h12 f1 ⟨_, _, hV1⟩ hr1
      · rw [nt _ (by omega), nt _ (by omega)] at h22
        refine xr_sipush (v := (-10001)) (n := 28) dX7_run_25 (by decide) rfl ?_
        refine xr_ireturn dX7_run_28 rfl rfl rfl ?_
        exact hq0 (fun z => h22 z.2.2)

theorem s_X7_told {G : xG} {d : Nat} {f : Nat → xC} {r : Nat × Nat} {Q : Option Value → xM → Prop} {z n sv : Nat} {rl : Nat → Nat} {S : Nat → xS} {t : Nat → Int32} {N : Nat → Nat} {P : Nat → Nat → Nat → Nat} {HN : Nat → Nat → Nat} {HP : Nat → Nat → Nat → Nat → Nat} {p a b w : Int32} (hV : CV f z rl sv S t n N P HN HP) (hA : AI t n sv N P HN HP) (hq0 : ¬ ((0 ≤ p.toInt ∧ p.toInt ≤ 1) ∧ ((-999 ≤ a.toInt ∧ a.toInt ≤ 999) ∧ (-999 ≤ b.toInt ∧ b.toInt ≤ 999)) ∧ 0 ≤ w.toInt) → Q (some (.int (-10001))) (f, r)) (hq : ∀ (pn wn : Nat), pn ≤ 1 → p = nI pn → w = nI wn → wn < 2 ^ 31 → inpt a b → ∀ f', CI f' z t n sv N P HN HP → rgn z f f' → Q (some (.int (valA (runD (N pn) (P pn) a b) wn))) (f', r)) : xMet G (d + 9) mX7_told [.ref z, .int p, .int a, .int b, .int w] (f, r) r Q := by
  refine xMet_0 (by decide +kernel) rfl (Nat.le_of_ble_eq_true rfl) ?_
  show xX G (d + 9) mX7_told r r (xΦ G r r Q) 0 [(0, .ref z), (1, .int p), (2, .int a), (3, .int b), (4, .int w)] [] (f, r)
  have hC := hV.1
  refine xr_iload_n (n := 1) dX7_told_0 rfl rfl ?_
  refine xr_callS (y2 := mX7_isProgram) (As := [_]) (n := 4) dX7_told_1 lm_X7_75 pm_X7_isProgram kp_static_yX7_isProgram rfl rfl (by simp [Value.category]) rfl ⟨Nat.le_refl _, Nat.le_refl _⟩ ?_
  refine s_X7_isProgram ?_
  dsimp only [xK, xps]
  refine xr_beq (tgt := 20) (n := 7) dX7_told_4 (by decide) rfl (fun h4 => ?_) (fun h4 => ?_)
  · refine xr_sipush (v := (-10001)) (n := 23) dX7_told_20 (by decide) rfl ?_
    refine xr_ireturn dX7_told_23 rfl rfl rfl ?_
    exact hq0 (fun z => h4 z.1)
  · obtain ⟨pn, hpn, rfl⟩ := k_of h4.1
    have hp1 : pn ≤ 1 := by (have h4b := h4.2; rw [nt _ hpn] at h4b; omega)
    refine xr_iload_n (n := 8) dX7_told_7 rfl rfl ?_
    refine xr_iload_n (n := 9) dX7_told_8 rfl rfl ?_
    refine xr_callS (y2 := mX7_isInput) (As := [_, _]) (n := 12) dX7_told_9 lm_X7_122 pm_X7_isInput kp_static_yX7_isInput rfl rfl (by simp [Value.category]) rfl ⟨Nat.le_refl _, Nat.le_refl _⟩ ?_
    refine s_X7_isInput ?_
    dsimp only [xK, xps]
    refine xr_beq (tgt := 20) (n := 15) dX7_told_12 (by decide) rfl (fun h12 => ?_) (fun h12 => ?_)
    · refine xr_sipush (v := (-10001)) (n := 23) dX7_told_20 (by decide) rfl ?_
      refine xr_ireturn dX7_told_23 rfl rfl rfl ?_
      exact hq0 (fun z => h12 z.2.1)
    · refine xr_iload (n := 17) dX7_told_15 rfl rfl ?_
      refine xr_if_ge (tgt := 24) (n := 20) dX7_told_17 (by decide) rfl (fun h17 => ?_) (fun h17 => ?_)
      · have hw0 : 0 ≤ w.toInt := by ((try simp (disch := omega) only [i_lt, i_le, i_eq, nt, i_m1, Int32.toInt_zero] at *); omega)
        obtain ⟨wn, hwn, rfl⟩ := k_of hw0
        refine xr_aload_n (n := 25) dX7_told_24 rfl rfl ?_
        refine xr_iload_n (n := 26) dX7_told_25 rfl rfl ?_
        refine xr_iload_n (n := 27) dX7_told_26 rfl rfl ?_
        refine xr_iload_n (n := 28) dX7_told_27 rfl rfl ?_
        refine xr_callV (y2 := mX7_traceOf) (As := [_, _, _]) (n := 31) dX7_told_28 lm_X7_126 pm_X7_traceOf pi_X7_traceOf (by first | assumption | exact hC.2.1.1 | exact hC.2.1.2.1 | exact hC.2.2.1.1 | exact xat_0 hC.x | exact lat_0 hC.d | exact lat_0 (hC.l (by omega)) | exact qat_0 hC.q | exact tat_0 hC.t0 | exact tat_0 hC.t1 | exact tat_r hC.t0 (i := 1) (by decide) | exact tat_r hC.t1 (i := 1) (by decide) | exact hC1.2.1.1 | exact hC1.2.1.2.1 | exact hC1.2.2.1.1 | exact xat_0 hC1.x | exact lat_0 hC1.d | exact lat_0 (hC1.l (by omega)) | exact qat_0 hC1.q | exact tat_0 hC1.t0 | exact tat_0 hC1.t1 | exact tat_r hC1.t0 (i := 1) (by decide) | exact tat_r hC1.t1 (i := 1) (by decide) | exact hC2.2.1.1 | exact hC2.2.1.2.1 | exact hC2.2.2.1.1 | exact xat_0 hC2.x | exact lat_0 hC2.d | exact lat_0 (hC2.l (by omega)) | exact qat_0 hC2.q | exact tat_0 hC2.t0 | exact tat_0 hC2.t1 | exact tat_r hC2.t0 (i := 1) (by decide) | exact tat_r hC2.t1 (i := 1) (by decide)) rfl rfl rfl (by simp [Value.category]) rfl ⟨Nat.le_refl _, Nat.le_refl _⟩ ?_
        refine s_X7_traceOf hV hA hp1 h12 (fun f1 S1 hV1 hr1 htr => ?_)
        have hC1 := hV1.1
        obtain ⟨mk, tl, hmk, htl, e6, e9⟩ := htr.c (hA.2.2.2.1 pn hp1).1 h12
        dsimp only [xK, xps]
        refine xr_get (n := 34) dX7_told_31 fl_X7_135 (by first | assumption | exact hC.2.1.1 | exact hC.2.1.2.1 | exact hC.2.2.1.1 | exact xat_0 hC.x | exact lat_0 hC.d | exact lat_0 (hC.l (by omega)) | exact qat_0 hC.q | exact tat_0 hC.t0 | exact tat_0 hC.t1 | exact tat_r hC.t0 (i := 1) (by decide) | exact tat_r hC.t1 (i := 1) (by decide) | exact hC1.2.1.1 | exact hC1.2.1.2.1 | exact hC1.2.2.1.1 | exact xat_0 hC1.x | exact lat_0 hC1.d | exact lat_0 (hC1.l (by omega)) | exact qat_0 hC1.q | exact tat_0 hC1.t0 | exact tat_0 hC1.t1 | exact tat_r hC1.t0 (i := 1) (by decide) | exact tat_r hC1.t1 (i := 1) (by decide) | exact hC2.2.1.1 | exact hC2.2.1.2.1 | exact hC2.2.2.1.1 | exact xat_0 hC2.x | exact lat_0 hC2.d | exact lat_0 (hC2.l (by omega)) | exact qat_0 hC2.q | exact tat_0 hC2.t0 | exact tat_0 hC2.t1 | exact tat_r hC2.t0 (i := 1) (by decide) | exact tat_r hC2.t1 (i := 1) (by decide)) (by rfl) rfl ?_
        refine xr_iload (n := 36) dX7_told_34 rfl rfl ?_
        refine xr_callV (y2 := mX2_valueAt) (As := [_]) (n := 39) dX7_told_36 lm_X7_155 pm_X2_valueAt pi_X2_valueAt (by first | assumption | exact hC.2.1.1 | exact hC.2.1.2.1 | exact hC.2.2.1.1 | exact xat_0 hC.x | exact lat_0 hC.d | exact lat_0 (hC.l (by omega)) | exact qat_0 hC.q | exact tat_0 hC.t0 | exact tat_0 hC.t1 | exact tat_r hC.t0 (i := 1) (by decide) | exact tat_r hC.t1 (i := 1) (by decide) | exact hC1.2.1.1 | exact hC1.2.1.2.1 | exact hC1.2.2.1.1 | exact xat_0 hC1.x | exact lat_0 hC1.d | exact lat_0 (hC1.l (by omega)) | exact qat_0 hC1.q | exact tat_0 hC1.t0 | exact tat_0 hC1.t1 | exact tat_r hC1.t0 (i := 1) (by decide) | exact tat_r hC1.t1 (i := 1) (by decide) | exact hC2.2.1.1 | exact hC2.2.1.2.1 | exact hC2.2.2.1.1 | exact xat_0 hC2.x | exact lat_0 hC2.d | exact lat_0 (hC2.l (by omega)) | exact qat_0 hC2.q | exact tat_0 hC2.t0 | exact tat_0 hC2.t1 | exact tat_r hC2.t0 (i := 1) (by decide) | exact tat_r hC2.t1 (i := 1) (by decide)) rfl rfl rfl (by simp [Value.category]) rfl ⟨Nat.le_refl _, Nat.le_refl _⟩ ?_
        refine s_X2_valueAt (t_oat hC1.t0) e9 htl hwn ?_
        dsimp only [xK, xps]
        refine xr_ireturn dX7_told_39 rfl rfl rfl ?_
        rw [va_sim htr.1]
        exact hq pn wn hp1 rfl rfl hwn h12 f1 ⟨_, _, hV1⟩ hr1
      · refine xr_sipush (v := (-10001)) (n := 23) dX7_told_20 (by decide) rfl ?_
        refine xr_ireturn dX7_told_23 rfl rfl rfl ?_
        exact hq0 (fun z => by have z2 := z.2.2; ((try simp (disch := omega) only [i_lt, i_le, i_eq, nt, i_m1, Int32.toInt_zero] at *); omega))

theorem s_X7_cell {G : xG} {d : Nat} {f : Nat → xC} {r : Nat × Nat} {Q : Option Value → xM → Prop} {z n sv : Nat} {rl : Nat → Nat} {S : Nat → xS} {t : Nat → Int32} {N : Nat → Nat} {P : Nat → Nat → Nat → Nat} {HN : Nat → Nat → Nat} {HP : Nat → Nat → Nat → Nat → Nat} {p a b w c : Int32} (hV : CV f z rl sv S t n N P HN HP) (hA : AI t n sv N P HN HP) (hq0 : ¬ ((0 ≤ p.toInt ∧ p.toInt ≤ 1) ∧ ((-999 ≤ a.toInt ∧ a.toInt ≤ 999) ∧ (-999 ≤ b.toInt ∧ b.toInt ≤ 999)) ∧ -1 ≤ w.toInt ∧ (0 ≤ c.toInt ∧ c.toInt ≤ 5)) → Q (some (.int (-10001))) (f, r)) (hq : ∀ (pn cn : Nat), pn ≤ 1 → cn ≤ 5 → p = nI pn → c = nI cn → inpt a b → ∀ f', CI f' z t n sv N P HN HP → rgn z f f' → (w.toInt = -1 → Q (some (.int ((runD (N pn) (P pn) a b).2 1 cn))) (f', r)) ∧ ∀ wn : Nat, w = nI wn → wn < 2 ^ 31 → Q (some (.int (celA (runD (N pn) (P pn) a b) wn cn))) (f', r)) : xMet G (d + 9) mX7_cell [.ref z, .int p, .int a, .int b, .int w, .int c] (f, r) r Q := by
  refine xMet_0 (by decide +kernel) rfl (Nat.le_of_ble_eq_true rfl) ?_
  show xX G (d + 9) mX7_cell r r (xΦ G r r Q) 0 [(0, .ref z), (1, .int p), (2, .int a), (3, .int b), (4, .int w), (5, .int c)] [] (f, r)
  have hC := hV.1
  refine xr_iload_n (n := 1) dX7_cell_0 rfl rfl ?_
  refine xr_callS (y2 := mX7_isProgram) (As := [_]) (n := 4) dX7_cell_1 lm_X7_75 pm_X7_isProgram kp_static_yX7_isProgram rfl rfl (by simp [Value.category]) rfl ⟨Nat.le_refl _, Nat.le_refl _⟩ ?_
  refine s_X7_isProgram ?_
  dsimp only [xK, xps]
  refine xr_beq (tgt := 29) (n := 7) dX7_cell_4 (by decide) rfl (fun h4 => ?_) (fun h4 => ?_)
  · refine xr_sipush (v := (-10001)) (n := 32) dX7_cell_29 (by decide) rfl ?_
    refine xr_ireturn dX7_cell_32 rfl rfl rfl ?_
    exact hq0 (fun z => h4 z.1)
  · obtain ⟨pn, hpn, rfl⟩ := k_of h4.1
    have hp1 : pn ≤ 1 := by (have h4b := h4.2; rw [nt _ hpn] at h4b; omega)
    refine xr_iload_n (n := 8) dX7_cell_7 rfl rfl ?_
    refine xr_iload_n (n := 9) dX7_cell_8 rfl rfl ?_
    refine xr_callS (y2 := mX7_isInput) (As := [_, _]) (n := 12) dX7_cell_9 lm_X7_122 pm_X7_isInput kp_static_yX7_isInput rfl rfl (by simp [Value.category]) rfl ⟨Nat.le_refl _, Nat.le_refl _⟩ ?_
    refine s_X7_isInput ?_
    dsimp only [xK, xps]
    refine xr_beq (tgt := 29) (n := 15) dX7_cell_12 (by decide) rfl (fun h12 => ?_) (fun h12 => ?_)
    · refine xr_sipush (v := (-10001)) (n := 32) dX7_cell_29 (by decide) rfl ?_
      refine xr_ireturn dX7_cell_32 rfl rfl rfl ?_
      exact hq0 (fun z => h12 z.2.1)
    · refine xr_iload (n := 17) dX7_cell_15 rfl rfl ?_
      refine xr_iconst (v := (-1)) (n := 18) dX7_cell_17 (by decide) rfl ?_
      refine xr_icmp_lt (tgt := 29) (n := 21) dX7_cell_18 (by decide) rfl (fun h18 => ?_) (fun h18 => ?_)
      · refine xr_sipush (v := (-10001)) (n := 32) dX7_cell_29 (by decide) rfl ?_
        refine xr_ireturn dX7_cell_32 rfl rfl rfl ?_
        exact hq0 (fun z => by have z2 := z.2.2.1; rw [i_lt, i_m1] at h18; omega)
      · refine xr_iload (n := 23) dX7_cell_21 rfl rfl ?_
        refine xr_callS (y2 := mX7_isCell) (As := [_]) (n := 26) dX7_cell_23 lm_X7_158 pm_X7_isCell kp_static_yX7_isCell rfl rfl (by simp [Value.category]) rfl ⟨Nat.le_refl _, Nat.le_refl _⟩ ?_
        refine s_X7_isCell ?_
        dsimp only [xK, xps]
        refine xr_bne (tgt := 33) (n := 29) dX7_cell_26 (by decide) rfl (fun h26 => ?_) (fun h26 => ?_)
        · obtain ⟨cn, hcn, rfl⟩ := k_of h26.1
          have hc5 : cn ≤ 5 := by (have h4b := h26.2; rw [nt _ hcn] at h4b; omega)
          refine xr_aload_n (n := 34) dX7_cell_33 rfl rfl ?_
          refine xr_iload_n (n := 35) dX7_cell_34 rfl rfl ?_
          refine xr_iload_n (n := 36) dX7_cell_35 rfl rfl ?_
          refine xr_iload_n (n := 37) dX7_cell_36 rfl rfl ?_
          refine xr_callV (y2 := mX7_traceOf) (As := [_, _, _]) (n := 40) dX7_cell_37 lm_X7_126 pm_X7_traceOf pi_X7_traceOf (by first | assumption | exact hC.2.1.1 | exact hC.2.1.2.1 | exact hC.2.2.1.1 | exact xat_0 hC.x | exact lat_0 hC.d | exact lat_0 (hC.l (by omega)) | exact qat_0 hC.q | exact tat_0 hC.t0 | exact tat_0 hC.t1 | exact tat_r hC.t0 (i := 1) (by decide) | exact tat_r hC.t1 (i := 1) (by decide) | exact hC1.2.1.1 | exact hC1.2.1.2.1 | exact hC1.2.2.1.1 | exact xat_0 hC1.x | exact lat_0 hC1.d | exact lat_0 (hC1.l (by omega)) | exact qat_0 hC1.q | exact tat_0 hC1.t0 | exact tat_0 hC1.t1 | exact tat_r hC1.t0 (i := 1) (by decide) | exact tat_r hC1.t1 (i := 1) (by decide) | exact hC2.2.1.1 | exact hC2.2.1.2.1 | exact hC2.2.2.1.1 | exact xat_0 hC2.x | exact lat_0 hC2.d | exact lat_0 (hC2.l (by omega)) | exact qat_0 hC2.q | exact tat_0 hC2.t0 | exact tat_0 hC2.t1 | exact tat_r hC2.t0 (i := 1) (by decide) | exact tat_r hC2.t1 (i := 1) (by decide)) rfl rfl rfl (by simp [Value.category]) rfl ⟨Nat.le_refl _, Nat.le_refl _⟩ ?_
          refine s_X7_traceOf hV hA hp1 h12 (fun f1 S1 hV1 hr1 htr => ?_)
          have hC1 := hV1.1
          obtain ⟨mk, tl, hmk, htl, e6, e9⟩ := htr.c (hA.2.2.2.1 pn hp1).1 h12
          dsimp only [xK, xps]
          refine xr_astore (n := 42) dX7_cell_40 rfl rfl ?_
          simp only [xst, Nat.beq, List.filter, Bool.not_true, Bool.not_false]
          refine xr_iload (n := 44) dX7_cell_42 rfl rfl ?_
          refine xr_iconst (v := (-1)) (n := 45) dX7_cell_44 (by decide) rfl ?_
          refine xr_icmp_ne (tgt := 58) (n := 48) dX7_cell_45 (by decide) rfl (fun h45 => ?_) (fun h45 => ?_)
          · have hw0 : 0 ≤ w.toInt := by
              rw [i_lt, i_m1] at h18
              rw [i_eq, i_m1] at h45
              omega
            obtain ⟨wn, hwn, rfl⟩ := k_of hw0
            refine xr_aload (n := 60) dX7_cell_58 rfl rfl ?_
            refine xr_iload (n := 62) dX7_cell_60 rfl rfl ?_
            refine xr_iload (n := 64) dX7_cell_62 rfl rfl ?_
            refine xr_callV (y2 := mX6_cellAtMark) (As := [_, _]) (n := 67) dX7_cell_64 lm_X7_164 pm_X6_cellAtMark pi_X6_cellAtMark (by first | assumption | exact hC.2.1.1 | exact hC.2.1.2.1 | exact hC.2.2.1.1 | exact xat_0 hC.x | exact lat_0 hC.d | exact lat_0 (hC.l (by omega)) | exact qat_0 hC.q | exact tat_0 hC.t0 | exact tat_0 hC.t1 | exact tat_r hC.t0 (i := 1) (by decide) | exact tat_r hC.t1 (i := 1) (by decide) | exact hC1.2.1.1 | exact hC1.2.1.2.1 | exact hC1.2.2.1.1 | exact xat_0 hC1.x | exact lat_0 hC1.d | exact lat_0 (hC1.l (by omega)) | exact qat_0 hC1.q | exact tat_0 hC1.t0 | exact tat_0 hC1.t1 | exact tat_r hC1.t0 (i := 1) (by decide) | exact tat_r hC1.t1 (i := 1) (by decide) | exact hC2.2.1.1 | exact hC2.2.1.2.1 | exact hC2.2.2.1.1 | exact xat_0 hC2.x | exact lat_0 hC2.d | exact lat_0 (hC2.l (by omega)) | exact qat_0 hC2.q | exact tat_0 hC2.t0 | exact tat_0 hC2.t1 | exact tat_r hC2.t0 (i := 1) (by decide) | exact tat_r hC2.t1 (i := 1) (by decide)) rfl rfl rfl (by simp [Value.category]) rfl ⟨Nat.le_refl _, Nat.le_refl _⟩ ?_
            refine s_X6_cellAtMark hC1.t0 e6 hmk hwn (by omega) ?_
            dsimp only [xK, xps]
            refine xr_ireturn dX7_cell_67 rfl rfl rfl ?_
            rw [ce_sim htr.1 0 wn (by omega)]
            exact (hq pn cn hp1 hc5 rfl rfl h12 f1 ⟨_, _, hV1⟩ hr1).2 wn rfl hwn
          · have h45b : w = (-1) := by first | exact h45 | exact Decidable.not_not.mp h45
            refine xr_aload (n := 50) dX7_cell_48 rfl rfl ?_
            refine xr_iload (n := 52) dX7_cell_50 rfl rfl ?_
            refine xr_callV (y2 := mX6_valueOf) (As := [_]) (n := 55) dX7_cell_52 lm_X7_161 pm_X6_valueOf pi_X6_valueOf (by first | assumption | exact hC.2.1.1 | exact hC.2.1.2.1 | exact hC.2.2.1.1 | exact xat_0 hC.x | exact lat_0 hC.d | exact lat_0 (hC.l (by omega)) | exact qat_0 hC.q | exact tat_0 hC.t0 | exact tat_0 hC.t1 | exact tat_r hC.t0 (i := 1) (by decide) | exact tat_r hC.t1 (i := 1) (by decide) | exact hC1.2.1.1 | exact hC1.2.1.2.1 | exact hC1.2.2.1.1 | exact xat_0 hC1.x | exact lat_0 hC1.d | exact lat_0 (hC1.l (by omega)) | exact qat_0 hC1.q | exact tat_0 hC1.t0 | exact tat_0 hC1.t1 | exact tat_r hC1.t0 (i := 1) (by decide) | exact tat_r hC1.t1 (i := 1) (by decide) | exact hC2.2.1.1 | exact hC2.2.1.2.1 | exact hC2.2.2.1.1 | exact xat_0 hC2.x | exact lat_0 hC2.d | exact lat_0 (hC2.l (by omega)) | exact qat_0 hC2.q | exact tat_0 hC2.t0 | exact tat_0 hC2.t1 | exact tat_r hC2.t0 (i := 1) (by decide) | exact tat_r hC2.t1 (i := 1) (by decide)) rfl rfl rfl (by simp [Value.category]) rfl ⟨Nat.le_refl _, Nat.le_refl _⟩ ?_
            refine s_X6_valueOf hC1.t0 (by omega) ?_
            dsimp only [xK, xps]
            refine xr_goto (n := 67) dX7_cell_55 (by decide) ?_
            refine xr_ireturn dX7_cell_67 rfl rfl rfl ?_
            have h9 := (hq pn cn hp1 hc5 rfl rfl h12 f1 ⟨_, _, hV1⟩ hr1).1 (by first | (rw [h45b]; exact i_m1))
            rw [htr.1.1 cn (by omega)]
            exact h9
        · refine xr_sipush (v := (-10001)) (n := 32) dX7_cell_29 (by decide) rfl ?_
          refine xr_ireturn dX7_cell_32 rfl rfl rfl ?_
          exact hq0 (fun z => h26 z.2.2.2)

theorem s_X7_pairs {G : xG} {d : Nat} {f : Nat → xC} {r : Nat × Nat} {Q : Option Value → xM → Prop} {z n sv : Nat} {rl : Nat → Nat} {S : Nat → xS} {t : Nat → Int32} {N : Nat → Nat} {P : Nat → Nat → Nat → Nat} {HN : Nat → Nat → Nat} {HP : Nat → Nat → Nat → Nat → Nat} {a b w : Int32} (hV : CV f z rl sv S t n N P HN HP) (hA : AI t n sv N P HN HP) (hq0 : ¬ (((-999 ≤ a.toInt ∧ a.toInt ≤ 999) ∧ (-999 ≤ b.toInt ∧ b.toInt ≤ 999)) ∧ (0 ≤ w.toInt ∧ w.toInt ≤ 3)) → Q (some (.int (-10001))) (f, r)) (hq : ∀ (wn : Nat), wn ≤ 3 → w = nI wn → inpt a b → ∀ f', CI f' z t n sv N P HN HP → rgn z f f' → Q (some (.int (prV (RP N P a b 0) (RP N P a b 1) wn))) (f', r)) : xMet G (d + 9) mX7_pairs [.ref z, .int a, .int b, .int w] (f, r) r Q := by
  refine xMet_0 (by decide +kernel) rfl (Nat.le_of_ble_eq_true rfl) ?_
  show xX G (d + 9) mX7_pairs r r (xΦ G r r Q) 0 [(0, .ref z), (1, .int a), (2, .int b), (3, .int w)] [] (f, r)
  have hC := hV.1
  refine xr_iload_n (n := 1) dX7_pairs_0 rfl rfl ?_
  refine xr_iload_n (n := 2) dX7_pairs_1 rfl rfl ?_
  refine xr_callS (y2 := mX7_isInput) (As := [_, _]) (n := 5) dX7_pairs_2 lm_X7_122 pm_X7_isInput kp_static_yX7_isInput rfl rfl (by simp [Value.category]) rfl ⟨Nat.le_refl _, Nat.le_refl _⟩ ?_
  refine s_X7_isInput ?_
  dsimp only [xK, xps]
  refine xr_beq (tgt := 17) (n := 8) dX7_pairs_5 (by decide) rfl (fun h5 => ?_) (fun h5 => ?_)
  · refine xr_sipush (v := (-10001)) (n := 20) dX7_pairs_17 (by decide) rfl ?_
    refine xr_ireturn dX7_pairs_20 rfl rfl rfl ?_
    exact hq0 (fun z => h5 z.1)
  · refine xr_iload_n (n := 9) dX7_pairs_8 rfl rfl ?_
    refine xr_iconst (v := nI 0) (n := 10) dX7_pairs_9 (by decide) rfl ?_
    refine xr_iconst (v := nI 3) (n := 11) dX7_pairs_10 (by decide) rfl ?_
    refine xr_callS (y2 := mX7_isWithin) (As := [_, _, _]) (n := 14) dX7_pairs_11 lm_X7_59 pm_X7_isWithin kp_static_yX7_isWithin rfl rfl (by simp [Value.category]) rfl ⟨Nat.le_refl _, Nat.le_refl _⟩ ?_
    refine s_X7_isWithin ?_
    dsimp only [xK, xps]
    refine xr_bne (tgt := 21) (n := 17) dX7_pairs_14 (by decide) rfl (fun h14 => ?_) (fun h14 => ?_)
    · rw [nt _ (by omega), nt _ (by omega)] at h14
      refine xr_aload_n (n := 22) dX7_pairs_21 rfl rfl ?_
      refine xr_get (n := 25) dX7_pairs_22 fl_X7_42 (by first | assumption | exact hC.2.1.1 | exact hC.2.1.2.1 | exact hC.2.2.1.1 | exact xat_0 hC.x | exact lat_0 hC.d | exact lat_0 (hC.l (by omega)) | exact qat_0 hC.q | exact tat_0 hC.t0 | exact tat_0 hC.t1 | exact tat_r hC.t0 (i := 1) (by decide) | exact tat_r hC.t1 (i := 1) (by decide) | exact hC1.2.1.1 | exact hC1.2.1.2.1 | exact hC1.2.2.1.1 | exact xat_0 hC1.x | exact lat_0 hC1.d | exact lat_0 (hC1.l (by omega)) | exact qat_0 hC1.q | exact tat_0 hC1.t0 | exact tat_0 hC1.t1 | exact tat_r hC1.t0 (i := 1) (by decide) | exact tat_r hC1.t1 (i := 1) (by decide) | exact hC2.2.1.1 | exact hC2.2.1.2.1 | exact hC2.2.2.1.1 | exact xat_0 hC2.x | exact lat_0 hC2.d | exact lat_0 (hC2.l (by omega)) | exact qat_0 hC2.q | exact tat_0 hC2.t0 | exact tat_0 hC2.t1 | exact tat_r hC2.t0 (i := 1) (by decide) | exact tat_r hC2.t1 (i := 1) (by decide)) (by rfl) rfl ?_
      refine xr_aload_n (n := 26) dX7_pairs_25 rfl rfl ?_
      refine xr_get (n := 29) dX7_pairs_26 fl_X7_53 (by first | assumption | exact hC.2.1.1 | exact hC.2.1.2.1 | exact hC.2.2.1.1 | exact xat_0 hC.x | exact lat_0 hC.d | exact lat_0 (hC.l (by omega)) | exact qat_0 hC.q | exact tat_0 hC.t0 | exact tat_0 hC.t1 | exact tat_r hC.t0 (i := 1) (by decide) | exact tat_r hC.t1 (i := 1) (by decide) | exact hC1.2.1.1 | exact hC1.2.1.2.1 | exact hC1.2.2.1.1 | exact xat_0 hC1.x | exact lat_0 hC1.d | exact lat_0 (hC1.l (by omega)) | exact qat_0 hC1.q | exact tat_0 hC1.t0 | exact tat_0 hC1.t1 | exact tat_r hC1.t0 (i := 1) (by decide) | exact tat_r hC1.t1 (i := 1) (by decide) | exact hC2.2.1.1 | exact hC2.2.1.2.1 | exact hC2.2.2.1.1 | exact xat_0 hC2.x | exact lat_0 hC2.d | exact lat_0 (hC2.l (by omega)) | exact qat_0 hC2.q | exact tat_0 hC2.t0 | exact tat_0 hC2.t1 | exact tat_r hC2.t0 (i := 1) (by decide) | exact tat_r hC2.t1 (i := 1) (by decide)) (by rfl) rfl ?_
      refine xr_aload_n (n := 30) dX7_pairs_29 rfl rfl ?_
      refine xr_get (n := 33) dX7_pairs_30 fl_X7_56 (by first | assumption | exact hC.2.1.1 | exact hC.2.1.2.1 | exact hC.2.2.1.1 | exact xat_0 hC.x | exact lat_0 hC.d | exact lat_0 (hC.l (by omega)) | exact qat_0 hC.q | exact tat_0 hC.t0 | exact tat_0 hC.t1 | exact tat_r hC.t0 (i := 1) (by decide) | exact tat_r hC.t1 (i := 1) (by decide) | exact hC1.2.1.1 | exact hC1.2.1.2.1 | exact hC1.2.2.1.1 | exact xat_0 hC1.x | exact lat_0 hC1.d | exact lat_0 (hC1.l (by omega)) | exact qat_0 hC1.q | exact tat_0 hC1.t0 | exact tat_0 hC1.t1 | exact tat_r hC1.t0 (i := 1) (by decide) | exact tat_r hC1.t1 (i := 1) (by decide) | exact hC2.2.1.1 | exact hC2.2.1.2.1 | exact hC2.2.2.1.1 | exact xat_0 hC2.x | exact lat_0 hC2.d | exact lat_0 (hC2.l (by omega)) | exact qat_0 hC2.q | exact tat_0 hC2.t0 | exact tat_0 hC2.t1 | exact tat_r hC2.t0 (i := 1) (by decide) | exact tat_r hC2.t1 (i := 1) (by decide)) (by rfl) rfl ?_
      refine xr_iload_n (n := 34) dX7_pairs_33 rfl rfl ?_
      refine xr_iload_n (n := 35) dX7_pairs_34 rfl rfl ?_
      refine xr_callV (y2 := mX4_follow) (As := [_, _, _, _]) (n := 38) dX7_pairs_35 lm_X7_168 pm_X4_follow pi_X4_follow (by first | assumption | exact hC.2.1.1 | exact hC.2.1.2.1 | exact hC.2.2.1.1 | exact xat_0 hC.x | exact lat_0 hC.d | exact lat_0 (hC.l (by omega)) | exact qat_0 hC.q | exact tat_0 hC.t0 | exact tat_0 hC.t1 | exact tat_r hC.t0 (i := 1) (by decide) | exact tat_r hC.t1 (i := 1) (by decide) | exact hC1.2.1.1 | exact hC1.2.1.2.1 | exact hC1.2.2.1.1 | exact xat_0 hC1.x | exact lat_0 hC1.d | exact lat_0 (hC1.l (by omega)) | exact qat_0 hC1.q | exact tat_0 hC1.t0 | exact tat_0 hC1.t1 | exact tat_r hC1.t0 (i := 1) (by decide) | exact tat_r hC1.t1 (i := 1) (by decide) | exact hC2.2.1.1 | exact hC2.2.1.2.1 | exact hC2.2.2.1.1 | exact xat_0 hC2.x | exact lat_0 hC2.d | exact lat_0 (hC2.l (by omega)) | exact qat_0 hC2.q | exact tat_0 hC2.t0 | exact tat_0 hC2.t1 | exact tat_r hC2.t0 (i := 1) (by decide) | exact tat_r hC2.t1 (i := 1) (by decide)) rfl rfl rfl (by simp [Value.category]) rfl ⟨Nat.le_refl _, Nat.le_refl _⟩ ?_
      refine s_X4_follow_p hV hA h5 (fun f1 S1 hV1 hr1 htr htr2 => ?_)
      have hC1 := hV1.1
      obtain ⟨mk, tl, hmk, htl, e6, e9⟩ := htr.c (hA.2.2.2.1 0 (by omega)).1 h5
      obtain ⟨mk1, tl1, hmk1, htl1, e61, e91⟩ := htr2.c (hA.2.2.2.1 1 (by omega)).1 h5
      dsimp only [xK, xps]
      refine xr_iload_n (n := 39) dX7_pairs_38 rfl rfl ?_
      rcases (show w.toInt < 0 ∨ 2 < w.toInt ∨ w.toInt = 0 ∨ w.toInt = 1 ∨ w.toInt = 2 by omega) with hx | hx | hx | hx | hx
      · refine xr_tableOut (n := 88) dX7_pairs_39 (Or.inl hx) (by decide) ?_
        exact absurd h14.1 (by omega)
      · refine xr_tableOut (n := 88) dX7_pairs_39 (Or.inr hx) (by decide) ?_
        have hw : w = nI 3 := w_nI (by omega) (by omega)
        subst hw
        refine xr_aload_n (n := 89) dX7_pairs_88 rfl rfl ?_
        refine xr_get (n := 92) dX7_pairs_89 fl_X7_42 (by first | assumption | exact hC.2.1.1 | exact hC.2.1.2.1 | exact hC.2.2.1.1 | exact xat_0 hC.x | exact lat_0 hC.d | exact lat_0 (hC.l (by omega)) | exact qat_0 hC.q | exact tat_0 hC.t0 | exact tat_0 hC.t1 | exact tat_r hC.t0 (i := 1) (by decide) | exact tat_r hC.t1 (i := 1) (by decide) | exact hC1.2.1.1 | exact hC1.2.1.2.1 | exact hC1.2.2.1.1 | exact xat_0 hC1.x | exact lat_0 hC1.d | exact lat_0 (hC1.l (by omega)) | exact qat_0 hC1.q | exact tat_0 hC1.t0 | exact tat_0 hC1.t1 | exact tat_r hC1.t0 (i := 1) (by decide) | exact tat_r hC1.t1 (i := 1) (by decide) | exact hC2.2.1.1 | exact hC2.2.1.2.1 | exact hC2.2.2.1.1 | exact xat_0 hC2.x | exact lat_0 hC2.d | exact lat_0 (hC2.l (by omega)) | exact qat_0 hC2.q | exact tat_0 hC2.t0 | exact tat_0 hC2.t1 | exact tat_r hC2.t0 (i := 1) (by decide) | exact tat_r hC2.t1 (i := 1) (by decide)) (by rfl) rfl ?_
        refine xr_callV (y2 := mX4_evenPairs) (As := []) (n := 95) dX7_pairs_92 lm_X7_181 pm_X4_evenPairs pi_X4_evenPairs (by first | assumption | exact hC.2.1.1 | exact hC.2.1.2.1 | exact hC.2.2.1.1 | exact xat_0 hC.x | exact lat_0 hC.d | exact lat_0 (hC.l (by omega)) | exact qat_0 hC.q | exact tat_0 hC.t0 | exact tat_0 hC.t1 | exact tat_r hC.t0 (i := 1) (by decide) | exact tat_r hC.t1 (i := 1) (by decide) | exact hC1.2.1.1 | exact hC1.2.1.2.1 | exact hC1.2.2.1.1 | exact xat_0 hC1.x | exact lat_0 hC1.d | exact lat_0 (hC1.l (by omega)) | exact qat_0 hC1.q | exact tat_0 hC1.t0 | exact tat_0 hC1.t1 | exact tat_r hC1.t0 (i := 1) (by decide) | exact tat_r hC1.t1 (i := 1) (by decide) | exact hC2.2.1.1 | exact hC2.2.1.2.1 | exact hC2.2.2.1.1 | exact xat_0 hC2.x | exact lat_0 hC2.d | exact lat_0 (hC2.l (by omega)) | exact qat_0 hC2.q | exact tat_0 hC2.t0 | exact tat_0 hC2.t1 | exact tat_r hC2.t0 (i := 1) (by decide) | exact tat_r hC2.t1 (i := 1) (by decide)) rfl rfl rfl (by simp [Value.category]) rfl ⟨Nat.le_refl _, Nat.le_refl _⟩ ?_
        refine s_X4_evenPairs hC1.2.1.2.1 hC1.t0 hC1.t1 e6 hmk e61 hmk1 ?_
        dsimp only [xK, xps]
        refine xr_ireturn dX7_pairs_95 rfl rfl rfl ?_
        have h9 := hq 3 (by omega) rfl h5 f1 ⟨_, _, hV1⟩ hr1
        rw [ae_sim htr.1 htr2.1 0 0 _ (by rw [pm_sim htr.1 htr2.1]; exact Nat.le_refl _), pm_sim htr.1 htr2.1]
        exact h9
      · refine xr_tableIn (n := 64) (off := 25) dX7_pairs_39 (by omega) (by omega) (by rw [hx]; rfl) (by decide) ?_
        have hw : w = nI 0 := w_nI (by omega) (by omega)
        subst hw
        refine xr_aload_n (n := 65) dX7_pairs_64 rfl rfl ?_
        refine xr_get (n := 68) dX7_pairs_65 fl_X7_42 (by first | assumption | exact hC.2.1.1 | exact hC.2.1.2.1 | exact hC.2.2.1.1 | exact xat_0 hC.x | exact lat_0 hC.d | exact lat_0 (hC.l (by omega)) | exact qat_0 hC.q | exact tat_0 hC.t0 | exact tat_0 hC.t1 | exact tat_r hC.t0 (i := 1) (by decide) | exact tat_r hC.t1 (i := 1) (by decide) | exact hC1.2.1.1 | exact hC1.2.1.2.1 | exact hC1.2.2.1.1 | exact xat_0 hC1.x | exact lat_0 hC1.d | exact lat_0 (hC1.l (by omega)) | exact qat_0 hC1.q | exact tat_0 hC1.t0 | exact tat_0 hC1.t1 | exact tat_r hC1.t0 (i := 1) (by decide) | exact tat_r hC1.t1 (i := 1) (by decide) | exact hC2.2.1.1 | exact hC2.2.1.2.1 | exact hC2.2.2.1.1 | exact xat_0 hC2.x | exact lat_0 hC2.d | exact lat_0 (hC2.l (by omega)) | exact qat_0 hC2.q | exact tat_0 hC2.t0 | exact tat_0 hC2.t1 | exact tat_r hC2.t0 (i := 1) (by decide) | exact tat_r hC2.t1 (i := 1) (by decide)) (by rfl) rfl ?_
        refine xr_callV (y2 := mX4_pairsKept) (As := []) (n := 71) dX7_pairs_68 lm_X7_172 pm_X4_pairsKept pi_X4_pairsKept (by first | assumption | exact hC.2.1.1 | exact hC.2.1.2.1 | exact hC.2.2.1.1 | exact xat_0 hC.x | exact lat_0 hC.d | exact lat_0 (hC.l (by omega)) | exact qat_0 hC.q | exact tat_0 hC.t0 | exact tat_0 hC.t1 | exact tat_r hC.t0 (i := 1) (by decide) | exact tat_r hC.t1 (i := 1) (by decide) | exact hC1.2.1.1 | exact hC1.2.1.2.1 | exact hC1.2.2.1.1 | exact xat_0 hC1.x | exact lat_0 hC1.d | exact lat_0 (hC1.l (by omega)) | exact qat_0 hC1.q | exact tat_0 hC1.t0 | exact tat_0 hC1.t1 | exact tat_r hC1.t0 (i := 1) (by decide) | exact tat_r hC1.t1 (i := 1) (by decide) | exact hC2.2.1.1 | exact hC2.2.1.2.1 | exact hC2.2.2.1.1 | exact xat_0 hC2.x | exact lat_0 hC2.d | exact lat_0 (hC2.l (by omega)) | exact qat_0 hC2.q | exact tat_0 hC2.t0 | exact tat_0 hC2.t1 | exact tat_r hC2.t0 (i := 1) (by decide) | exact tat_r hC2.t1 (i := 1) (by decide)) rfl rfl rfl (by simp [Value.category]) rfl ⟨Nat.le_refl _, Nat.le_refl _⟩ ?_
        refine s_X4_pairsKept hC1.2.1.2.1 hC1.t0 hC1.t1 e6 hmk e61 hmk1 ?_
        dsimp only [xK, xps]
        refine xr_ireturn dX7_pairs_71 rfl rfl rfl ?_
        have h9 := hq 0 (by omega) rfl h5 f1 ⟨_, _, hV1⟩ hr1
        rw [pm_sim htr.1 htr2.1]
        exact h9
      · refine xr_tableIn (n := 72) (off := 33) dX7_pairs_39 (by omega) (by omega) (by rw [hx]; rfl) (by decide) ?_
        have hw : w = nI 1 := w_nI (by omega) (by omega)
        subst hw
        refine xr_aload_n (n := 73) dX7_pairs_72 rfl rfl ?_
        refine xr_get (n := 76) dX7_pairs_73 fl_X7_42 (by first | assumption | exact hC.2.1.1 | exact hC.2.1.2.1 | exact hC.2.2.1.1 | exact xat_0 hC.x | exact lat_0 hC.d | exact lat_0 (hC.l (by omega)) | exact qat_0 hC.q | exact tat_0 hC.t0 | exact tat_0 hC.t1 | exact tat_r hC.t0 (i := 1) (by decide) | exact tat_r hC.t1 (i := 1) (by decide) | exact hC1.2.1.1 | exact hC1.2.1.2.1 | exact hC1.2.2.1.1 | exact xat_0 hC1.x | exact lat_0 hC1.d | exact lat_0 (hC1.l (by omega)) | exact qat_0 hC1.q | exact tat_0 hC1.t0 | exact tat_0 hC1.t1 | exact tat_r hC1.t0 (i := 1) (by decide) | exact tat_r hC1.t1 (i := 1) (by decide) | exact hC2.2.1.1 | exact hC2.2.1.2.1 | exact hC2.2.2.1.1 | exact xat_0 hC2.x | exact lat_0 hC2.d | exact lat_0 (hC2.l (by omega)) | exact qat_0 hC2.q | exact tat_0 hC2.t0 | exact tat_0 hC2.t1 | exact tat_r hC2.t0 (i := 1) (by decide) | exact tat_r hC2.t1 (i := 1) (by decide)) (by rfl) rfl ?_
        refine xr_callV (y2 := mX4_greatestLead) (As := []) (n := 79) dX7_pairs_76 lm_X7_175 pm_X4_greatestLead pi_X4_greatestLead (by first | assumption | exact hC.2.1.1 | exact hC.2.1.2.1 | exact hC.2.2.1.1 | exact xat_0 hC.x | exact lat_0 hC.d | exact lat_0 (hC.l (by omega)) | exact qat_0 hC.q | exact tat_0 hC.t0 | exact tat_0 hC.t1 | exact tat_r hC.t0 (i := 1) (by decide) | exact tat_r hC.t1 (i := 1) (by decide) | exact hC1.2.1.1 | exact hC1.2.1.2.1 | exact hC1.2.2.1.1 | exact xat_0 hC1.x | exact lat_0 hC1.d | exact lat_0 (hC1.l (by omega)) | exact qat_0 hC1.q | exact tat_0 hC1.t0 | exact tat_0 hC1.t1 | exact tat_r hC1.t0 (i := 1) (by decide) | exact tat_r hC1.t1 (i := 1) (by decide) | exact hC2.2.1.1 | exact hC2.2.1.2.1 | exact hC2.2.2.1.1 | exact xat_0 hC2.x | exact lat_0 hC2.d | exact lat_0 (hC2.l (by omega)) | exact qat_0 hC2.q | exact tat_0 hC2.t0 | exact tat_0 hC2.t1 | exact tat_r hC2.t0 (i := 1) (by decide) | exact tat_r hC2.t1 (i := 1) (by decide)) rfl rfl rfl (by simp [Value.category]) rfl ⟨Nat.le_refl _, Nat.le_refl _⟩ ?_
        refine s_X4_greatestLead hC1.2.1.2.1 hC1.t0 hC1.t1 e6 hmk e61 hmk1 (fun k hk => ?_) ?_
        · rw [ld_sim htr.1 htr2.1 0 0 (by rw [pm_sim htr.1 htr2.1] at hk; exact hk)]
          exact ab_0 st3_D st3_D
        dsimp only [xK, xps]
        refine xr_ireturn dX7_pairs_79 rfl rfl rfl ?_
        have h9 := hq 1 (by omega) rfl h5 f1 ⟨_, _, hV1⟩ hr1
        rw [gl_sim htr.1 htr2.1 0 0 _ (by rw [pm_sim htr.1 htr2.1]; exact Nat.le_refl _), pm_sim htr.1 htr2.1]
        exact h9
      · refine xr_tableIn (n := 80) (off := 41) dX7_pairs_39 (by omega) (by omega) (by rw [hx]; rfl) (by decide) ?_
        have hw : w = nI 2 := w_nI (by omega) (by omega)
        subst hw
        refine xr_aload_n (n := 81) dX7_pairs_80 rfl rfl ?_
        refine xr_get (n := 84) dX7_pairs_81 fl_X7_42 (by first | assumption | exact hC.2.1.1 | exact hC.2.1.2.1 | exact hC.2.2.1.1 | exact xat_0 hC.x | exact lat_0 hC.d | exact lat_0 (hC.l (by omega)) | exact qat_0 hC.q | exact tat_0 hC.t0 | exact tat_0 hC.t1 | exact tat_r hC.t0 (i := 1) (by decide) | exact tat_r hC.t1 (i := 1) (by decide) | exact hC1.2.1.1 | exact hC1.2.1.2.1 | exact hC1.2.2.1.1 | exact xat_0 hC1.x | exact lat_0 hC1.d | exact lat_0 (hC1.l (by omega)) | exact qat_0 hC1.q | exact tat_0 hC1.t0 | exact tat_0 hC1.t1 | exact tat_r hC1.t0 (i := 1) (by decide) | exact tat_r hC1.t1 (i := 1) (by decide) | exact hC2.2.1.1 | exact hC2.2.1.2.1 | exact hC2.2.2.1.1 | exact xat_0 hC2.x | exact lat_0 hC2.d | exact lat_0 (hC2.l (by omega)) | exact qat_0 hC2.q | exact tat_0 hC2.t0 | exact tat_0 hC2.t1 | exact tat_r hC2.t0 (i := 1) (by decide) | exact tat_r hC2.t1 (i := 1) (by decide)) (by rfl) rfl ?_
        refine xr_callV (y2 := mX4_lastLead) (As := []) (n := 87) dX7_pairs_84 lm_X7_178 pm_X4_lastLead pi_X4_lastLead (by first | assumption | exact hC.2.1.1 | exact hC.2.1.2.1 | exact hC.2.2.1.1 | exact xat_0 hC.x | exact lat_0 hC.d | exact lat_0 (hC.l (by omega)) | exact qat_0 hC.q | exact tat_0 hC.t0 | exact tat_0 hC.t1 | exact tat_r hC.t0 (i := 1) (by decide) | exact tat_r hC.t1 (i := 1) (by decide) | exact hC1.2.1.1 | exact hC1.2.1.2.1 | exact hC1.2.2.1.1 | exact xat_0 hC1.x | exact lat_0 hC1.d | exact lat_0 (hC1.l (by omega)) | exact qat_0 hC1.q | exact tat_0 hC1.t0 | exact tat_0 hC1.t1 | exact tat_r hC1.t0 (i := 1) (by decide) | exact tat_r hC1.t1 (i := 1) (by decide) | exact hC2.2.1.1 | exact hC2.2.1.2.1 | exact hC2.2.2.1.1 | exact xat_0 hC2.x | exact lat_0 hC2.d | exact lat_0 (hC2.l (by omega)) | exact qat_0 hC2.q | exact tat_0 hC2.t0 | exact tat_0 hC2.t1 | exact tat_r hC2.t0 (i := 1) (by decide) | exact tat_r hC2.t1 (i := 1) (by decide)) rfl rfl rfl (by simp [Value.category]) rfl ⟨Nat.le_refl _, Nat.le_refl _⟩ ?_
        refine s_X4_lastLead hC1.2.1.2.1 hC1.t0 hC1.t1 e6 hmk e61 hmk1 ?_
        dsimp only [xK, xps]
        refine xr_ireturn dX7_pairs_87 rfl rfl rfl ?_
        have h9 := hq 2 (by omega) rfl h5 f1 ⟨_, _, hV1⟩ hr1
        rw [pm_sim htr.1 htr2.1]
        unfold prV at h9
        rw [if_neg (show ¬ (2 : Nat) = 0 by omega), if_neg (show ¬ (2 : Nat) = 3 by omega)] at h9
        by_cases e : pmA (runD (N 0) (P 0) a b) (runD (N 1) (P 1) a b) = 0
        · rw [if_pos e]
          rw [if_pos (show pmA (RP N P a b 0) (RP N P a b 1) = 0 from e)] at h9
          exact h9
        · rw [if_neg e, ld_sim htr.1 htr2.1 0 0 (by omega)]
          rw [if_neg (show ¬ pmA (RP N P a b 0) (RP N P a b 1) = 0 from e), if_neg (show ¬ (2 : Nat) = 1 by omega)] at h9
          exact h9
    · rw [nt _ (by omega), nt _ (by omega)] at h14
      refine xr_sipush (v := (-10001)) (n := 20) dX7_pairs_17 (by decide) rfl ?_
      refine xr_ireturn dX7_pairs_20 rfl rfl rfl ?_
      exact hq0 (fun z => h14 z.2)

theorem s_X7_equal {G : xG} {d : Nat} {f : Nat → xC} {r : Nat × Nat} {Q : Option Value → xM → Prop} {z n sv : Nat} {rl : Nat → Nat} {S : Nat → xS} {t : Nat → Int32} {N : Nat → Nat} {P : Nat → Nat → Nat → Nat} {HN : Nat → Nat → Nat} {HP : Nat → Nat → Nat → Nat → Nat} {a b c : Int32} (hV : CV f z rl sv S t n N P HN HP) (hA : AI t n sv N P HN HP) (hq0 : ¬ (((-999 ≤ a.toInt ∧ a.toInt ≤ 999) ∧ (-999 ≤ b.toInt ∧ b.toInt ≤ 999)) ∧ (0 ≤ c.toInt ∧ c.toInt ≤ 5)) → Q (some (.int (-10001))) (f, r)) (hq : ∀ (cn : Nat), cn ≤ 5 → c = nI cn → inpt a b → ∀ f', CI f' z t n sv N P HN HP → rgn z f f' → Q (some (.int (eqv (RP N P a b 0) (RP N P a b 1) cn 6))) (f', r)) : xMet G (d + 9) mX7_equal [.ref z, .int a, .int b, .int c] (f, r) r Q := by
  refine xMet_0 (by decide +kernel) rfl (Nat.le_of_ble_eq_true rfl) ?_
  show xX G (d + 9) mX7_equal r r (xΦ G r r Q) 0 [(0, .ref z), (1, .int a), (2, .int b), (3, .int c)] [] (f, r)
  have hC := hV.1
  refine xr_iload_n (n := 1) dX7_equal_0 rfl rfl ?_
  refine xr_iload_n (n := 2) dX7_equal_1 rfl rfl ?_
  refine xr_callS (y2 := mX7_isInput) (As := [_, _]) (n := 5) dX7_equal_2 lm_X7_122 pm_X7_isInput kp_static_yX7_isInput rfl rfl (by simp [Value.category]) rfl ⟨Nat.le_refl _, Nat.le_refl _⟩ ?_
  refine s_X7_isInput ?_
  dsimp only [xK, xps]
  refine xr_beq (tgt := 15) (n := 8) dX7_equal_5 (by decide) rfl (fun h5 => ?_) (fun h5 => ?_)
  · refine xr_sipush (v := (-10001)) (n := 18) dX7_equal_15 (by decide) rfl ?_
    refine xr_ireturn dX7_equal_18 rfl rfl rfl ?_
    exact hq0 (fun z => h5 z.1)
  · refine xr_iload_n (n := 9) dX7_equal_8 rfl rfl ?_
    refine xr_callS (y2 := mX7_isCell) (As := [_]) (n := 12) dX7_equal_9 lm_X7_158 pm_X7_isCell kp_static_yX7_isCell rfl rfl (by simp [Value.category]) rfl ⟨Nat.le_refl _, Nat.le_refl _⟩ ?_
    refine s_X7_isCell ?_
    dsimp only [xK, xps]
    refine xr_bne (tgt := 19) (n := 15) dX7_equal_12 (by decide) rfl (fun h12 => ?_) (fun h12 => ?_)
    · obtain ⟨cn, hcn, rfl⟩ := k_of h12.1
      have hc5 : cn ≤ 5 := by (have h4b := h12.2; rw [nt _ hcn] at h4b; omega)
      refine xr_aload_n (n := 20) dX7_equal_19 rfl rfl ?_
      refine xr_get (n := 23) dX7_equal_20 fl_X7_42 (by first | assumption | exact hC.2.1.1 | exact hC.2.1.2.1 | exact hC.2.2.1.1 | exact xat_0 hC.x | exact lat_0 hC.d | exact lat_0 (hC.l (by omega)) | exact qat_0 hC.q | exact tat_0 hC.t0 | exact tat_0 hC.t1 | exact tat_r hC.t0 (i := 1) (by decide) | exact tat_r hC.t1 (i := 1) (by decide) | exact hC1.2.1.1 | exact hC1.2.1.2.1 | exact hC1.2.2.1.1 | exact xat_0 hC1.x | exact lat_0 hC1.d | exact lat_0 (hC1.l (by omega)) | exact qat_0 hC1.q | exact tat_0 hC1.t0 | exact tat_0 hC1.t1 | exact tat_r hC1.t0 (i := 1) (by decide) | exact tat_r hC1.t1 (i := 1) (by decide) | exact hC2.2.1.1 | exact hC2.2.1.2.1 | exact hC2.2.2.1.1 | exact xat_0 hC2.x | exact lat_0 hC2.d | exact lat_0 (hC2.l (by omega)) | exact qat_0 hC2.q | exact tat_0 hC2.t0 | exact tat_0 hC2.t1 | exact tat_r hC2.t0 (i := 1) (by decide) | exact tat_r hC2.t1 (i := 1) (by decide)) (by rfl) rfl ?_
      refine xr_aload_n (n := 24) dX7_equal_23 rfl rfl ?_
      refine xr_get (n := 27) dX7_equal_24 fl_X7_53 (by first | assumption | exact hC.2.1.1 | exact hC.2.1.2.1 | exact hC.2.2.1.1 | exact xat_0 hC.x | exact lat_0 hC.d | exact lat_0 (hC.l (by omega)) | exact qat_0 hC.q | exact tat_0 hC.t0 | exact tat_0 hC.t1 | exact tat_r hC.t0 (i := 1) (by decide) | exact tat_r hC.t1 (i := 1) (by decide) | exact hC1.2.1.1 | exact hC1.2.1.2.1 | exact hC1.2.2.1.1 | exact xat_0 hC1.x | exact lat_0 hC1.d | exact lat_0 (hC1.l (by omega)) | exact qat_0 hC1.q | exact tat_0 hC1.t0 | exact tat_0 hC1.t1 | exact tat_r hC1.t0 (i := 1) (by decide) | exact tat_r hC1.t1 (i := 1) (by decide) | exact hC2.2.1.1 | exact hC2.2.1.2.1 | exact hC2.2.2.1.1 | exact xat_0 hC2.x | exact lat_0 hC2.d | exact lat_0 (hC2.l (by omega)) | exact qat_0 hC2.q | exact tat_0 hC2.t0 | exact tat_0 hC2.t1 | exact tat_r hC2.t0 (i := 1) (by decide) | exact tat_r hC2.t1 (i := 1) (by decide)) (by rfl) rfl ?_
      refine xr_aload_n (n := 28) dX7_equal_27 rfl rfl ?_
      refine xr_get (n := 31) dX7_equal_28 fl_X7_56 (by first | assumption | exact hC.2.1.1 | exact hC.2.1.2.1 | exact hC.2.2.1.1 | exact xat_0 hC.x | exact lat_0 hC.d | exact lat_0 (hC.l (by omega)) | exact qat_0 hC.q | exact tat_0 hC.t0 | exact tat_0 hC.t1 | exact tat_r hC.t0 (i := 1) (by decide) | exact tat_r hC.t1 (i := 1) (by decide) | exact hC1.2.1.1 | exact hC1.2.1.2.1 | exact hC1.2.2.1.1 | exact xat_0 hC1.x | exact lat_0 hC1.d | exact lat_0 (hC1.l (by omega)) | exact qat_0 hC1.q | exact tat_0 hC1.t0 | exact tat_0 hC1.t1 | exact tat_r hC1.t0 (i := 1) (by decide) | exact tat_r hC1.t1 (i := 1) (by decide) | exact hC2.2.1.1 | exact hC2.2.1.2.1 | exact hC2.2.2.1.1 | exact xat_0 hC2.x | exact lat_0 hC2.d | exact lat_0 (hC2.l (by omega)) | exact qat_0 hC2.q | exact tat_0 hC2.t0 | exact tat_0 hC2.t1 | exact tat_r hC2.t0 (i := 1) (by decide) | exact tat_r hC2.t1 (i := 1) (by decide)) (by rfl) rfl ?_
      refine xr_iload_n (n := 32) dX7_equal_31 rfl rfl ?_
      refine xr_iload_n (n := 33) dX7_equal_32 rfl rfl ?_
      refine xr_callV (y2 := mX4_follow) (As := [_, _, _, _]) (n := 36) dX7_equal_33 lm_X7_168 pm_X4_follow pi_X4_follow (by first | assumption | exact hC.2.1.1 | exact hC.2.1.2.1 | exact hC.2.2.1.1 | exact xat_0 hC.x | exact lat_0 hC.d | exact lat_0 (hC.l (by omega)) | exact qat_0 hC.q | exact tat_0 hC.t0 | exact tat_0 hC.t1 | exact tat_r hC.t0 (i := 1) (by decide) | exact tat_r hC.t1 (i := 1) (by decide) | exact hC1.2.1.1 | exact hC1.2.1.2.1 | exact hC1.2.2.1.1 | exact xat_0 hC1.x | exact lat_0 hC1.d | exact lat_0 (hC1.l (by omega)) | exact qat_0 hC1.q | exact tat_0 hC1.t0 | exact tat_0 hC1.t1 | exact tat_r hC1.t0 (i := 1) (by decide) | exact tat_r hC1.t1 (i := 1) (by decide) | exact hC2.2.1.1 | exact hC2.2.1.2.1 | exact hC2.2.2.1.1 | exact xat_0 hC2.x | exact lat_0 hC2.d | exact lat_0 (hC2.l (by omega)) | exact qat_0 hC2.q | exact tat_0 hC2.t0 | exact tat_0 hC2.t1 | exact tat_r hC2.t0 (i := 1) (by decide) | exact tat_r hC2.t1 (i := 1) (by decide)) rfl rfl rfl (by simp [Value.category]) rfl ⟨Nat.le_refl _, Nat.le_refl _⟩ ?_
      refine s_X4_follow_p hV hA h5 (fun f1 S1 hV1 hr1 htr htr2 => ?_)
      have hC1 := hV1.1
      obtain ⟨mk, tl, hmk, htl, e6, e9⟩ := htr.c (hA.2.2.2.1 0 (by omega)).1 h5
      obtain ⟨mk1, tl1, hmk1, htl1, e61, e91⟩ := htr2.c (hA.2.2.2.1 1 (by omega)).1 h5
      dsimp only [xK, xps]
      refine xr_aload_n (n := 37) dX7_equal_36 rfl rfl ?_
      refine xr_get (n := 40) dX7_equal_37 fl_X7_42 (by first | assumption | exact hC.2.1.1 | exact hC.2.1.2.1 | exact hC.2.2.1.1 | exact xat_0 hC.x | exact lat_0 hC.d | exact lat_0 (hC.l (by omega)) | exact qat_0 hC.q | exact tat_0 hC.t0 | exact tat_0 hC.t1 | exact tat_r hC.t0 (i := 1) (by decide) | exact tat_r hC.t1 (i := 1) (by decide) | exact hC1.2.1.1 | exact hC1.2.1.2.1 | exact hC1.2.2.1.1 | exact xat_0 hC1.x | exact lat_0 hC1.d | exact lat_0 (hC1.l (by omega)) | exact qat_0 hC1.q | exact tat_0 hC1.t0 | exact tat_0 hC1.t1 | exact tat_r hC1.t0 (i := 1) (by decide) | exact tat_r hC1.t1 (i := 1) (by decide) | exact hC2.2.1.1 | exact hC2.2.1.2.1 | exact hC2.2.2.1.1 | exact xat_0 hC2.x | exact lat_0 hC2.d | exact lat_0 (hC2.l (by omega)) | exact qat_0 hC2.q | exact tat_0 hC2.t0 | exact tat_0 hC2.t1 | exact tat_r hC2.t0 (i := 1) (by decide) | exact tat_r hC2.t1 (i := 1) (by decide)) (by rfl) rfl ?_
      refine xr_iload_n (n := 41) dX7_equal_40 rfl rfl ?_
      refine xr_callV (y2 := mX4_cellsEqualTo) (As := [_]) (n := 44) dX7_equal_41 lm_X7_184 pm_X4_cellsEqualTo pi_X4_cellsEqualTo (by first | assumption | exact hC.2.1.1 | exact hC.2.1.2.1 | exact hC.2.2.1.1 | exact xat_0 hC.x | exact lat_0 hC.d | exact lat_0 (hC.l (by omega)) | exact qat_0 hC.q | exact tat_0 hC.t0 | exact tat_0 hC.t1 | exact tat_r hC.t0 (i := 1) (by decide) | exact tat_r hC.t1 (i := 1) (by decide) | exact hC1.2.1.1 | exact hC1.2.1.2.1 | exact hC1.2.2.1.1 | exact xat_0 hC1.x | exact lat_0 hC1.d | exact lat_0 (hC1.l (by omega)) | exact qat_0 hC1.q | exact tat_0 hC1.t0 | exact tat_0 hC1.t1 | exact tat_r hC1.t0 (i := 1) (by decide) | exact tat_r hC1.t1 (i := 1) (by decide) | exact hC2.2.1.1 | exact hC2.2.1.2.1 | exact hC2.2.2.1.1 | exact xat_0 hC2.x | exact lat_0 hC2.d | exact lat_0 (hC2.l (by omega)) | exact qat_0 hC2.q | exact tat_0 hC2.t0 | exact tat_0 hC2.t1 | exact tat_r hC2.t0 (i := 1) (by decide) | exact tat_r hC2.t1 (i := 1) (by decide)) rfl rfl rfl (by simp [Value.category]) rfl ⟨Nat.le_refl _, Nat.le_refl _⟩ ?_
      refine s_X4_cellsEqualTo hC1.2.1.2.1 hC1.t0 hC1.t1 e6 hmk e61 hmk1 (by omega) ?_
      dsimp only [xK, xps]
      refine xr_ireturn dX7_equal_44 rfl rfl rfl ?_
      rw [ev_sim htr.1 htr2.1 0 0 (by omega) _ (Nat.le_refl _)]
      exact hq cn hc5 rfl h5 f1 ⟨_, _, hV1⟩ hr1
    · refine xr_sipush (v := (-10001)) (n := 18) dX7_equal_15 (by decide) rfl ?_
      refine xr_ireturn dX7_equal_18 rfl rfl rfl ?_
      exact hq0 (fun z => h12 z.2)

theorem s_X7_difference {G : xG} {d : Nat} {f : Nat → xC} {r : Nat × Nat} {Q : Option Value → xM → Prop} {z n sv : Nat} {rl : Nat → Nat} {S : Nat → xS} {t : Nat → Int32} {N : Nat → Nat} {P : Nat → Nat → Nat → Nat} {HN : Nat → Nat → Nat} {HP : Nat → Nat → Nat → Nat → Nat} {a b : Int32} (hV : CV f z rl sv S t n N P HN HP) (hA : AI t n sv N P HN HP) (hq0 : ¬ ((-999 ≤ a.toInt ∧ a.toInt ≤ 999) ∧ (-999 ≤ b.toInt ∧ b.toInt ≤ 999)) → Q (some (.int (-10001))) (f, r)) (hq : inpt a b → ∀ f', CI f' z t n sv N P HN HP → rgn z f f' → Q (some (.int (fdv (RP N P a b 0) (RP N P a b 1)))) (f', r)) : xMet G (d + 9) mX7_difference [.ref z, .int a, .int b] (f, r) r Q := by
  refine xMet_0 (by decide +kernel) rfl (Nat.le_of_ble_eq_true rfl) ?_
  show xX G (d + 9) mX7_difference r r (xΦ G r r Q) 0 [(0, .ref z), (1, .int a), (2, .int b)] [] (f, r)
  have hC := hV.1
  refine xr_iload_n (n := 1) dX7_difference_0 rfl rfl ?_
  refine xr_iload_n (n := 2) dX7_difference_1 rfl rfl ?_
  refine xr_callS (y2 := mX7_isInput) (As := [_, _]) (n := 5) dX7_difference_2 lm_X7_122 pm_X7_isInput kp_static_yX7_isInput rfl rfl (by simp [Value.category]) rfl ⟨Nat.le_refl _, Nat.le_refl _⟩ ?_
  refine s_X7_isInput ?_
  dsimp only [xK, xps]
  refine xr_bne (tgt := 12) (n := 8) dX7_difference_5 (by decide) rfl (fun h5 => ?_) (fun h5 => ?_)
  · refine xr_aload_n (n := 13) dX7_difference_12 rfl rfl ?_
    refine xr_get (n := 16) dX7_difference_13 fl_X7_42 (by first | assumption | exact hC.2.1.1 | exact hC.2.1.2.1 | exact hC.2.2.1.1 | exact xat_0 hC.x | exact lat_0 hC.d | exact lat_0 (hC.l (by omega)) | exact qat_0 hC.q | exact tat_0 hC.t0 | exact tat_0 hC.t1 | exact tat_r hC.t0 (i := 1) (by decide) | exact tat_r hC.t1 (i := 1) (by decide) | exact hC1.2.1.1 | exact hC1.2.1.2.1 | exact hC1.2.2.1.1 | exact xat_0 hC1.x | exact lat_0 hC1.d | exact lat_0 (hC1.l (by omega)) | exact qat_0 hC1.q | exact tat_0 hC1.t0 | exact tat_0 hC1.t1 | exact tat_r hC1.t0 (i := 1) (by decide) | exact tat_r hC1.t1 (i := 1) (by decide) | exact hC2.2.1.1 | exact hC2.2.1.2.1 | exact hC2.2.2.1.1 | exact xat_0 hC2.x | exact lat_0 hC2.d | exact lat_0 (hC2.l (by omega)) | exact qat_0 hC2.q | exact tat_0 hC2.t0 | exact tat_0 hC2.t1 | exact tat_r hC2.t0 (i := 1) (by decide) | exact tat_r hC2.t1 (i := 1) (by decide)) (by rfl) rfl ?_
    refine xr_aload_n (n := 17) dX7_difference_16 rfl rfl ?_
    refine xr_get (n := 20) dX7_difference_17 fl_X7_53 (by first | assumption | exact hC.2.1.1 | exact hC.2.1.2.1 | exact hC.2.2.1.1 | exact xat_0 hC.x | exact lat_0 hC.d | exact lat_0 (hC.l (by omega)) | exact qat_0 hC.q | exact tat_0 hC.t0 | exact tat_0 hC.t1 | exact tat_r hC.t0 (i := 1) (by decide) | exact tat_r hC.t1 (i := 1) (by decide) | exact hC1.2.1.1 | exact hC1.2.1.2.1 | exact hC1.2.2.1.1 | exact xat_0 hC1.x | exact lat_0 hC1.d | exact lat_0 (hC1.l (by omega)) | exact qat_0 hC1.q | exact tat_0 hC1.t0 | exact tat_0 hC1.t1 | exact tat_r hC1.t0 (i := 1) (by decide) | exact tat_r hC1.t1 (i := 1) (by decide) | exact hC2.2.1.1 | exact hC2.2.1.2.1 | exact hC2.2.2.1.1 | exact xat_0 hC2.x | exact lat_0 hC2.d | exact lat_0 (hC2.l (by omega)) | exact qat_0 hC2.q | exact tat_0 hC2.t0 | exact tat_0 hC2.t1 | exact tat_r hC2.t0 (i := 1) (by decide) | exact tat_r hC2.t1 (i := 1) (by decide)) (by rfl) rfl ?_
    refine xr_aload_n (n := 21) dX7_difference_20 rfl rfl ?_
    refine xr_get (n := 24) dX7_difference_21 fl_X7_56 (by first | assumption | exact hC.2.1.1 | exact hC.2.1.2.1 | exact hC.2.2.1.1 | exact xat_0 hC.x | exact lat_0 hC.d | exact lat_0 (hC.l (by omega)) | exact qat_0 hC.q | exact tat_0 hC.t0 | exact tat_0 hC.t1 | exact tat_r hC.t0 (i := 1) (by decide) | exact tat_r hC.t1 (i := 1) (by decide) | exact hC1.2.1.1 | exact hC1.2.1.2.1 | exact hC1.2.2.1.1 | exact xat_0 hC1.x | exact lat_0 hC1.d | exact lat_0 (hC1.l (by omega)) | exact qat_0 hC1.q | exact tat_0 hC1.t0 | exact tat_0 hC1.t1 | exact tat_r hC1.t0 (i := 1) (by decide) | exact tat_r hC1.t1 (i := 1) (by decide) | exact hC2.2.1.1 | exact hC2.2.1.2.1 | exact hC2.2.2.1.1 | exact xat_0 hC2.x | exact lat_0 hC2.d | exact lat_0 (hC2.l (by omega)) | exact qat_0 hC2.q | exact tat_0 hC2.t0 | exact tat_0 hC2.t1 | exact tat_r hC2.t0 (i := 1) (by decide) | exact tat_r hC2.t1 (i := 1) (by decide)) (by rfl) rfl ?_
    refine xr_iload_n (n := 25) dX7_difference_24 rfl rfl ?_
    refine xr_iload_n (n := 26) dX7_difference_25 rfl rfl ?_
    refine xr_callV (y2 := mX4_follow) (As := [_, _, _, _]) (n := 29) dX7_difference_26 lm_X7_168 pm_X4_follow pi_X4_follow (by first | assumption | exact hC.2.1.1 | exact hC.2.1.2.1 | exact hC.2.2.1.1 | exact xat_0 hC.x | exact lat_0 hC.d | exact lat_0 (hC.l (by omega)) | exact qat_0 hC.q | exact tat_0 hC.t0 | exact tat_0 hC.t1 | exact tat_r hC.t0 (i := 1) (by decide) | exact tat_r hC.t1 (i := 1) (by decide) | exact hC1.2.1.1 | exact hC1.2.1.2.1 | exact hC1.2.2.1.1 | exact xat_0 hC1.x | exact lat_0 hC1.d | exact lat_0 (hC1.l (by omega)) | exact qat_0 hC1.q | exact tat_0 hC1.t0 | exact tat_0 hC1.t1 | exact tat_r hC1.t0 (i := 1) (by decide) | exact tat_r hC1.t1 (i := 1) (by decide) | exact hC2.2.1.1 | exact hC2.2.1.2.1 | exact hC2.2.2.1.1 | exact xat_0 hC2.x | exact lat_0 hC2.d | exact lat_0 (hC2.l (by omega)) | exact qat_0 hC2.q | exact tat_0 hC2.t0 | exact tat_0 hC2.t1 | exact tat_r hC2.t0 (i := 1) (by decide) | exact tat_r hC2.t1 (i := 1) (by decide)) rfl rfl rfl (by simp [Value.category]) rfl ⟨Nat.le_refl _, Nat.le_refl _⟩ ?_
    refine s_X4_follow_p hV hA h5 (fun f1 S1 hV1 hr1 htr htr2 => ?_)
    have hC1 := hV1.1
    obtain ⟨mk, tl, hmk, htl, e6, e9⟩ := htr.c (hA.2.2.2.1 0 (by omega)).1 h5
    obtain ⟨mk1, tl1, hmk1, htl1, e61, e91⟩ := htr2.c (hA.2.2.2.1 1 (by omega)).1 h5
    dsimp only [xK, xps]
    refine xr_aload_n (n := 30) dX7_difference_29 rfl rfl ?_
    refine xr_get (n := 33) dX7_difference_30 fl_X7_42 (by first | assumption | exact hC.2.1.1 | exact hC.2.1.2.1 | exact hC.2.2.1.1 | exact xat_0 hC.x | exact lat_0 hC.d | exact lat_0 (hC.l (by omega)) | exact qat_0 hC.q | exact tat_0 hC.t0 | exact tat_0 hC.t1 | exact tat_r hC.t0 (i := 1) (by decide) | exact tat_r hC.t1 (i := 1) (by decide) | exact hC1.2.1.1 | exact hC1.2.1.2.1 | exact hC1.2.2.1.1 | exact xat_0 hC1.x | exact lat_0 hC1.d | exact lat_0 (hC1.l (by omega)) | exact qat_0 hC1.q | exact tat_0 hC1.t0 | exact tat_0 hC1.t1 | exact tat_r hC1.t0 (i := 1) (by decide) | exact tat_r hC1.t1 (i := 1) (by decide) | exact hC2.2.1.1 | exact hC2.2.1.2.1 | exact hC2.2.2.1.1 | exact xat_0 hC2.x | exact lat_0 hC2.d | exact lat_0 (hC2.l (by omega)) | exact qat_0 hC2.q | exact tat_0 hC2.t0 | exact tat_0 hC2.t1 | exact tat_r hC2.t0 (i := 1) (by decide) | exact tat_r hC2.t1 (i := 1) (by decide)) (by rfl) rfl ?_
    refine xr_get (n := 36) dX7_difference_33 fl_X7_187 (by first | assumption | exact hC.2.1.1 | exact hC.2.1.2.1 | exact hC.2.2.1.1 | exact xat_0 hC.x | exact lat_0 hC.d | exact lat_0 (hC.l (by omega)) | exact qat_0 hC.q | exact tat_0 hC.t0 | exact tat_0 hC.t1 | exact tat_r hC.t0 (i := 1) (by decide) | exact tat_r hC.t1 (i := 1) (by decide) | exact hC1.2.1.1 | exact hC1.2.1.2.1 | exact hC1.2.2.1.1 | exact xat_0 hC1.x | exact lat_0 hC1.d | exact lat_0 (hC1.l (by omega)) | exact qat_0 hC1.q | exact tat_0 hC1.t0 | exact tat_0 hC1.t1 | exact tat_r hC1.t0 (i := 1) (by decide) | exact tat_r hC1.t1 (i := 1) (by decide) | exact hC2.2.1.1 | exact hC2.2.1.2.1 | exact hC2.2.2.1.1 | exact xat_0 hC2.x | exact lat_0 hC2.d | exact lat_0 (hC2.l (by omega)) | exact qat_0 hC2.q | exact tat_0 hC2.t0 | exact tat_0 hC2.t1 | exact tat_r hC2.t0 (i := 1) (by decide) | exact tat_r hC2.t1 (i := 1) (by decide)) (by rfl) rfl ?_
    refine xr_get (n := 39) dX7_difference_36 fl_X7_135 (by first | assumption | exact hC.2.1.1 | exact hC.2.1.2.1 | exact hC.2.2.1.1 | exact xat_0 hC.x | exact lat_0 hC.d | exact lat_0 (hC.l (by omega)) | exact qat_0 hC.q | exact tat_0 hC.t0 | exact tat_0 hC.t1 | exact tat_r hC.t0 (i := 1) (by decide) | exact tat_r hC.t1 (i := 1) (by decide) | exact hC1.2.1.1 | exact hC1.2.1.2.1 | exact hC1.2.2.1.1 | exact xat_0 hC1.x | exact lat_0 hC1.d | exact lat_0 (hC1.l (by omega)) | exact qat_0 hC1.q | exact tat_0 hC1.t0 | exact tat_0 hC1.t1 | exact tat_r hC1.t0 (i := 1) (by decide) | exact tat_r hC1.t1 (i := 1) (by decide) | exact hC2.2.1.1 | exact hC2.2.1.2.1 | exact hC2.2.2.1.1 | exact xat_0 hC2.x | exact lat_0 hC2.d | exact lat_0 (hC2.l (by omega)) | exact qat_0 hC2.q | exact tat_0 hC2.t0 | exact tat_0 hC2.t1 | exact tat_r hC2.t0 (i := 1) (by decide) | exact tat_r hC2.t1 (i := 1) (by decide)) (by rfl) rfl ?_
    refine xr_aload_n (n := 40) dX7_difference_39 rfl rfl ?_
    refine xr_get (n := 43) dX7_difference_40 fl_X7_42 (by first | assumption | exact hC.2.1.1 | exact hC.2.1.2.1 | exact hC.2.2.1.1 | exact xat_0 hC.x | exact lat_0 hC.d | exact lat_0 (hC.l (by omega)) | exact qat_0 hC.q | exact tat_0 hC.t0 | exact tat_0 hC.t1 | exact tat_r hC.t0 (i := 1) (by decide) | exact tat_r hC.t1 (i := 1) (by decide) | exact hC1.2.1.1 | exact hC1.2.1.2.1 | exact hC1.2.2.1.1 | exact xat_0 hC1.x | exact lat_0 hC1.d | exact lat_0 (hC1.l (by omega)) | exact qat_0 hC1.q | exact tat_0 hC1.t0 | exact tat_0 hC1.t1 | exact tat_r hC1.t0 (i := 1) (by decide) | exact tat_r hC1.t1 (i := 1) (by decide) | exact hC2.2.1.1 | exact hC2.2.1.2.1 | exact hC2.2.2.1.1 | exact xat_0 hC2.x | exact lat_0 hC2.d | exact lat_0 (hC2.l (by omega)) | exact qat_0 hC2.q | exact tat_0 hC2.t0 | exact tat_0 hC2.t1 | exact tat_r hC2.t0 (i := 1) (by decide) | exact tat_r hC2.t1 (i := 1) (by decide)) (by rfl) rfl ?_
    refine xr_get (n := 46) dX7_difference_43 fl_X7_190 (by first | assumption | exact hC.2.1.1 | exact hC.2.1.2.1 | exact hC.2.2.1.1 | exact xat_0 hC.x | exact lat_0 hC.d | exact lat_0 (hC.l (by omega)) | exact qat_0 hC.q | exact tat_0 hC.t0 | exact tat_0 hC.t1 | exact tat_r hC.t0 (i := 1) (by decide) | exact tat_r hC.t1 (i := 1) (by decide) | exact hC1.2.1.1 | exact hC1.2.1.2.1 | exact hC1.2.2.1.1 | exact xat_0 hC1.x | exact lat_0 hC1.d | exact lat_0 (hC1.l (by omega)) | exact qat_0 hC1.q | exact tat_0 hC1.t0 | exact tat_0 hC1.t1 | exact tat_r hC1.t0 (i := 1) (by decide) | exact tat_r hC1.t1 (i := 1) (by decide) | exact hC2.2.1.1 | exact hC2.2.1.2.1 | exact hC2.2.2.1.1 | exact xat_0 hC2.x | exact lat_0 hC2.d | exact lat_0 (hC2.l (by omega)) | exact qat_0 hC2.q | exact tat_0 hC2.t0 | exact tat_0 hC2.t1 | exact tat_r hC2.t0 (i := 1) (by decide) | exact tat_r hC2.t1 (i := 1) (by decide)) (by rfl) rfl ?_
    refine xr_get (n := 49) dX7_difference_46 fl_X7_135 (by first | assumption | exact hC.2.1.1 | exact hC.2.1.2.1 | exact hC.2.2.1.1 | exact xat_0 hC.x | exact lat_0 hC.d | exact lat_0 (hC.l (by omega)) | exact qat_0 hC.q | exact tat_0 hC.t0 | exact tat_0 hC.t1 | exact tat_r hC.t0 (i := 1) (by decide) | exact tat_r hC.t1 (i := 1) (by decide) | exact hC1.2.1.1 | exact hC1.2.1.2.1 | exact hC1.2.2.1.1 | exact xat_0 hC1.x | exact lat_0 hC1.d | exact lat_0 (hC1.l (by omega)) | exact qat_0 hC1.q | exact tat_0 hC1.t0 | exact tat_0 hC1.t1 | exact tat_r hC1.t0 (i := 1) (by decide) | exact tat_r hC1.t1 (i := 1) (by decide) | exact hC2.2.1.1 | exact hC2.2.1.2.1 | exact hC2.2.2.1.1 | exact xat_0 hC2.x | exact lat_0 hC2.d | exact lat_0 (hC2.l (by omega)) | exact qat_0 hC2.q | exact tat_0 hC2.t0 | exact tat_0 hC2.t1 | exact tat_r hC2.t0 (i := 1) (by decide) | exact tat_r hC2.t1 (i := 1) (by decide)) (by rfl) rfl ?_
    refine xr_callV (y2 := mX2_firstDifference) (As := [_]) (n := 52) dX7_difference_49 lm_X7_192 pm_X2_firstDifference pi_X2_firstDifference (by first | assumption | exact hC.2.1.1 | exact hC.2.1.2.1 | exact hC.2.2.1.1 | exact xat_0 hC.x | exact lat_0 hC.d | exact lat_0 (hC.l (by omega)) | exact qat_0 hC.q | exact tat_0 hC.t0 | exact tat_0 hC.t1 | exact tat_r hC.t0 (i := 1) (by decide) | exact tat_r hC.t1 (i := 1) (by decide) | exact hC1.2.1.1 | exact hC1.2.1.2.1 | exact hC1.2.2.1.1 | exact xat_0 hC1.x | exact lat_0 hC1.d | exact lat_0 (hC1.l (by omega)) | exact qat_0 hC1.q | exact tat_0 hC1.t0 | exact tat_0 hC1.t1 | exact tat_r hC1.t0 (i := 1) (by decide) | exact tat_r hC1.t1 (i := 1) (by decide) | exact hC2.2.1.1 | exact hC2.2.1.2.1 | exact hC2.2.2.1.1 | exact xat_0 hC2.x | exact lat_0 hC2.d | exact lat_0 (hC2.l (by omega)) | exact qat_0 hC2.q | exact tat_0 hC2.t0 | exact tat_0 hC2.t1 | exact tat_r hC2.t0 (i := 1) (by decide) | exact tat_r hC2.t1 (i := 1) (by decide)) rfl rfl rfl (by simp [Value.category]) rfl ⟨Nat.le_refl _, Nat.le_refl _⟩ ?_
    refine s_X2_firstDifference (t_oat hC1.t0) (t_oat hC1.t1) e9 htl e91 htl1 ?_
    dsimp only [xK, xps]
    refine xr_ireturn dX7_difference_52 rfl rfl rfl ?_
    rw [fd_sim htr.1 htr2.1]
    exact hq h5 f1 ⟨_, _, hV1⟩ hr1
  · refine xr_sipush (v := (-10001)) (n := 11) dX7_difference_8 (by decide) rfl ?_
    refine xr_ireturn dX7_difference_11 rfl rfl rfl ?_
    exact hq0 h5
