/-! pairs, equal cells, outputs -/
def pmn (x y : Nat) : Nat := if 40 < (if x < y then x else y) then 40 else (if x < y then x else y)
def pmA (A B : Nat × xS) : Nat := pmn (ix (A.2 6 0)) (ix (B.2 6 0))
theorem pmn_le (x y : Nat) : pmn x y ≤ 40 ∧ pmn x y ≤ x ∧ pmn x y ≤ y := by
  unfold pmn
  split <;> split <;> omega
def ldv (A B : Nat × xS) (k : Nat) : Int32 := A.2 3 k - B.2 3 k
def ab (x : Int32) : Int32 := if x < 0 then -x else x
def glv (A B : Nat × xS) : Nat → Int32
  | 0 => nI 0
  | k + 1 => if glv A B k < ab (ldv A B k) then ab (ldv A B k) else glv A B k
theorem glv_s (A B : Nat × xS) (k : Nat) : glv A B (k + 1) = if glv A B k < ab (ldv A B k) then ab (ldv A B k) else glv A B k := rfl
abbrev eqp (A B : Nat × xS) (k c : Nat) : Prop := ∀ j, j < c → A.2 2 (6 * k + j) = B.2 2 (6 * k + j)

theorem all_s {E : Nat → Prop} {c : Nat} : (∀ j, j < c + 1 → E j) ↔ (∀ j, j < c → E j) ∧ E c := ⟨fun h => ⟨fun j hj => h j (by omega), h c (by omega)⟩, fun h j hj => by
  by_cases e : j = c
  · rw [e]; exact h.2
  · exact h.1 j (by omega)⟩
def aev (A B : Nat × xS) : Nat → Nat
  | 0 => 0
  | k + 1 => aev A B k + (if eqp A B k 6 then 1 else 0)
theorem aev_le (A B : Nat × xS) : ∀ k, aev A B k ≤ k
  | 0 => Nat.le_refl _
  | k + 1 => by
    have := aev_le A B k
    unfold aev
    split <;> omega
theorem aev_t {A B : Nat × xS} {k : Nat} (h : eqp A B k 6) : aev A B (k + 1) = aev A B k + 1 := by
  show aev A B k + _ = _
  rw [if_pos h]
theorem aev_f {A B : Nat × xS} {k : Nat} (h : ¬ eqp A B k 6) : aev A B (k + 1) = aev A B k + 0 := by
  show aev A B k + _ = _
  rw [if_neg h]
abbrev eqx (A B : Nat × xS) (x y n : Nat) : Prop := ∀ k, k < n → A.2 2 (6 * k + x) = B.2 2 (6 * k + y)

def eqv (A B : Nat × xS) (x : Nat) : Nat → Int32
  | 0 => nI 0
  | y + 1 => eqv A B x y ||| (if eqx A B x y (pmA A B) then nI 1 <<< (nI y &&& 31) else nI 0)
theorem eqv_s (A B : Nat × xS) (x y : Nat) : eqv A B x (y + 1) = eqv A B x y ||| (if eqx A B x y (pmA A B) then nI 1 <<< (nI y &&& 31) else nI 0) := rfl
def fdF (A B : Nat × xS) : Nat → Nat → Int32
  | 0, _ => (-10009)
  | g + 1, k => if valA A k = valA B k then fdF A B g (k + 1) else nI k
def fdv (A B : Nat × xS) : Int32 := fdF A B 40 0
theorem fdF_end {A B : Nat × xS} : ∀ (g k : Nat), (∀ j, k ≤ j → valA A j = valA B j) → fdF A B g k = (-10009)
  | 0, _, _ => rfl
  | g + 1, k, h => by
    unfold fdF
    rw [if_pos (h k (Nat.le_refl _))]
    exact fdF_end g (k + 1) (fun j hj => h j (by omega))
theorem fdF_t {A B : Nat × xS} {k : Nat} (hk : k < 40) (h : valA A k = valA B k) : fdF A B (40 - k) k = fdF A B (40 - (k + 1)) (k + 1) := by
  have e : 40 - k = (40 - (k + 1)) + 1 := by omega
  rw [e]
  exact if_pos h
theorem fdF_f {A B : Nat × xS} {k : Nat} (hk : k < 40) (h : ¬ valA A k = valA B k) : fdF A B (40 - k) k = nI k := by
  have e : 40 - k = (40 - (k + 1)) + 1 := by omega
  rw [e]
  exact if_neg h
abbrev agP (n0 n1 : Nat) (A B : Nat × xS) : Prop := cutD n0 A = nI 0 ∧ cutD n1 B = nI 0 ∧ A.2 9 0 = B.2 9 0 ∧ fdv A B = (-10009)

/-- all values within the document's bounds -/
def bdS (δ : xS) : Prop := ∀ w i, w ≤ 2 → -999 ≤ (δ w i).toInt ∧ (δ w i).toInt ≤ 999
theorem i999 : (nI 999).toInt = 999 := nt 999 (by omega)
theorem im999 : (-999 : Int32).toInt = -999 := by decide +kernel
theorem mheld_bd (v : Int32) : -999 ≤ (mheld v).toInt ∧ (mheld v).toInt ≤ 999 := by
  unfold mheld
  split
  · rw [im999]; omega
  · split
    · rw [i999]; omega
    · rename_i h1 h2
      rw [i_lt, im999] at h1
      rw [i_lt, i999] at h2
      omega
theorem bd_up {δ : xS} {i j : Nat} {v : Int32} (h : bdS δ) (hv : i ≤ 2 → -999 ≤ v.toInt ∧ v.toInt ≤ 999) : bdS (up2 δ i j v) := by
  intro w z hw
  rw [up2_a]
  split
  · rename_i e
    split
    · exact hv (by omega)
    · exact h w z hw
  · exact h w z hw
theorem bd_ad {P : Nat → Nat → Nat} {s : Nat} {δ : xS} (h : bdS δ) : bdS (ainc (adata P s δ)) := by
  unfold ainc
  refine bd_up ?_ (fun q => by omega)
  unfold adata
  split
  · exact bd_up h (fun _ => mheld_bd _)
  · split
    · unfold atell
      refine bd_up ?_ (fun q => by omega)
      split
      · exact bd_up h (fun _ => h 1 _ (by omega))
      · exact h
    · split
      · unfold amark
        refine bd_up ?_ (fun q => by omega)
        split
        · have h3 : bdS (up2 δ 3 (ix (δ 6 0)) (δ 5 0)) := bd_up h (fun q => by omega)
          intro w z hw
          rw [ur_a]
          split
          · rw [fo_a]
            split
            · exact h 1 _ (by omega)
            · exact h 2 _ (by omega)
          · exact h3 w z hw
        · exact h
      · split
        · split
          · unfold alook
            exact bd_up (bd_up (bd_up h (fun q => by omega)) (fun q => by omega)) (fun q => by omega)
          · exact bd_up h (fun q => by omega)
        · exact h
theorem bd_run {n : Nat} {P : Nat → Nat → Nat} : ∀ (g s : Nat) (δ : xS), bdS δ → bdS (arun n P g s δ).2
  | 0, _, _, h => h
  | g + 1, s, δ, h => by
    unfold arun
    split
    · exact bd_run g _ _ (bd_ad h)
    · exact h
theorem bd_D {n : Nat} {P : Nat → Nat → Nat} {a b : Int32} (h : (-999 ≤ a.toInt ∧ a.toInt ≤ 999) ∧ (-999 ≤ b.toInt ∧ b.toInt ≤ 999)) : bdS (runD n P a b).2 := by
  refine bd_run _ _ _ (fun w i hw => ?_)
  have h0 : (nI 0).toInt = 0 := nt 0 (by omega)
  unfold d0
  split
  · split
    · exact h.1
    · split
      · exact h.2
      · omega
  · omega
theorem no_none {A : Nat × xS} (h : bdS A.2) (i : Nat) : A.2 0 i ≠ (-10009) := fun e => by
  have h1 := h 0 i (by omega)
  have h2 : (-10009 : Int32).toInt = -10009 := by decide +kernel
  rw [e, h2] at h1
  omega
theorem fin_mk {μ : xS} {sd n : Nat} {A : Nat × xS} {t mk rd mo tl : Nat} (h : finN μ sd n A t mk rd mo tl) : ix (A.2 6 0) = mk ∧ ix (A.2 9 0) = tl ∧ mk ≤ 400 ∧ tl ≤ 400 := by
  obtain ⟨⟨-, c6, -, -, c9, b6, -, -, b9, bt, -⟩, -⟩ := h
  rw [c6, c9]
  exact ⟨ix_n (by omega), ix_n (by omega), by omega, by omega⟩
theorem fin_ld {μ : xS} {n0 n1 : Nat} {A B : Nat × xS} {t mk rd mo tl t1 mk1 rd1 mo1 tl1 k : Nat} (h : finN μ 0 n0 A t mk rd mo tl) (h1 : finN μ 1 n1 B t1 mk1 rd1 mo1 tl1) (hk : k < pmA A B) : μ 11 k - μ 11 (40 + k) = ldv A B k := by
  have b := pmn_le (ix (A.2 6 0)) (ix (B.2 6 0))
  have e0 := fin_mk h
  have e1 := fin_mk h1
  have hk2 : k < pmn (ix (A.2 6 0)) (ix (B.2 6 0)) := hk
  have m0 := (h.2.2.2.2 k (by omega) (by omega)).1
  have m1 := (h1.2.2.2.2 k (by omega) (by omega)).1
  rw [Nat.mul_zero, Nat.zero_add] at m0
  rw [Nat.mul_one] at m1
  rw [m0, m1]
  rfl
theorem fin_eqc {μ : xS} {n0 n1 : Nat} {A B : Nat × xS} {t mk rd mo tl t1 mk1 rd1 mo1 tl1 k x y : Nat} (h : finN μ 0 n0 A t mk rd mo tl) (h1 : finN μ 1 n1 B t1 mk1 rd1 mo1 tl1) (hk : k < pmA A B) (hx : x < 6) (hy : y < 6) : μ 12 (6 * k + x) = A.2 2 (6 * k + x) ∧ μ 12 (240 + 6 * k + y) = B.2 2 (6 * k + y) := by
  have b := pmn_le (ix (A.2 6 0)) (ix (B.2 6 0))
  have e0 := fin_mk h
  have e1 := fin_mk h1
  have hk2 : k < pmn (ix (A.2 6 0)) (ix (B.2 6 0)) := hk
  have m0 := (h.2.2.2.2 k (by omega) (by omega)).2 x hx
  have m1 := (h1.2.2.2.2 k (by omega) (by omega)).2 y hy
  rw [Nat.mul_zero, Nat.zero_add] at m0
  rw [Nat.mul_one] at m1
  exact ⟨m0, m1⟩
theorem s_X8_pairMany {G : xG} {d : Nat} {f : Nat → xC} {r : Nat × Nat} {Q : Option Value → xM → Prop} {m : Nat} {μ : xS} {n0 n1 : Nat} {A B : Nat × xS} {t mk rd mo tl t1 mk1 rd1 mo1 tl1 : Nat} (h0 : finN μ 0 n0 A t mk rd mo tl) (h1 : finN μ 1 n1 B t1 mk1 rd1 mo1 tl1) (hq : Q (some (.int (nI (pmA A B)))) (mput f m μ, r)) : xMet G (d + 1) mX8_pairMany [.ref m] (mput f m μ, r) r Q := by
  refine xMet_0 (by decide +kernel) rfl (Nat.le_of_ble_eq_true rfl) ?_
  show xX G (d + 1) mX8_pairMany r r (xΦ G r r Q) 0 [(0, .ref m)] [] (mput f m μ, r)
  have n03 : μ 13 3 = nI mk := h0.2.1.2.2.2.1
  have n13 : μ 13 9 = nI mk1 := h1.2.1.2.2.2.1
  have n02 : μ 13 2 = nI tl := h0.2.1.2.2.1
  have n12 : μ 13 8 = nI tl1 := h1.2.1.2.2.1
  obtain ⟨x0, y0, bm, bt⟩ := fin_mk h0
  obtain ⟨x1, y1, bm1, bt1⟩ := fin_mk h1
  refine xr_bipush (v := nI 40) (n := 2) dX8_pairMany_0 (by decide) rfl ?_
  refine xr_aload_n (n := 3) dX8_pairMany_2 rfl rfl ?_
  refine xr_get (n := 6) dX8_pairMany_3 fl_X8_40 (by first | exact mput_0 _ _ _ | exact mput_r (by decide)) (by rfl) rfl ?_
  refine xr_iconst (v := nI 3) (n := 7) dX8_pairMany_6 (by decide) rfl ?_
  refine xr_iaload (n := 8) dX8_pairMany_7 (by first | exact mput_0 _ _ _ | exact mput_r (by decide)) (by first | exact vp_in_nI (by omega) (by omega)) rfl ?_
  try simp (disch := omega) only [nI_clamp, pk_mul, nI_add, oi1, up2_a, ur_a, Nat.reduceEqDiff, Nat.reduceMul, Nat.reduceAdd, reduceIte, if_pos, if_neg, n03, n13]
  refine xr_aload_n (n := 9) dX8_pairMany_8 rfl rfl ?_
  refine xr_get (n := 12) dX8_pairMany_9 fl_X8_40 (by first | exact mput_0 _ _ _ | exact mput_r (by decide)) (by rfl) rfl ?_
  refine xr_bipush (v := nI 9) (n := 14) dX8_pairMany_12 (by decide) rfl ?_
  refine xr_iaload (n := 15) dX8_pairMany_14 (by first | exact mput_0 _ _ _ | exact mput_r (by decide)) (by first | exact vp_in_nI (by omega) (by omega)) rfl ?_
  try simp (disch := omega) only [nI_clamp, pk_mul, nI_add, oi1, up2_a, ur_a, Nat.reduceEqDiff, Nat.reduceMul, Nat.reduceAdd, reduceIte, if_pos, if_neg, n03, n13]
  refine xr_callS (y2 := mX8_least) (As := [_, _]) (n := 18) dX8_pairMany_15 lm_X8_177 pm_X8_least kp_static_yX8_least rfl rfl (by simp [Value.category]) rfl ⟨Nat.le_refl _, Nat.le_refl _⟩ ?_
  refine s_X8_least ?_
  dsimp only [xK, xps]
  rw [lsnn bm bm1]
  refine xr_callS (y2 := mX8_least) (As := [_, _]) (n := 21) dX8_pairMany_18 lm_X8_177 pm_X8_least kp_static_yX8_least rfl rfl (by simp [Value.category]) rfl ⟨Nat.le_refl _, Nat.le_refl _⟩ ?_
  refine s_X8_least ?_
  dsimp only [xK, xps]
  rw [ls40 (by split <;> omega)]
  rw [show (if 40 < (if mk < mk1 then mk else mk1) then 40 else (if mk < mk1 then mk else mk1)) = pmA A B from by unfold pmA; rw [x0, x1]; rfl]
  refine xr_ireturn dX8_pairMany_21 rfl rfl rfl ?_
  exact hq

theorem s_X8_greatestLead {G : xG} {d : Nat} {f : Nat → xC} {r : Nat × Nat} {Q : Option Value → xM → Prop} {m : Nat} {μ : xS} {n0 n1 : Nat} {A B : Nat × xS} {t mk rd mo tl t1 mk1 rd1 mo1 tl1 : Nat} (h0 : finN μ 0 n0 A t mk rd mo tl) (h1 : finN μ 1 n1 B t1 mk1 rd1 mo1 tl1) (hq : Q (some (.int (glv A B (pmA A B)))) (mput f m μ, r)) : xMet G (d + 2) mX8_greatestLead [.ref m] (mput f m μ, r) r Q := by
  refine xMet_0 (by decide +kernel) rfl (Nat.le_of_ble_eq_true rfl) ?_
  show xX G (d + 2) mX8_greatestLead r r (xΦ G r r Q) 0 [(0, .ref m)] [] (mput f m μ, r)
  refine xr_iconst (v := nI 0) (n := 1) dX8_greatestLead_0 (by decide) rfl ?_
  refine xq_istore_n 1 (n := 2) dX8_greatestLead_1 rfl rfl rfl ?_
  simp only [xst, Nat.beq, List.filter, Bool.not_true, Bool.not_false]
  refine xr_iconst (v := nI 0) (n := 3) dX8_greatestLead_2 (by decide) rfl ?_
  refine xq_istore_n 2 (n := 4) dX8_greatestLead_3 rfl rfl rfl ?_
  simp only [xst, Nat.beq, List.filter, Bool.not_true, Bool.not_false]
  have bpm : pmA A B ≤ 40 := (pmn_le _ _).1
  refine nat_down (P := fun k => xX G (d + 2) mX8_greatestLead r r (xΦ G r r Q) 4 [(0, .ref m), (1, .int (glv A B k)), (2, .int (nI k))] [] (mput f m (μ), r)) (N := pmA A B) ?_ ?_ 0 (by omega)
  · refine xr_iload_n (n := 5) dX8_greatestLead_4 rfl rfl ?_
    refine xr_aload_n (n := 6) dX8_greatestLead_5 rfl rfl ?_
    refine xr_callV (y2 := mX8_pairMany) (As := []) (n := 9) dX8_greatestLead_6 lm_X8_183 pm_X8_pairMany pi_X8_pairMany (by first | exact mput_0 _ _ _ | exact mput_r (by decide)) rfl rfl rfl (by simp [Value.category]) rfl ⟨Nat.le_refl _, Nat.le_refl _⟩ ?_
    refine s_X8_pairMany h0 h1 ?_
    dsimp only [xK, xps]
    refine xr_icmp_ge (tgt := 52) (n := 12) dX8_greatestLead_9 (by decide) rfl (fun h9 => ?_) (fun h9 => by (exfalso; ((try simp (disch := omega) only [i_lt, i_le, i_eq, nt, i_m1, Int32.toInt_zero] at *); omega)))
    refine xr_iload_n (n := 53) dX8_greatestLead_52 rfl rfl ?_
    refine xr_ireturn dX8_greatestLead_53 rfl rfl rfl ?_
    exact hq
  · intro k hk ih
    refine xr_iload_n (n := 5) dX8_greatestLead_4 rfl rfl ?_
    refine xr_aload_n (n := 6) dX8_greatestLead_5 rfl rfl ?_
    refine xr_callV (y2 := mX8_pairMany) (As := []) (n := 9) dX8_greatestLead_6 lm_X8_183 pm_X8_pairMany pi_X8_pairMany (by first | exact mput_0 _ _ _ | exact mput_r (by decide)) rfl rfl rfl (by simp [Value.category]) rfl ⟨Nat.le_refl _, Nat.le_refl _⟩ ?_
    refine s_X8_pairMany h0 h1 ?_
    dsimp only [xK, xps]
    refine xr_icmp_ge (tgt := 52) (n := 12) dX8_greatestLead_9 (by decide) rfl (fun h9 => by (exfalso; ((try simp (disch := omega) only [i_lt, i_le, i_eq, nt, i_m1, Int32.toInt_zero] at *); omega))) (fun h9 => ?_)
    refine xr_aload_n (n := 13) dX8_greatestLead_12 rfl rfl ?_
    refine xr_iload_n (n := 14) dX8_greatestLead_13 rfl rfl ?_
    refine xr_callV (y2 := mX8_leadOf) (As := [_]) (n := 17) dX8_greatestLead_14 lm_X8_186 pm_X8_leadOf pi_X8_leadOf (by first | exact mput_0 _ _ _ | exact mput_r (by decide)) rfl rfl rfl (by simp [Value.category]) rfl ⟨Nat.le_refl _, Nat.le_refl _⟩ ?_
    refine s_X8_leadOf (by omega) ?_
    dsimp only [xK, xps]
    rw [fin_ld h0 h1 hk]
    refine xr_if_ge (tgt := 29) (n := 20) dX8_greatestLead_17 (by decide) rfl (fun h17 => ?_) (fun h17 => ?_)
    · have hab : ab (ldv A B k) = ldv A B k := if_neg (by first | assumption | ((try simp (disch := omega) only [i_lt, i_le, i_eq, nt, i_m1, Int32.toInt_zero] at *); omega))
      refine xr_aload_n (n := 30) dX8_greatestLead_29 rfl rfl ?_
      refine xr_iload_n (n := 31) dX8_greatestLead_30 rfl rfl ?_
      refine xr_callV (y2 := mX8_leadOf) (As := [_]) (n := 34) dX8_greatestLead_31 lm_X8_186 pm_X8_leadOf pi_X8_leadOf (by first | exact mput_0 _ _ _ | exact mput_r (by decide)) rfl rfl rfl (by simp [Value.category]) rfl ⟨Nat.le_refl _, Nat.le_refl _⟩ ?_
      refine s_X8_leadOf (by omega) ?_
      dsimp only [xK, xps]
      rw [fin_ld h0 h1 hk]
      refine xq_istore_n 3 (n := 35) dX8_greatestLead_34 rfl rfl rfl ?_
      simp only [xst, Nat.beq, List.filter, Bool.not_true, Bool.not_false]
      rw [← hab]
      refine xr_iload_n (n := 36) dX8_greatestLead_35 rfl rfl ?_
      refine xr_iload_n (n := 37) dX8_greatestLead_36 rfl rfl ?_
      refine xr_icmp_le (tgt := 44) (n := 40) dX8_greatestLead_37 (by decide) rfl (fun h37 => ?_) (fun h37 => ?_)
      · refine xr_iload_n (n := 45) dX8_greatestLead_44 rfl rfl ?_
        refine xq_istore_n 1 (n := 46) dX8_greatestLead_45 rfl rfl rfl ?_
        simp only [xst, Nat.beq, List.filter, Bool.not_true, Bool.not_false]
        refine xr_iinc (n := 49) dX8_greatestLead_46 rfl rfl (rfl) rfl ?_
        simp only [xst, Nat.beq, List.filter, Bool.not_true, Bool.not_false]
        try simp (disch := omega) only [nI_clamp, pk_mul, nI_add, oi1, up2_a, ur_a, Nat.reduceEqDiff, Nat.reduceMul, Nat.reduceAdd, reduceIte, if_pos, if_neg]
        refine xr_goto (n := 4) dX8_greatestLead_49 (by decide) ?_
        refine xX.drop 3 ?_
        simp only [xst, Nat.beq, List.filter, Bool.not_true, Bool.not_false]
        refine xX.eq rfl ?_ rfl rfl ih
        rw [glv_s]
        first | rw [if_pos (by ((try simp (disch := omega) only [i_lt, i_le, i_eq, nt, i_m1, Int32.toInt_zero] at *); omega))] | rw [if_neg (by ((try simp (disch := omega) only [i_lt, i_le, i_eq, nt, i_m1, Int32.toInt_zero] at *); omega))]
      · refine xr_iload_n (n := 41) dX8_greatestLead_40 rfl rfl ?_
        refine xr_goto (n := 45) dX8_greatestLead_41 (by decide) ?_
        refine xq_istore_n 1 (n := 46) dX8_greatestLead_45 rfl rfl rfl ?_
        simp only [xst, Nat.beq, List.filter, Bool.not_true, Bool.not_false]
        refine xr_iinc (n := 49) dX8_greatestLead_46 rfl rfl (rfl) rfl ?_
        simp only [xst, Nat.beq, List.filter, Bool.not_true, Bool.not_false]
        try simp (disch := omega) only [nI_clamp, pk_mul, nI_add, oi1, up2_a, ur_a, Nat.reduceEqDiff, Nat.reduceMul, Nat.reduceAdd, reduceIte, if_pos, if_neg]
        refine xr_goto (n := 4) dX8_greatestLead_49 (by decide) ?_
        refine xX.drop 3 ?_
        simp only [xst, Nat.beq, List.filter, Bool.not_true, Bool.not_false]
        refine xX.eq rfl ?_ rfl rfl ih
        rw [glv_s]
        first | rw [if_pos (by ((try simp (disch := omega) only [i_lt, i_le, i_eq, nt, i_m1, Int32.toInt_zero] at *); omega))] | rw [if_neg (by ((try simp (disch := omega) only [i_lt, i_le, i_eq, nt, i_m1, Int32.toInt_zero] at *); omega))]
    · have hab : ab (ldv A B k) = -ldv A B k := if_pos (by first | assumption | ((try simp (disch := omega) only [i_lt, i_le, i_eq, nt, i_m1, Int32.toInt_zero] at *); omega))
      refine xr_aload_n (n := 21) dX8_greatestLead_20 rfl rfl ?_
      refine xr_iload_n (n := 22) dX8_greatestLead_21 rfl rfl ?_
      refine xr_callV (y2 := mX8_leadOf) (As := [_]) (n := 25) dX8_greatestLead_22 lm_X8_186 pm_X8_leadOf pi_X8_leadOf (by first | exact mput_0 _ _ _ | exact mput_r (by decide)) rfl rfl rfl (by simp [Value.category]) rfl ⟨Nat.le_refl _, Nat.le_refl _⟩ ?_
      refine s_X8_leadOf (by omega) ?_
      dsimp only [xK, xps]
      rw [fin_ld h0 h1 hk]
      refine xr_ineg (n := 26) dX8_greatestLead_25 rfl ?_
      refine xr_goto (n := 34) dX8_greatestLead_26 (by decide) ?_
      refine xq_istore_n 3 (n := 35) dX8_greatestLead_34 rfl rfl rfl ?_
      simp only [xst, Nat.beq, List.filter, Bool.not_true, Bool.not_false]
      rw [← hab]
      refine xr_iload_n (n := 36) dX8_greatestLead_35 rfl rfl ?_
      refine xr_iload_n (n := 37) dX8_greatestLead_36 rfl rfl ?_
      refine xr_icmp_le (tgt := 44) (n := 40) dX8_greatestLead_37 (by decide) rfl (fun h37 => ?_) (fun h37 => ?_)
      · refine xr_iload_n (n := 45) dX8_greatestLead_44 rfl rfl ?_
        refine xq_istore_n 1 (n := 46) dX8_greatestLead_45 rfl rfl rfl ?_
        simp only [xst, Nat.beq, List.filter, Bool.not_true, Bool.not_false]
        refine xr_iinc (n := 49) dX8_greatestLead_46 rfl rfl (rfl) rfl ?_
        simp only [xst, Nat.beq, List.filter, Bool.not_true, Bool.not_false]
        try simp (disch := omega) only [nI_clamp, pk_mul, nI_add, oi1, up2_a, ur_a, Nat.reduceEqDiff, Nat.reduceMul, Nat.reduceAdd, reduceIte, if_pos, if_neg]
        refine xr_goto (n := 4) dX8_greatestLead_49 (by decide) ?_
        refine xX.drop 3 ?_
        simp only [xst, Nat.beq, List.filter, Bool.not_true, Bool.not_false]
        refine xX.eq rfl ?_ rfl rfl ih
        rw [glv_s]
        first | rw [if_pos (by ((try simp (disch := omega) only [i_lt, i_le, i_eq, nt, i_m1, Int32.toInt_zero] at *); omega))] | rw [if_neg (by ((try simp (disch := omega) only [i_lt, i_le, i_eq, nt, i_m1, Int32.toInt_zero] at *); omega))]
      · refine xr_iload_n (n := 41) dX8_greatestLead_40 rfl rfl ?_
        refine xr_goto (n := 45) dX8_greatestLead_41 (by decide) ?_
        refine xq_istore_n 1 (n := 46) dX8_greatestLead_45 rfl rfl rfl ?_
        simp only [xst, Nat.beq, List.filter, Bool.not_true, Bool.not_false]
        refine xr_iinc (n := 49) dX8_greatestLead_46 rfl rfl (rfl) rfl ?_
        simp only [xst, Nat.beq, List.filter, Bool.not_true, Bool.not_false]
        try simp (disch := omega) only [nI_clamp, pk_mul, nI_add, oi1, up2_a, ur_a, Nat.reduceEqDiff, Nat.reduceMul, Nat.reduceAdd, reduceIte, if_pos, if_neg]
        refine xr_goto (n := 4) dX8_greatestLead_49 (by decide) ?_
        refine xX.drop 3 ?_
        simp only [xst, Nat.beq, List.filter, Bool.not_true, Bool.not_false]
        refine xX.eq rfl ?_ rfl rfl ih
        rw [glv_s]
        first | rw [if_pos (by ((try simp (disch := omega) only [i_lt, i_le, i_eq, nt, i_m1, Int32.toInt_zero] at *); omega))] | rw [if_neg (by ((try simp (disch := omega) only [i_lt, i_le, i_eq, nt, i_m1, Int32.toInt_zero] at *); omega))]

theorem s_X8_allEqual {G : xG} {d : Nat} {f : Nat → xC} {r : Nat × Nat} {Q : Option Value → xM → Prop} {m : Nat} {μ : xS} {n0 n1 : Nat} {A B : Nat × xS} {t mk rd mo tl t1 mk1 rd1 mo1 tl1 : Nat} (h0 : finN μ 0 n0 A t mk rd mo tl) (h1 : finN μ 1 n1 B t1 mk1 rd1 mo1 tl1) (hq : Q (some (.int (nI (aev A B (pmA A B))))) (mput f m μ, r)) : xMet G (d + 2) mX8_allEqual [.ref m] (mput f m μ, r) r Q := by
  refine xMet_0 (by decide +kernel) rfl (Nat.le_of_ble_eq_true rfl) ?_
  show xX G (d + 2) mX8_allEqual r r (xΦ G r r Q) 0 [(0, .ref m)] [] (mput f m μ, r)
  refine xr_iconst (v := nI 0) (n := 1) dX8_allEqual_0 (by decide) rfl ?_
  refine xq_istore_n 1 (n := 2) dX8_allEqual_1 rfl rfl rfl ?_
  simp only [xst, Nat.beq, List.filter, Bool.not_true, Bool.not_false]
  refine xr_iconst (v := nI 0) (n := 3) dX8_allEqual_2 (by decide) rfl ?_
  refine xq_istore_n 2 (n := 4) dX8_allEqual_3 rfl rfl rfl ?_
  simp only [xst, Nat.beq, List.filter, Bool.not_true, Bool.not_false]
  have bpm : pmA A B ≤ 40 := (pmn_le _ _).1
  refine nat_down (P := fun k => xX G (d + 2) mX8_allEqual r r (xΦ G r r Q) 4 [(0, .ref m), (1, .int (nI (aev A B k))), (2, .int (nI k))] [] (mput f m (μ), r)) (N := pmA A B) ?_ ?_ 0 (by omega)
  · refine xr_iload_n (n := 5) dX8_allEqual_4 rfl rfl ?_
    refine xr_aload_n (n := 6) dX8_allEqual_5 rfl rfl ?_
    refine xr_callV (y2 := mX8_pairMany) (As := []) (n := 9) dX8_allEqual_6 lm_X8_183 pm_X8_pairMany pi_X8_pairMany (by first | exact mput_0 _ _ _ | exact mput_r (by decide)) rfl rfl rfl (by simp [Value.category]) rfl ⟨Nat.le_refl _, Nat.le_refl _⟩ ?_
    refine s_X8_pairMany h0 h1 ?_
    dsimp only [xK, xps]
    refine xr_icmp_ge (tgt := 70) (n := 12) dX8_allEqual_9 (by decide) rfl (fun h9 => ?_) (fun h9 => by (exfalso; ((try simp (disch := omega) only [i_lt, i_le, i_eq, nt, i_m1, Int32.toInt_zero] at *); omega)))
    refine xr_iload_n (n := 71) dX8_allEqual_70 rfl rfl ?_
    refine xr_ireturn dX8_allEqual_71 rfl rfl rfl ?_
    exact hq
  · intro k hk ih
    have hav := aev_le A B k
    have inn : ∀ c, c ≤ 6 → xX G (d + 2) mX8_allEqual r r (xΦ G r r Q) 17 [(0, .ref m), (1, .int (nI (aev A B k))), (2, .int (nI k)), (3, .int (b2i (eqp A B k c))), (4, .int (nI c))] [] (mput f m μ, r) := by
      refine nat_down (P := fun c => xX G (d + 2) mX8_allEqual r r (xΦ G r r Q) 17 [(0, .ref m), (1, .int (nI (aev A B k))), (2, .int (nI k)), (3, .int (b2i (eqp A B k c))), (4, .int (nI c))] [] (mput f m μ, r)) (N := 6) ?_ ?_
      · refine xr_iload (n := 19) dX8_allEqual_17 rfl rfl ?_
        refine xr_bipush (v := nI 6) (n := 21) dX8_allEqual_19 (by decide) rfl ?_
        refine xr_icmp_ge (tgt := 52) (n := 24) dX8_allEqual_21 (by decide) rfl (fun h21 => ?_) (fun h21 => by (exfalso; ((try simp (disch := omega) only [i_lt, i_le, i_eq, nt, i_m1, Int32.toInt_zero] at *); omega)))
        refine xr_iload_n (n := 53) dX8_allEqual_52 rfl rfl ?_
        refine xr_iload_n (n := 54) dX8_allEqual_53 rfl rfl ?_
        refine xr_beq (tgt := 61) (n := 57) dX8_allEqual_54 (by decide) rfl (fun h54 => ?_) (fun h54 => ?_)
        · refine xr_iconst (v := nI 0) (n := 62) dX8_allEqual_61 (by decide) rfl ?_
          refine xr_iadd (n := 63) dX8_allEqual_62 rfl ?_
          try simp (disch := omega) only [nI_clamp, pk_mul, nI_add, oi1, up2_a, ur_a, Nat.reduceEqDiff, Nat.reduceMul, Nat.reduceAdd, reduceIte, if_pos, if_neg]
          refine xq_istore_n 1 (n := 64) dX8_allEqual_63 rfl rfl rfl ?_
          simp only [xst, Nat.beq, List.filter, Bool.not_true, Bool.not_false]
          refine xr_iinc (n := 67) dX8_allEqual_64 rfl rfl (rfl) rfl ?_
          simp only [xst, Nat.beq, List.filter, Bool.not_true, Bool.not_false]
          try simp (disch := omega) only [nI_clamp, pk_mul, nI_add, oi1, up2_a, ur_a, Nat.reduceEqDiff, Nat.reduceMul, Nat.reduceAdd, reduceIte, if_pos, if_neg]
          refine xr_goto (n := 4) dX8_allEqual_67 (by decide) ?_
          refine xX.drop 3 ?_
          simp only [xst, Nat.beq, List.filter, Bool.not_true, Bool.not_false]
          refine xX.drop 4 ?_
          simp only [xst, Nat.beq, List.filter, Bool.not_true, Bool.not_false]
          first | (rw [aev_t h54] at ih; exact ih) | (rw [aev_f h54] at ih; exact ih)
        · refine xr_iconst (v := nI 1) (n := 58) dX8_allEqual_57 (by decide) rfl ?_
          refine xr_goto (n := 62) dX8_allEqual_58 (by decide) ?_
          refine xr_iadd (n := 63) dX8_allEqual_62 rfl ?_
          try simp (disch := omega) only [nI_clamp, pk_mul, nI_add, oi1, up2_a, ur_a, Nat.reduceEqDiff, Nat.reduceMul, Nat.reduceAdd, reduceIte, if_pos, if_neg]
          refine xq_istore_n 1 (n := 64) dX8_allEqual_63 rfl rfl rfl ?_
          simp only [xst, Nat.beq, List.filter, Bool.not_true, Bool.not_false]
          refine xr_iinc (n := 67) dX8_allEqual_64 rfl rfl (rfl) rfl ?_
          simp only [xst, Nat.beq, List.filter, Bool.not_true, Bool.not_false]
          try simp (disch := omega) only [nI_clamp, pk_mul, nI_add, oi1, up2_a, ur_a, Nat.reduceEqDiff, Nat.reduceMul, Nat.reduceAdd, reduceIte, if_pos, if_neg]
          refine xr_goto (n := 4) dX8_allEqual_67 (by decide) ?_
          refine xX.drop 3 ?_
          simp only [xst, Nat.beq, List.filter, Bool.not_true, Bool.not_false]
          refine xX.drop 4 ?_
          simp only [xst, Nat.beq, List.filter, Bool.not_true, Bool.not_false]
          first | (rw [aev_t h54] at ih; exact ih) | (rw [aev_f h54] at ih; exact ih)
      · intro c hc ih2
        refine xr_iload (n := 19) dX8_allEqual_17 rfl rfl ?_
        refine xr_bipush (v := nI 6) (n := 21) dX8_allEqual_19 (by decide) rfl ?_
        refine xr_icmp_ge (tgt := 52) (n := 24) dX8_allEqual_21 (by decide) rfl (fun h21 => by (exfalso; ((try simp (disch := omega) only [i_lt, i_le, i_eq, nt, i_m1, Int32.toInt_zero] at *); omega))) (fun h21 => ?_)
        refine xr_iload_n (n := 25) dX8_allEqual_24 rfl rfl ?_
        refine xr_beq (tgt := 44) (n := 28) dX8_allEqual_25 (by decide) rfl (fun h25 => ?_) (fun h25 => ?_)
        · refine xr_iconst (v := nI 0) (n := 45) dX8_allEqual_44 (by decide) rfl ?_
          refine xq_istore_n 3 (n := 46) dX8_allEqual_45 rfl rfl rfl ?_
          simp only [xst, Nat.beq, List.filter, Bool.not_true, Bool.not_false]
          refine xr_iinc (n := 49) dX8_allEqual_46 rfl rfl (rfl) rfl ?_
          simp only [xst, Nat.beq, List.filter, Bool.not_true, Bool.not_false]
          try simp (disch := omega) only [nI_clamp, pk_mul, nI_add, oi1, up2_a, ur_a, Nat.reduceEqDiff, Nat.reduceMul, Nat.reduceAdd, reduceIte, if_pos, if_neg]
          refine xr_goto (n := 17) dX8_allEqual_49 (by decide) ?_
          refine xX.eq rfl ?_ rfl rfl ih2
          rw [show b2i (eqp A B k (c + 1)) = nI 0 from by first | exact b2i_t (all_s.mpr ⟨h25, by assumption⟩) | exact b2i_f (fun q => h25 (all_s.mp q).1) | exact b2i_f (fun q => h37 (all_s.mp q).2)]
        · refine xr_aload_n (n := 29) dX8_allEqual_28 rfl rfl ?_
          refine xr_iload_n (n := 30) dX8_allEqual_29 rfl rfl ?_
          refine xr_iload (n := 32) dX8_allEqual_30 rfl rfl ?_
          refine xr_iload (n := 34) dX8_allEqual_32 rfl rfl ?_
          refine xr_callV (y2 := mX8_isEqual) (As := [_, _, _]) (n := 37) dX8_allEqual_34 lm_X8_189 pm_X8_isEqual pi_X8_isEqual (by first | exact mput_0 _ _ _ | exact mput_r (by decide)) rfl rfl rfl (by simp [Value.category]) rfl ⟨Nat.le_refl _, Nat.le_refl _⟩ ?_
          refine s_X8_isEqual (by omega) (by omega) (by omega) ?_
          dsimp only [xK, xps]
          rw [(fin_eqc (x := c) (y := c) h0 h1 hk (by omega) (by omega)).1, (fin_eqc (x := c) (y := c) h0 h1 hk (by omega) (by omega)).2]
          refine xr_beq (tgt := 44) (n := 40) dX8_allEqual_37 (by decide) rfl (fun h37 => ?_) (fun h37 => ?_)
          · refine xr_iconst (v := nI 0) (n := 45) dX8_allEqual_44 (by decide) rfl ?_
            refine xq_istore_n 3 (n := 46) dX8_allEqual_45 rfl rfl rfl ?_
            simp only [xst, Nat.beq, List.filter, Bool.not_true, Bool.not_false]
            refine xr_iinc (n := 49) dX8_allEqual_46 rfl rfl (rfl) rfl ?_
            simp only [xst, Nat.beq, List.filter, Bool.not_true, Bool.not_false]
            try simp (disch := omega) only [nI_clamp, pk_mul, nI_add, oi1, up2_a, ur_a, Nat.reduceEqDiff, Nat.reduceMul, Nat.reduceAdd, reduceIte, if_pos, if_neg]
            refine xr_goto (n := 17) dX8_allEqual_49 (by decide) ?_
            refine xX.eq rfl ?_ rfl rfl ih2
            rw [show b2i (eqp A B k (c + 1)) = nI 0 from by first | exact b2i_t (all_s.mpr ⟨h25, by assumption⟩) | exact b2i_f (fun q => h25 (all_s.mp q).1) | exact b2i_f (fun q => h37 (all_s.mp q).2)]
          · refine xr_iconst (v := nI 1) (n := 41) dX8_allEqual_40 (by decide) rfl ?_
            refine xr_goto (n := 45) dX8_allEqual_41 (by decide) ?_
            refine xq_istore_n 3 (n := 46) dX8_allEqual_45 rfl rfl rfl ?_
            simp only [xst, Nat.beq, List.filter, Bool.not_true, Bool.not_false]
            refine xr_iinc (n := 49) dX8_allEqual_46 rfl rfl (rfl) rfl ?_
            simp only [xst, Nat.beq, List.filter, Bool.not_true, Bool.not_false]
            try simp (disch := omega) only [nI_clamp, pk_mul, nI_add, oi1, up2_a, ur_a, Nat.reduceEqDiff, Nat.reduceMul, Nat.reduceAdd, reduceIte, if_pos, if_neg]
            refine xr_goto (n := 17) dX8_allEqual_49 (by decide) ?_
            refine xX.eq rfl ?_ rfl rfl ih2
            rw [show b2i (eqp A B k (c + 1)) = nI 1 from by first | exact b2i_t (all_s.mpr ⟨h25, by assumption⟩) | exact b2i_f (fun q => h25 (all_s.mp q).1) | exact b2i_f (fun q => h37 (all_s.mp q).2)]
    refine xr_iload_n (n := 5) dX8_allEqual_4 rfl rfl ?_
    refine xr_aload_n (n := 6) dX8_allEqual_5 rfl rfl ?_
    refine xr_callV (y2 := mX8_pairMany) (As := []) (n := 9) dX8_allEqual_6 lm_X8_183 pm_X8_pairMany pi_X8_pairMany (by first | exact mput_0 _ _ _ | exact mput_r (by decide)) rfl rfl rfl (by simp [Value.category]) rfl ⟨Nat.le_refl _, Nat.le_refl _⟩ ?_
    refine s_X8_pairMany h0 h1 ?_
    dsimp only [xK, xps]
    refine xr_icmp_ge (tgt := 70) (n := 12) dX8_allEqual_9 (by decide) rfl (fun h9 => by (exfalso; ((try simp (disch := omega) only [i_lt, i_le, i_eq, nt, i_m1, Int32.toInt_zero] at *); omega))) (fun h9 => ?_)
    refine xr_iconst (v := nI 1) (n := 13) dX8_allEqual_12 (by decide) rfl ?_
    refine xq_istore_n 3 (n := 14) dX8_allEqual_13 rfl rfl rfl ?_
    simp only [xst, Nat.beq, List.filter, Bool.not_true, Bool.not_false]
    refine xr_iconst (v := nI 0) (n := 15) dX8_allEqual_14 (by decide) rfl ?_
    refine xr_istore (n := 17) dX8_allEqual_15 rfl rfl ?_
    simp only [xst, Nat.beq, List.filter, Bool.not_true, Bool.not_false]
    have hav := aev_le A B k
    have i0 := inn 0 (Nat.zero_le _)
    rw [b2i_t (show eqp A B k 0 from fun j hj => absurd hj (Nat.not_lt_zero j))] at i0
    exact i0

theorem s_X8_equalTo {G : xG} {d : Nat} {f : Nat → xC} {r : Nat × Nat} {Q : Option Value → xM → Prop} {m : Nat} {μ : xS} {x : Nat} {n0 n1 : Nat} {A B : Nat × xS} {t mk rd mo tl t1 mk1 rd1 mo1 tl1 : Nat} (hx : x < 6) (h0 : finN μ 0 n0 A t mk rd mo tl) (h1 : finN μ 1 n1 B t1 mk1 rd1 mo1 tl1) (hq : Q (some (.int (eqv A B x 6))) (mput f m μ, r)) : xMet G (d + 2) mX8_equalTo [.ref m, .int (nI x)] (mput f m μ, r) r Q := by
  refine xMet_0 (by decide +kernel) rfl (Nat.le_of_ble_eq_true rfl) ?_
  show xX G (d + 2) mX8_equalTo r r (xΦ G r r Q) 0 [(0, .ref m), (1, .int (nI x))] [] (mput f m μ, r)
  refine xr_iconst (v := nI 0) (n := 1) dX8_equalTo_0 (by decide) rfl ?_
  refine xq_istore_n 2 (n := 2) dX8_equalTo_1 rfl rfl rfl ?_
  simp only [xst, Nat.beq, List.filter, Bool.not_true, Bool.not_false]
  refine xr_iconst (v := nI 0) (n := 3) dX8_equalTo_2 (by decide) rfl ?_
  refine xq_istore_n 3 (n := 4) dX8_equalTo_3 rfl rfl rfl ?_
  simp only [xst, Nat.beq, List.filter, Bool.not_true, Bool.not_false]
  have bpm : pmA A B ≤ 40 := (pmn_le _ _).1
  refine nat_down (P := fun k => xX G (d + 2) mX8_equalTo r r (xΦ G r r Q) 4 [(0, .ref m), (1, .int (nI x)), (2, .int (eqv A B x k)), (3, .int (nI k))] [] (mput f m (μ), r)) (N := 6) ?_ ?_ 0 (by omega)
  · refine xr_iload_n (n := 5) dX8_equalTo_4 rfl rfl ?_
    refine xr_bipush (v := nI 6) (n := 7) dX8_equalTo_5 (by decide) rfl ?_
    refine xr_icmp_ge (tgt := 75) (n := 10) dX8_equalTo_7 (by decide) rfl (fun h7 => ?_) (fun h7 => by (exfalso; ((try simp (disch := omega) only [i_lt, i_le, i_eq, nt, i_m1, Int32.toInt_zero] at *); omega)))
    refine xr_iload_n (n := 76) dX8_equalTo_75 rfl rfl ?_
    refine xr_ireturn dX8_equalTo_76 rfl rfl rfl ?_
    exact hq
  · intro k hk ih
    have inn : ∀ c, c ≤ pmA A B → xX G (d + 2) mX8_equalTo r r (xΦ G r r Q) 16 [(0, .ref m), (1, .int (nI x)), (2, .int (eqv A B x k)), (3, .int (nI k)), (4, .int (b2i (eqx A B x k c))), (5, .int (nI c))] [] (mput f m μ, r) := by
      refine nat_down (P := fun c => xX G (d + 2) mX8_equalTo r r (xΦ G r r Q) 16 [(0, .ref m), (1, .int (nI x)), (2, .int (eqv A B x k)), (3, .int (nI k)), (4, .int (b2i (eqx A B x k c))), (5, .int (nI c))] [] (mput f m μ, r)) (N := pmA A B) ?_ ?_
      · refine xr_iload (n := 18) dX8_equalTo_16 rfl rfl ?_
        refine xr_aload_n (n := 19) dX8_equalTo_18 rfl rfl ?_
        refine xr_callV (y2 := mX8_pairMany) (As := []) (n := 22) dX8_equalTo_19 lm_X8_183 pm_X8_pairMany pi_X8_pairMany (by first | exact mput_0 _ _ _ | exact mput_r (by decide)) rfl rfl rfl (by simp [Value.category]) rfl ⟨Nat.le_refl _, Nat.le_refl _⟩ ?_
        refine s_X8_pairMany h0 h1 ?_
        dsimp only [xK, xps]
        refine xr_icmp_ge (tgt := 54) (n := 25) dX8_equalTo_22 (by decide) rfl (fun h22 => ?_) (fun h22 => by (exfalso; ((try simp (disch := omega) only [i_lt, i_le, i_eq, nt, i_m1, Int32.toInt_zero] at *); omega)))
        refine xr_iload_n (n := 55) dX8_equalTo_54 rfl rfl ?_
        refine xr_iload (n := 57) dX8_equalTo_55 rfl rfl ?_
        refine xr_beq (tgt := 66) (n := 60) dX8_equalTo_57 (by decide) rfl (fun h57 => ?_) (fun h57 => ?_)
        · refine xr_iconst (v := nI 0) (n := 67) dX8_equalTo_66 (by decide) rfl ?_
          refine xr_ior (n := 68) dX8_equalTo_67 rfl ?_
          refine xq_istore_n 2 (n := 69) dX8_equalTo_68 rfl rfl rfl ?_
          simp only [xst, Nat.beq, List.filter, Bool.not_true, Bool.not_false]
          refine xr_iinc (n := 72) dX8_equalTo_69 rfl rfl (rfl) rfl ?_
          simp only [xst, Nat.beq, List.filter, Bool.not_true, Bool.not_false]
          try simp (disch := omega) only [nI_clamp, pk_mul, nI_add, oi1, up2_a, ur_a, Nat.reduceEqDiff, Nat.reduceMul, Nat.reduceAdd, reduceIte, if_pos, if_neg]
          refine xr_goto (n := 4) dX8_equalTo_72 (by decide) ?_
          refine xX.drop 4 ?_
          simp only [xst, Nat.beq, List.filter, Bool.not_true, Bool.not_false]
          refine xX.drop 5 ?_
          simp only [xst, Nat.beq, List.filter, Bool.not_true, Bool.not_false]
          rw [eqv_s] at ih
          first | (rw [if_pos h57] at ih; exact ih) | (rw [if_neg h57] at ih; exact ih)
        · refine xr_iconst (v := nI 1) (n := 61) dX8_equalTo_60 (by decide) rfl ?_
          refine xr_iload_n (n := 62) dX8_equalTo_61 rfl rfl ?_
          refine xr_ishl (n := 63) dX8_equalTo_62 rfl ?_
          refine xr_goto (n := 67) dX8_equalTo_63 (by decide) ?_
          refine xr_ior (n := 68) dX8_equalTo_67 rfl ?_
          refine xq_istore_n 2 (n := 69) dX8_equalTo_68 rfl rfl rfl ?_
          simp only [xst, Nat.beq, List.filter, Bool.not_true, Bool.not_false]
          refine xr_iinc (n := 72) dX8_equalTo_69 rfl rfl (rfl) rfl ?_
          simp only [xst, Nat.beq, List.filter, Bool.not_true, Bool.not_false]
          try simp (disch := omega) only [nI_clamp, pk_mul, nI_add, oi1, up2_a, ur_a, Nat.reduceEqDiff, Nat.reduceMul, Nat.reduceAdd, reduceIte, if_pos, if_neg]
          refine xr_goto (n := 4) dX8_equalTo_72 (by decide) ?_
          refine xX.drop 4 ?_
          simp only [xst, Nat.beq, List.filter, Bool.not_true, Bool.not_false]
          refine xX.drop 5 ?_
          simp only [xst, Nat.beq, List.filter, Bool.not_true, Bool.not_false]
          rw [eqv_s] at ih
          first | (rw [if_pos h57] at ih; exact ih) | (rw [if_neg h57] at ih; exact ih)
      · intro c hc ih2
        refine xr_iload (n := 18) dX8_equalTo_16 rfl rfl ?_
        refine xr_aload_n (n := 19) dX8_equalTo_18 rfl rfl ?_
        refine xr_callV (y2 := mX8_pairMany) (As := []) (n := 22) dX8_equalTo_19 lm_X8_183 pm_X8_pairMany pi_X8_pairMany (by first | exact mput_0 _ _ _ | exact mput_r (by decide)) rfl rfl rfl (by simp [Value.category]) rfl ⟨Nat.le_refl _, Nat.le_refl _⟩ ?_
        refine s_X8_pairMany h0 h1 ?_
        dsimp only [xK, xps]
        refine xr_icmp_ge (tgt := 54) (n := 25) dX8_equalTo_22 (by decide) rfl (fun h22 => by (exfalso; ((try simp (disch := omega) only [i_lt, i_le, i_eq, nt, i_m1, Int32.toInt_zero] at *); omega))) (fun h22 => ?_)
        refine xr_iload (n := 27) dX8_equalTo_25 rfl rfl ?_
        refine xr_beq (tgt := 45) (n := 30) dX8_equalTo_27 (by decide) rfl (fun h27 => ?_) (fun h27 => ?_)
        · refine xr_iconst (v := nI 0) (n := 46) dX8_equalTo_45 (by decide) rfl ?_
          refine xr_istore (n := 48) dX8_equalTo_46 rfl rfl ?_
          simp only [xst, Nat.beq, List.filter, Bool.not_true, Bool.not_false]
          refine xr_iinc (n := 51) dX8_equalTo_48 rfl rfl (rfl) rfl ?_
          simp only [xst, Nat.beq, List.filter, Bool.not_true, Bool.not_false]
          try simp (disch := omega) only [nI_clamp, pk_mul, nI_add, oi1, up2_a, ur_a, Nat.reduceEqDiff, Nat.reduceMul, Nat.reduceAdd, reduceIte, if_pos, if_neg]
          refine xr_goto (n := 16) dX8_equalTo_51 (by decide) ?_
          refine xX.eq rfl ?_ rfl rfl ih2
          rw [show b2i (eqx A B x k (c + 1)) = nI 0 from by first | exact b2i_t (all_s.mpr ⟨h27, by assumption⟩) | exact b2i_f (fun q => h27 (all_s.mp q).1) | exact b2i_f (fun q => h38 (all_s.mp q).2)]
        · refine xr_aload_n (n := 31) dX8_equalTo_30 rfl rfl ?_
          refine xr_iload (n := 33) dX8_equalTo_31 rfl rfl ?_
          refine xr_iload_n (n := 34) dX8_equalTo_33 rfl rfl ?_
          refine xr_iload_n (n := 35) dX8_equalTo_34 rfl rfl ?_
          refine xr_callV (y2 := mX8_isEqual) (As := [_, _, _]) (n := 38) dX8_equalTo_35 lm_X8_189 pm_X8_isEqual pi_X8_isEqual (by first | exact mput_0 _ _ _ | exact mput_r (by decide)) rfl rfl rfl (by simp [Value.category]) rfl ⟨Nat.le_refl _, Nat.le_refl _⟩ ?_
          refine s_X8_isEqual (by omega) (by omega) (by omega) ?_
          dsimp only [xK, xps]
          rw [(fin_eqc (x := x) (y := k) h0 h1 hc (by omega) (by omega)).1, (fin_eqc (x := x) (y := k) h0 h1 hc (by omega) (by omega)).2]
          refine xr_beq (tgt := 45) (n := 41) dX8_equalTo_38 (by decide) rfl (fun h38 => ?_) (fun h38 => ?_)
          · refine xr_iconst (v := nI 0) (n := 46) dX8_equalTo_45 (by decide) rfl ?_
            refine xr_istore (n := 48) dX8_equalTo_46 rfl rfl ?_
            simp only [xst, Nat.beq, List.filter, Bool.not_true, Bool.not_false]
            refine xr_iinc (n := 51) dX8_equalTo_48 rfl rfl (rfl) rfl ?_
            simp only [xst, Nat.beq, List.filter, Bool.not_true, Bool.not_false]
            try simp (disch := omega) only [nI_clamp, pk_mul, nI_add, oi1, up2_a, ur_a, Nat.reduceEqDiff, Nat.reduceMul, Nat.reduceAdd, reduceIte, if_pos, if_neg]
            refine xr_goto (n := 16) dX8_equalTo_51 (by decide) ?_
            refine xX.eq rfl ?_ rfl rfl ih2
            rw [show b2i (eqx A B x k (c + 1)) = nI 0 from by first | exact b2i_t (all_s.mpr ⟨h27, by assumption⟩) | exact b2i_f (fun q => h27 (all_s.mp q).1) | exact b2i_f (fun q => h38 (all_s.mp q).2)]
          · refine xr_iconst (v := nI 1) (n := 42) dX8_equalTo_41 (by decide) rfl ?_
            refine xr_goto (n := 46) dX8_equalTo_42 (by decide) ?_
            refine xr_istore (n := 48) dX8_equalTo_46 rfl rfl ?_
            simp only [xst, Nat.beq, List.filter, Bool.not_true, Bool.not_false]
            refine xr_iinc (n := 51) dX8_equalTo_48 rfl rfl (rfl) rfl ?_
            simp only [xst, Nat.beq, List.filter, Bool.not_true, Bool.not_false]
            try simp (disch := omega) only [nI_clamp, pk_mul, nI_add, oi1, up2_a, ur_a, Nat.reduceEqDiff, Nat.reduceMul, Nat.reduceAdd, reduceIte, if_pos, if_neg]
            refine xr_goto (n := 16) dX8_equalTo_51 (by decide) ?_
            refine xX.eq rfl ?_ rfl rfl ih2
            rw [show b2i (eqx A B x k (c + 1)) = nI 1 from by first | exact b2i_t (all_s.mpr ⟨h27, by assumption⟩) | exact b2i_f (fun q => h27 (all_s.mp q).1) | exact b2i_f (fun q => h38 (all_s.mp q).2)]
    refine xr_iload_n (n := 5) dX8_equalTo_4 rfl rfl ?_
    refine xr_bipush (v := nI 6) (n := 7) dX8_equalTo_5 (by decide) rfl ?_
    refine xr_icmp_ge (tgt := 75) (n := 10) dX8_equalTo_7 (by decide) rfl (fun h7 => by (exfalso; ((try simp (disch := omega) only [i_lt, i_le, i_eq, nt, i_m1, Int32.toInt_zero] at *); omega))) (fun h7 => ?_)
    refine xr_iconst (v := nI 1) (n := 11) dX8_equalTo_10 (by decide) rfl ?_
    refine xr_istore (n := 13) dX8_equalTo_11 rfl rfl ?_
    simp only [xst, Nat.beq, List.filter, Bool.not_true, Bool.not_false]
    refine xr_iconst (v := nI 0) (n := 14) dX8_equalTo_13 (by decide) rfl ?_
    refine xr_istore (n := 16) dX8_equalTo_14 rfl rfl ?_
    simp only [xst, Nat.beq, List.filter, Bool.not_true, Bool.not_false]
    have i0 := inn 0 (Nat.zero_le _)
    rw [b2i_t (show eqx A B x k 0 from fun j hj => absurd hj (Nat.not_lt_zero j))] at i0
    exact i0

theorem s_X8_firstDifference {G : xG} {d : Nat} {f : Nat → xC} {r : Nat × Nat} {Q : Option Value → xM → Prop} {m : Nat} {μ : xS} {n0 n1 : Nat} {A B : Nat × xS} {t mk rd mo tl t1 mk1 rd1 mo1 tl1 : Nat} (h0 : finN μ 0 n0 A t mk rd mo tl) (h1 : finN μ 1 n1 B t1 mk1 rd1 mo1 tl1) (v0 : ∀ i, A.2 0 i ≠ (-10009)) (v1 : ∀ i, B.2 0 i ≠ (-10009)) (hq : Q (some (.int (fdv A B))) (mput f m μ, r)) : xMet G (d + 1) mX8_firstDifference [.ref m] (mput f m μ, r) r Q := by
  refine xMet_0 (by decide +kernel) rfl (Nat.le_of_ble_eq_true rfl) ?_
  show xX G (d + 1) mX8_firstDifference r r (xΦ G r r Q) 0 [(0, .ref m)] [] (mput f m μ, r)
  have n03 : μ 13 3 = nI mk := h0.2.1.2.2.2.1
  have n13 : μ 13 9 = nI mk1 := h1.2.1.2.2.2.1
  have n02 : μ 13 2 = nI tl := h0.2.1.2.2.1
  have n12 : μ 13 8 = nI tl1 := h1.2.1.2.2.1
  obtain ⟨x0, y0, bm, bt⟩ := fin_mk h0
  obtain ⟨x1, y1, bm1, bt1⟩ := fin_mk h1
  refine xr_bipush (v := nI 40) (n := 2) dX8_firstDifference_0 (by decide) rfl ?_
  refine xr_aload_n (n := 3) dX8_firstDifference_2 rfl rfl ?_
  refine xr_get (n := 6) dX8_firstDifference_3 fl_X8_40 (by first | exact mput_0 _ _ _ | exact mput_r (by decide)) (by rfl) rfl ?_
  refine xr_iconst (v := nI 2) (n := 7) dX8_firstDifference_6 (by decide) rfl ?_
  refine xr_iaload (n := 8) dX8_firstDifference_7 (by first | exact mput_0 _ _ _ | exact mput_r (by decide)) (by first | exact vp_in_nI (by omega) (by omega)) rfl ?_
  try simp (disch := omega) only [nI_clamp, pk_mul, nI_add, oi1, up2_a, ur_a, Nat.reduceEqDiff, Nat.reduceMul, Nat.reduceAdd, reduceIte, if_pos, if_neg, n02, n12]
  refine xr_callS (y2 := mX8_least) (As := [_, _]) (n := 11) dX8_firstDifference_8 lm_X8_177 pm_X8_least kp_static_yX8_least rfl rfl (by simp [Value.category]) rfl ⟨Nat.le_refl _, Nat.le_refl _⟩ ?_
  refine s_X8_least ?_
  dsimp only [xK, xps]
  rw [ls40 (by omega)]
  refine xq_istore_n 1 (n := 12) dX8_firstDifference_11 rfl rfl rfl ?_
  simp only [xst, Nat.beq, List.filter, Bool.not_true, Bool.not_false]
  refine xr_bipush (v := nI 40) (n := 14) dX8_firstDifference_12 (by decide) rfl ?_
  refine xr_aload_n (n := 15) dX8_firstDifference_14 rfl rfl ?_
  refine xr_get (n := 18) dX8_firstDifference_15 fl_X8_40 (by first | exact mput_0 _ _ _ | exact mput_r (by decide)) (by rfl) rfl ?_
  refine xr_bipush (v := nI 8) (n := 20) dX8_firstDifference_18 (by decide) rfl ?_
  refine xr_iaload (n := 21) dX8_firstDifference_20 (by first | exact mput_0 _ _ _ | exact mput_r (by decide)) (by first | exact vp_in_nI (by omega) (by omega)) rfl ?_
  try simp (disch := omega) only [nI_clamp, pk_mul, nI_add, oi1, up2_a, ur_a, Nat.reduceEqDiff, Nat.reduceMul, Nat.reduceAdd, reduceIte, if_pos, if_neg, n02, n12]
  refine xr_callS (y2 := mX8_least) (As := [_, _]) (n := 24) dX8_firstDifference_21 lm_X8_177 pm_X8_least kp_static_yX8_least rfl rfl (by simp [Value.category]) rfl ⟨Nat.le_refl _, Nat.le_refl _⟩ ?_
  refine s_X8_least ?_
  dsimp only [xK, xps]
  rw [ls40 (by omega)]
  refine xq_istore_n 2 (n := 25) dX8_firstDifference_24 rfl rfl rfl ?_
  simp only [xst, Nat.beq, List.filter, Bool.not_true, Bool.not_false]
  refine xr_iconst (v := nI 0) (n := 26) dX8_firstDifference_25 (by decide) rfl ?_
  refine xq_istore_n 3 (n := 27) dX8_firstDifference_26 rfl rfl rfl ?_
  simp only [xst, Nat.beq, List.filter, Bool.not_true, Bool.not_false]
  have va : ∀ k, valA A k = if k < (if 40 < tl then 40 else tl) then A.2 0 k else (-10009) := fun k => by unfold valA; rw [y0]; by_cases e : k < 40 ∧ k < tl; (rw [if_pos e, if_pos (by split <;> omega)]); (rw [if_neg e, if_neg (by split <;> omega)])
  have vb : ∀ k, valA B k = if k < (if 40 < tl1 then 40 else tl1) then B.2 0 k else (-10009) := fun k => by unfold valA; rw [y1]; by_cases e : k < 40 ∧ k < tl1; (rw [if_pos e, if_pos (by split <;> omega)]); (rw [if_neg e, if_neg (by split <;> omega)])
  have mt0 : ∀ k, k < (if 40 < tl then 40 else tl) → μ 10 k = A.2 0 k := fun k hk => by have := h0.2.2.2.1 k (by split at hk <;> omega) (by split at hk <;> omega); rw [Nat.mul_zero, Nat.zero_add] at this; exact this
  have mt1 : ∀ k, k < (if 40 < tl1 then 40 else tl1) → μ 10 (40 + k) = B.2 0 k := fun k hk => by have := h1.2.2.2.1 k (by split at hk <;> omega) (by split at hk <;> omega); rw [Nat.mul_one] at this; exact this
  have ba : (if 40 < tl then 40 else tl) ≤ 40 := by split <;> omega
  have bb : (if 40 < tl1 then 40 else tl1) ≤ 40 := by split <;> omega
  generalize (if 40 < tl then 40 else tl) = a at *
  generalize (if 40 < tl1 then 40 else tl1) = b at *
  have key : ∀ g k, (a - k) + (b - k) < g → k ≤ 40 → fdv A B = fdF A B (40 - k) k → xX G (d + 1) mX8_firstDifference r r (xΦ G r r Q) 27 [(0, .ref m), (1, .int (nI a)), (2, .int (nI b)), (3, .int (nI k))] [] (mput f m μ, r) := by
    intro g
    induction g with
    | zero => intro k hg; omega
    | succ g ih =>
      intro k hg hk hf
      refine xr_iload_n (n := 28) dX8_firstDifference_27 rfl rfl ?_
      refine xr_iload_n (n := 29) dX8_firstDifference_28 rfl rfl ?_
      refine xr_icmp_lt (tgt := 37) (n := 32) dX8_firstDifference_29 (by decide) rfl (fun h29 => ?_) (fun h29 => ?_)
      · refine xr_iload_n (n := 38) dX8_firstDifference_37 rfl rfl ?_
        refine xr_iload_n (n := 39) dX8_firstDifference_38 rfl rfl ?_
        refine xr_icmp_ge (tgt := 65) (n := 42) dX8_firstDifference_39 (by decide) rfl (fun h39 => ?_) (fun h39 => ?_)
        · refine xr_iload_n (n := 66) dX8_firstDifference_65 rfl rfl ?_
          refine xr_ireturn dX8_firstDifference_66 rfl rfl rfl ?_
          first | (exfalso; ((try simp (disch := omega) only [i_lt, i_le, i_eq, nt, i_m1, Int32.toInt_zero] at *); omega); done) | (refine qi hq (hf.trans (fdF_f (by ((try simp (disch := omega) only [i_lt, i_le, i_eq, nt, i_m1, Int32.toInt_zero] at *); omega)) ?_)); rw [va, vb, if_pos (by ((try simp (disch := omega) only [i_lt, i_le, i_eq, nt, i_m1, Int32.toInt_zero] at *); omega)), if_pos (by ((try simp (disch := omega) only [i_lt, i_le, i_eq, nt, i_m1, Int32.toInt_zero] at *); omega))]; exact h62) | (refine qi hq (hf.trans (fdF_f (by ((try simp (disch := omega) only [i_lt, i_le, i_eq, nt, i_m1, Int32.toInt_zero] at *); omega)) ?_)); rw [va, vb, if_neg (by ((try simp (disch := omega) only [i_lt, i_le, i_eq, nt, i_m1, Int32.toInt_zero] at *); omega)), if_pos (by ((try simp (disch := omega) only [i_lt, i_le, i_eq, nt, i_m1, Int32.toInt_zero] at *); omega))]; exact fun q => v1 k q.symm) | (refine qi hq (hf.trans (fdF_f (by ((try simp (disch := omega) only [i_lt, i_le, i_eq, nt, i_m1, Int32.toInt_zero] at *); omega)) ?_)); rw [va, vb, if_pos (by ((try simp (disch := omega) only [i_lt, i_le, i_eq, nt, i_m1, Int32.toInt_zero] at *); omega)), if_neg (by ((try simp (disch := omega) only [i_lt, i_le, i_eq, nt, i_m1, Int32.toInt_zero] at *); omega))]; exact v0 k)
        · refine xr_iload_n (n := 43) dX8_firstDifference_42 rfl rfl ?_
          refine xr_iload_n (n := 44) dX8_firstDifference_43 rfl rfl ?_
          refine xr_icmp_ge (tgt := 65) (n := 47) dX8_firstDifference_44 (by decide) rfl (fun h44 => ?_) (fun h44 => ?_)
          · refine xr_iload_n (n := 66) dX8_firstDifference_65 rfl rfl ?_
            refine xr_ireturn dX8_firstDifference_66 rfl rfl rfl ?_
            first | (exfalso; ((try simp (disch := omega) only [i_lt, i_le, i_eq, nt, i_m1, Int32.toInt_zero] at *); omega); done) | (refine qi hq (hf.trans (fdF_f (by ((try simp (disch := omega) only [i_lt, i_le, i_eq, nt, i_m1, Int32.toInt_zero] at *); omega)) ?_)); rw [va, vb, if_pos (by ((try simp (disch := omega) only [i_lt, i_le, i_eq, nt, i_m1, Int32.toInt_zero] at *); omega)), if_pos (by ((try simp (disch := omega) only [i_lt, i_le, i_eq, nt, i_m1, Int32.toInt_zero] at *); omega))]; exact h62) | (refine qi hq (hf.trans (fdF_f (by ((try simp (disch := omega) only [i_lt, i_le, i_eq, nt, i_m1, Int32.toInt_zero] at *); omega)) ?_)); rw [va, vb, if_neg (by ((try simp (disch := omega) only [i_lt, i_le, i_eq, nt, i_m1, Int32.toInt_zero] at *); omega)), if_pos (by ((try simp (disch := omega) only [i_lt, i_le, i_eq, nt, i_m1, Int32.toInt_zero] at *); omega))]; exact fun q => v1 k q.symm) | (refine qi hq (hf.trans (fdF_f (by ((try simp (disch := omega) only [i_lt, i_le, i_eq, nt, i_m1, Int32.toInt_zero] at *); omega)) ?_)); rw [va, vb, if_pos (by ((try simp (disch := omega) only [i_lt, i_le, i_eq, nt, i_m1, Int32.toInt_zero] at *); omega)), if_neg (by ((try simp (disch := omega) only [i_lt, i_le, i_eq, nt, i_m1, Int32.toInt_zero] at *); omega))]; exact v0 k)
          · have ka : k < a := by ((try simp (disch := omega) only [i_lt, i_le, i_eq, nt, i_m1, Int32.toInt_zero] at *); omega)
            have kb : k < b := by ((try simp (disch := omega) only [i_lt, i_le, i_eq, nt, i_m1, Int32.toInt_zero] at *); omega)
            have e0 := mt0 k ka
            have e1 := mt1 k kb
            refine xr_aload_n (n := 48) dX8_firstDifference_47 rfl rfl ?_
            refine xr_get (n := 51) dX8_firstDifference_48 fl_X8_31 (by first | exact mput_0 _ _ _ | exact mput_r (by decide)) (by rfl) rfl ?_
            refine xr_iload_n (n := 52) dX8_firstDifference_51 rfl rfl ?_
            refine xr_iaload (n := 53) dX8_firstDifference_52 (by first | exact mput_0 _ _ _ | exact mput_r (by decide)) (by first | exact vp_in_nI (by omega) (by omega)) rfl ?_
            try simp (disch := omega) only [nI_clamp, pk_mul, nI_add, oi1, up2_a, ur_a, Nat.reduceEqDiff, Nat.reduceMul, Nat.reduceAdd, reduceIte, if_pos, if_neg, e0, e1]
            refine xr_aload_n (n := 54) dX8_firstDifference_53 rfl rfl ?_
            refine xr_get (n := 57) dX8_firstDifference_54 fl_X8_31 (by first | exact mput_0 _ _ _ | exact mput_r (by decide)) (by rfl) rfl ?_
            refine xr_bipush (v := nI 40) (n := 59) dX8_firstDifference_57 (by decide) rfl ?_
            refine xr_iload_n (n := 60) dX8_firstDifference_59 rfl rfl ?_
            refine xr_iadd (n := 61) dX8_firstDifference_60 rfl ?_
            try simp (disch := omega) only [nI_clamp, pk_mul, nI_add, oi1, up2_a, ur_a, Nat.reduceEqDiff, Nat.reduceMul, Nat.reduceAdd, reduceIte, if_pos, if_neg, e0, e1]
            refine xr_iaload (n := 62) dX8_firstDifference_61 (by first | exact mput_0 _ _ _ | exact mput_r (by decide)) (by first | exact vp_in_nI (by omega) (by omega)) rfl ?_
            try simp (disch := omega) only [nI_clamp, pk_mul, nI_add, oi1, up2_a, ur_a, Nat.reduceEqDiff, Nat.reduceMul, Nat.reduceAdd, reduceIte, if_pos, if_neg, e0, e1]
            refine xr_icmp_eq (tgt := 67) (n := 65) dX8_firstDifference_62 (by decide) rfl (fun h62 => ?_) (fun h62 => ?_)
            · refine xr_iinc (n := 70) dX8_firstDifference_67 rfl rfl (rfl) rfl ?_
              simp only [xst, Nat.beq, List.filter, Bool.not_true, Bool.not_false]
              try simp (disch := omega) only [nI_clamp, pk_mul, nI_add, oi1, up2_a, ur_a, Nat.reduceEqDiff, Nat.reduceMul, Nat.reduceAdd, reduceIte, if_pos, if_neg, e0, e1]
              refine xr_goto (n := 27) dX8_firstDifference_70 (by decide) ?_
              refine ih (k + 1) (by omega) (by omega) (hf.trans (fdF_t (by omega) ?_))
              rw [va, vb, if_pos ka, if_pos kb]
              exact h62
            · refine xr_iload_n (n := 66) dX8_firstDifference_65 rfl rfl ?_
              refine xr_ireturn dX8_firstDifference_66 rfl rfl rfl ?_
              first | (exfalso; ((try simp (disch := omega) only [i_lt, i_le, i_eq, nt, i_m1, Int32.toInt_zero] at *); omega); done) | (refine qi hq (hf.trans (fdF_f (by ((try simp (disch := omega) only [i_lt, i_le, i_eq, nt, i_m1, Int32.toInt_zero] at *); omega)) ?_)); rw [va, vb, if_pos (by ((try simp (disch := omega) only [i_lt, i_le, i_eq, nt, i_m1, Int32.toInt_zero] at *); omega)), if_pos (by ((try simp (disch := omega) only [i_lt, i_le, i_eq, nt, i_m1, Int32.toInt_zero] at *); omega))]; exact h62) | (refine qi hq (hf.trans (fdF_f (by ((try simp (disch := omega) only [i_lt, i_le, i_eq, nt, i_m1, Int32.toInt_zero] at *); omega)) ?_)); rw [va, vb, if_neg (by ((try simp (disch := omega) only [i_lt, i_le, i_eq, nt, i_m1, Int32.toInt_zero] at *); omega)), if_pos (by ((try simp (disch := omega) only [i_lt, i_le, i_eq, nt, i_m1, Int32.toInt_zero] at *); omega))]; exact fun q => v1 k q.symm) | (refine qi hq (hf.trans (fdF_f (by ((try simp (disch := omega) only [i_lt, i_le, i_eq, nt, i_m1, Int32.toInt_zero] at *); omega)) ?_)); rw [va, vb, if_pos (by ((try simp (disch := omega) only [i_lt, i_le, i_eq, nt, i_m1, Int32.toInt_zero] at *); omega)), if_neg (by ((try simp (disch := omega) only [i_lt, i_le, i_eq, nt, i_m1, Int32.toInt_zero] at *); omega))]; exact v0 k)
      · refine xr_iload_n (n := 33) dX8_firstDifference_32 rfl rfl ?_
        refine xr_iload_n (n := 34) dX8_firstDifference_33 rfl rfl ?_
        refine xr_icmp_ge (tgt := 73) (n := 37) dX8_firstDifference_34 (by decide) rfl (fun h34 => ?_) (fun h34 => ?_)
        · refine xr_sipush (v := (-10009)) (n := 76) dX8_firstDifference_73 (by decide) rfl ?_
          refine xr_ireturn dX8_firstDifference_76 rfl rfl rfl ?_
          rw [hf, fdF_end _ _ (fun j hj => by rw [va, vb, if_neg (by ((try simp (disch := omega) only [i_lt, i_le, i_eq, nt, i_m1, Int32.toInt_zero] at *); omega)), if_neg (by ((try simp (disch := omega) only [i_lt, i_le, i_eq, nt, i_m1, Int32.toInt_zero] at *); omega))])] at hq
          exact hq
        · refine xr_iload_n (n := 38) dX8_firstDifference_37 rfl rfl ?_
          refine xr_iload_n (n := 39) dX8_firstDifference_38 rfl rfl ?_
          refine xr_icmp_ge (tgt := 65) (n := 42) dX8_firstDifference_39 (by decide) rfl (fun h39 => ?_) (fun h39 => ?_)
          · refine xr_iload_n (n := 66) dX8_firstDifference_65 rfl rfl ?_
            refine xr_ireturn dX8_firstDifference_66 rfl rfl rfl ?_
            first | (exfalso; ((try simp (disch := omega) only [i_lt, i_le, i_eq, nt, i_m1, Int32.toInt_zero] at *); omega); done) | (refine qi hq (hf.trans (fdF_f (by ((try simp (disch := omega) only [i_lt, i_le, i_eq, nt, i_m1, Int32.toInt_zero] at *); omega)) ?_)); rw [va, vb, if_pos (by ((try simp (disch := omega) only [i_lt, i_le, i_eq, nt, i_m1, Int32.toInt_zero] at *); omega)), if_pos (by ((try simp (disch := omega) only [i_lt, i_le, i_eq, nt, i_m1, Int32.toInt_zero] at *); omega))]; exact h62) | (refine qi hq (hf.trans (fdF_f (by ((try simp (disch := omega) only [i_lt, i_le, i_eq, nt, i_m1, Int32.toInt_zero] at *); omega)) ?_)); rw [va, vb, if_neg (by ((try simp (disch := omega) only [i_lt, i_le, i_eq, nt, i_m1, Int32.toInt_zero] at *); omega)), if_pos (by ((try simp (disch := omega) only [i_lt, i_le, i_eq, nt, i_m1, Int32.toInt_zero] at *); omega))]; exact fun q => v1 k q.symm) | (refine qi hq (hf.trans (fdF_f (by ((try simp (disch := omega) only [i_lt, i_le, i_eq, nt, i_m1, Int32.toInt_zero] at *); omega)) ?_)); rw [va, vb, if_pos (by ((try simp (disch := omega) only [i_lt, i_le, i_eq, nt, i_m1, Int32.toInt_zero] at *); omega)), if_neg (by ((try simp (disch := omega) only [i_lt, i_le, i_eq, nt, i_m1, Int32.toInt_zero] at *); omega))]; exact v0 k)
          · refine xr_iload_n (n := 43) dX8_firstDifference_42 rfl rfl ?_
            refine xr_iload_n (n := 44) dX8_firstDifference_43 rfl rfl ?_
            refine xr_icmp_ge (tgt := 65) (n := 47) dX8_firstDifference_44 (by decide) rfl (fun h44 => ?_) (fun h44 => ?_)
            · refine xr_iload_n (n := 66) dX8_firstDifference_65 rfl rfl ?_
              refine xr_ireturn dX8_firstDifference_66 rfl rfl rfl ?_
              first | (exfalso; ((try simp (disch := omega) only [i_lt, i_le, i_eq, nt, i_m1, Int32.toInt_zero] at *); omega); done) | (refine qi hq (hf.trans (fdF_f (by ((try simp (disch := omega) only [i_lt, i_le, i_eq, nt, i_m1, Int32.toInt_zero] at *); omega)) ?_)); rw [va, vb, if_pos (by ((try simp (disch := omega) only [i_lt, i_le, i_eq, nt, i_m1, Int32.toInt_zero] at *); omega)), if_pos (by ((try simp (disch := omega) only [i_lt, i_le, i_eq, nt, i_m1, Int32.toInt_zero] at *); omega))]; exact h62) | (refine qi hq (hf.trans (fdF_f (by ((try simp (disch := omega) only [i_lt, i_le, i_eq, nt, i_m1, Int32.toInt_zero] at *); omega)) ?_)); rw [va, vb, if_neg (by ((try simp (disch := omega) only [i_lt, i_le, i_eq, nt, i_m1, Int32.toInt_zero] at *); omega)), if_pos (by ((try simp (disch := omega) only [i_lt, i_le, i_eq, nt, i_m1, Int32.toInt_zero] at *); omega))]; exact fun q => v1 k q.symm) | (refine qi hq (hf.trans (fdF_f (by ((try simp (disch := omega) only [i_lt, i_le, i_eq, nt, i_m1, Int32.toInt_zero] at *); omega)) ?_)); rw [va, vb, if_pos (by ((try simp (disch := omega) only [i_lt, i_le, i_eq, nt, i_m1, Int32.toInt_zero] at *); omega)), if_neg (by ((try simp (disch := omega) only [i_lt, i_le, i_eq, nt, i_m1, Int32.toInt_zero] at *); omega))]; exact v0 k)
            · have ka : k < a := by ((try simp (disch := omega) only [i_lt, i_le, i_eq, nt, i_m1, Int32.toInt_zero] at *); omega)
              have kb : k < b := by ((try simp (disch := omega) only [i_lt, i_le, i_eq, nt, i_m1, Int32.toInt_zero] at *); omega)
              have e0 := mt0 k ka
              have e1 := mt1 k kb
              refine xr_aload_n (n := 48) dX8_firstDifference_47 rfl rfl ?_
              refine xr_get (n := 51) dX8_firstDifference_48 fl_X8_31 (by first | exact mput_0 _ _ _ | exact mput_r (by decide)) (by rfl) rfl ?_
              refine xr_iload_n (n := 52) dX8_firstDifference_51 rfl rfl ?_
              refine xr_iaload (n := 53) dX8_firstDifference_52 (by first | exact mput_0 _ _ _ | exact mput_r (by decide)) (by first | exact vp_in_nI (by omega) (by omega)) rfl ?_
              try simp (disch := omega) only [nI_clamp, pk_mul, nI_add, oi1, up2_a, ur_a, Nat.reduceEqDiff, Nat.reduceMul, Nat.reduceAdd, reduceIte, if_pos, if_neg, e0, e1]
              refine xr_aload_n (n := 54) dX8_firstDifference_53 rfl rfl ?_
              refine xr_get (n := 57) dX8_firstDifference_54 fl_X8_31 (by first | exact mput_0 _ _ _ | exact mput_r (by decide)) (by rfl) rfl ?_
              refine xr_bipush (v := nI 40) (n := 59) dX8_firstDifference_57 (by decide) rfl ?_
              refine xr_iload_n (n := 60) dX8_firstDifference_59 rfl rfl ?_
              refine xr_iadd (n := 61) dX8_firstDifference_60 rfl ?_
              try simp (disch := omega) only [nI_clamp, pk_mul, nI_add, oi1, up2_a, ur_a, Nat.reduceEqDiff, Nat.reduceMul, Nat.reduceAdd, reduceIte, if_pos, if_neg, e0, e1]
              refine xr_iaload (n := 62) dX8_firstDifference_61 (by first | exact mput_0 _ _ _ | exact mput_r (by decide)) (by first | exact vp_in_nI (by omega) (by omega)) rfl ?_
              try simp (disch := omega) only [nI_clamp, pk_mul, nI_add, oi1, up2_a, ur_a, Nat.reduceEqDiff, Nat.reduceMul, Nat.reduceAdd, reduceIte, if_pos, if_neg, e0, e1]
              refine xr_icmp_eq (tgt := 67) (n := 65) dX8_firstDifference_62 (by decide) rfl (fun h62 => ?_) (fun h62 => ?_)
              · refine xr_iinc (n := 70) dX8_firstDifference_67 rfl rfl (rfl) rfl ?_
                simp only [xst, Nat.beq, List.filter, Bool.not_true, Bool.not_false]
                try simp (disch := omega) only [nI_clamp, pk_mul, nI_add, oi1, up2_a, ur_a, Nat.reduceEqDiff, Nat.reduceMul, Nat.reduceAdd, reduceIte, if_pos, if_neg, e0, e1]
                refine xr_goto (n := 27) dX8_firstDifference_70 (by decide) ?_
                refine ih (k + 1) (by omega) (by omega) (hf.trans (fdF_t (by omega) ?_))
                rw [va, vb, if_pos ka, if_pos kb]
                exact h62
              · refine xr_iload_n (n := 66) dX8_firstDifference_65 rfl rfl ?_
                refine xr_ireturn dX8_firstDifference_66 rfl rfl rfl ?_
                first | (exfalso; ((try simp (disch := omega) only [i_lt, i_le, i_eq, nt, i_m1, Int32.toInt_zero] at *); omega); done) | (refine qi hq (hf.trans (fdF_f (by ((try simp (disch := omega) only [i_lt, i_le, i_eq, nt, i_m1, Int32.toInt_zero] at *); omega)) ?_)); rw [va, vb, if_pos (by ((try simp (disch := omega) only [i_lt, i_le, i_eq, nt, i_m1, Int32.toInt_zero] at *); omega)), if_pos (by ((try simp (disch := omega) only [i_lt, i_le, i_eq, nt, i_m1, Int32.toInt_zero] at *); omega))]; exact h62) | (refine qi hq (hf.trans (fdF_f (by ((try simp (disch := omega) only [i_lt, i_le, i_eq, nt, i_m1, Int32.toInt_zero] at *); omega)) ?_)); rw [va, vb, if_neg (by ((try simp (disch := omega) only [i_lt, i_le, i_eq, nt, i_m1, Int32.toInt_zero] at *); omega)), if_pos (by ((try simp (disch := omega) only [i_lt, i_le, i_eq, nt, i_m1, Int32.toInt_zero] at *); omega))]; exact fun q => v1 k q.symm) | (refine qi hq (hf.trans (fdF_f (by ((try simp (disch := omega) only [i_lt, i_le, i_eq, nt, i_m1, Int32.toInt_zero] at *); omega)) ?_)); rw [va, vb, if_pos (by ((try simp (disch := omega) only [i_lt, i_le, i_eq, nt, i_m1, Int32.toInt_zero] at *); omega)), if_neg (by ((try simp (disch := omega) only [i_lt, i_le, i_eq, nt, i_m1, Int32.toInt_zero] at *); omega))]; exact v0 k)
  exact key 81 0 (by omega) (by omega) rfl
