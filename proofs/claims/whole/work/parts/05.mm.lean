/-! both programs of the reference -/
def msP (μ : xS) (N : Nat → Nat) (P : Nat → Nat → Nat → Nat) : Prop := ∀ q, q ≤ 1 → isPg (mtake μ q 5) (N q) (P q) ∧ wfP (N q) (P q)
theorem msP.ofr {μ ν : xS} {N : Nat → Nat} {P : Nat → Nat → Nat → Nat} (hN : msP μ N P) (h : frm μ ν) : msP ν N P := fun q hq => ⟨(hN q hq).1.ofr h (hN q hq).2.1.1, (hN q hq).2⟩
def RP (N : Nat → Nat) (P : Nat → Nat → Nat → Nat) (a b : Int32) (q : Nat) : Nat × xS := runD (N q) (P q) a b
def inpt (a b : Int32) : Prop := (-999 ≤ a.toInt ∧ a.toInt ≤ 999) ∧ (-999 ≤ b.toInt ∧ b.toInt ≤ 999)
theorem dv4 : ∀ k : Nat, k < 16 → nI k / nI 4 = nI (k / 4) ∧ nI k - nI k / nI 4 * nI 4 = nI (k % 4) := by decide +kernel
theorem inp4 {k : Nat} (h : k < 16) : inpt (nI (k / 4)) (nI (k % 4)) := by
  unfold inpt
  rw [nt _ (by omega), nt _ (by omega)]
  omega
def algv (N : Nat → Nat) (P : Nat → Nat → Nat → Nat) (c : Nat) : Nat → Int32
  | 0 => nI 63
  | k + 1 => algv N P c k &&& eqv (RP N P (nI (k / 4)) (nI (k % 4)) 0) (RP N P (nI (k / 4)) (nI (k % 4)) 1) c 6
theorem algv_s (N : Nat → Nat) (P : Nat → Nat → Nat → Nat) (c k : Nat) : algv N P c (k + 1) = algv N P c k &&& eqv (RP N P (nI (k / 4)) (nI (k % 4)) 0) (RP N P (nI (k / 4)) (nI (k % 4)) 1) c 6 := rfl
def prV (A B : Nat × xS) (w : Nat) : Int32 := if w = 0 then nI (pmA A B) else if w = 3 then nI (aev A B (pmA A B)) else if pmA A B = 0 then (-10009) else if w = 1 then glv A B (pmA A B) else ldv A B (pmA A B - 1)
def av (lo : Int32) (i : Nat) : Int32 := Int32.ofInt (lo.toInt + i)
theorem av_i {lo : Int32} {i : Nat} (h : -9 ≤ lo.toInt) (h2 : lo.toInt ≤ 9) (hi : i ≤ 20) : (av lo i).toInt = lo.toInt + i := by
  unfold av
  rw [Int32.toInt_ofInt, i_bmod (by omega) (by omega)]
theorem av_0 (lo : Int32) : av lo 0 = lo := by
  unfold av
  rw [show lo.toInt + ((0 : Nat) : Int) = lo.toInt from by omega, Int32.ofInt_toInt]
theorem av_s {lo : Int32} {i : Nat} (h : -9 ≤ lo.toInt) (h2 : lo.toInt ≤ 9) (hi : i < 20) : av lo i + nI 1 = av lo (i + 1) := by
  have h1 : (nI 1).toInt = 1 := nt 1 (by omega)
  have e := av_i h h2 (i := i) (by omega)
  rw [i_eq, i_add (by omega) (by omega), e, h1, av_i h h2 (by omega)]
  omega
def agB (N : Nat → Nat) (P : Nat → Nat → Nat → Nat) (lo : Int32) (i j : Nat) : Bool := decide (agP (N 0) (N 1) (RP N P (av lo i) (av lo j) 0) (RP N P (av lo i) (av lo j) 1))
def agN (t : Nat × Option (Nat × Nat)) (i j : Nat) (b : Bool) : Nat × Option (Nat × Nat) := match b with
  | true => (t.1 + 1, t.2)
  | false => (t.1, match t.2 with | none => some (i, j) | some q => some q)
def agC (g : Nat → Nat → Bool) (s : Nat × Option (Nat × Nat)) (i : Nat) : Nat → Nat × Option (Nat × Nat)
  | 0 => s
  | j + 1 => agN (agC g s i j) i j (g i j)
def agR (g : Nat → Nat → Bool) (w : Nat) : Nat → Nat × Option (Nat × Nat)
  | 0 => (0, none)
  | i + 1 => agC g (agR g w i) i w
def agF (lo : Int32) (t : Option (Nat × Nat)) : Int32 := match t with | none => (-10009) | some q => av lo q.1
def agS (lo : Int32) (t : Option (Nat × Nat)) : Int32 := match t with | none => (-10009) | some q => av lo q.2
def wid (lo hi : Int32) : Nat := (hi.toInt - lo.toInt + 1).toNat
def agV (N : Nat → Nat) (P : Nat → Nat → Nat → Nat) (lo hi : Int32) (w : Nat) : Int32 := if w = 0 then nI (agR (agB N P lo) (wid lo hi) (wid lo hi)).1 else if w = 1 then agF lo (agR (agB N P lo) (wid lo hi) (wid lo hi)).2 else agS lo (agR (agB N P lo) (wid lo hi) (wid lo hi)).2
def agOk (t : Nat × Option (Nat × Nat)) : Prop := ∀ q, t.2 = some q → q.1 < 19 ∧ q.2 < 19
theorem agN_ok {t : Nat × Option (Nat × Nat)} {i j : Nat} (hi : i < 19) (hj : j < 19) (h : agOk t) (b : Bool) : agOk (agN t i j b) := by
  cases b with
  | true => exact h
  | false =>
    intro q hq
    obtain ⟨c, o⟩ := t
    cases o with
    | none =>
      have e : (i, j) = q := Option.some.inj hq
      rw [← e]
      exact ⟨hi, hj⟩
    | some u => exact h q hq
theorem agC_ok {g : Nat → Nat → Bool} {s : Nat × Option (Nat × Nat)} {i : Nat} (hi : i < 19) (h : agOk s) : ∀ j, j ≤ 19 → agOk (agC g s i j)
  | 0, _ => h
  | j + 1, hj => agN_ok hi (by omega) (agC_ok hi h j (by omega)) _
theorem agR_ok {g : Nat → Nat → Bool} {w : Nat} (hw : w ≤ 19) : ∀ i, i ≤ 19 → agOk (agR g w i)
  | 0, _ => fun q hq => by cases hq
  | i + 1, hi => agC_ok (by omega) (agR_ok hw i (by omega)) w hw
theorem agF_none {lo : Int32} {t : Nat × Option (Nat × Nat)} (h : -9 ≤ lo.toInt) (h2 : lo.toInt ≤ 9) (ho : agOk t) : agF lo t.2 = (-10009) ↔ t.2 = none := by
  obtain ⟨c, o⟩ := t
  cases o with
  | none => exact ⟨fun _ => rfl, fun _ => rfl⟩
  | some q =>
    refine ⟨fun e => ?_, fun e => by cases e⟩
    exfalso
    have e1 : av lo q.1 = (-10009) := e
    have e2 : (-10009 : Int32).toInt = -10009 := by decide +kernel
    have e3 := av_i h h2 (i := q.1) (by have := (ho q rfl).1; omega)
    rw [e1, e2] at e3
    omega
/-- what all runs put out is kept -/
def kpS (ν : xS) (n : Nat) (P : Nat → Nat → Nat) (K : Nat) : Prop := ∀ k, k < K → ν 18 k = (runD n P (nI (k / 4)) (nI (k % 4))).2 9 0 ∧ ν 19 k = cutD n (runD n P (nI (k / 4)) (nI (k % 4))) ∧ ∀ i, i < 40 → i < ix ((runD n P (nI (k / 4)) (nI (k % 4))).2 9 0) → ν 17 (40 * k + i) = (runD n P (nI (k / 4)) (nI (k % 4))).2 0 i
theorem kpS.cg {ν κ : xS} {n K : Nat} {P : Nat → Nat → Nat} (h : kpS ν n P K) (e : ∀ w, 16 < w → κ w = ν w) : kpS κ n P K := fun k hk => by
  rw [e 17 (by omega), e 18 (by omega), e 19 (by omega)]
  exact h k hk
/-- two runs put out the same -/
abbrev smo (n : Nat) (A : Nat × xS) (n' : Nat) (B : Nat × xS) : Prop := B.2 9 0 = A.2 9 0 ∧ cutD n' B = cutD n A ∧ ∀ i, i < 40 → i < ix (A.2 9 0) → A.2 0 i = B.2 0 i
abbrev idl (n : Nat) (P : Nat → Nat → Nat) (s : Nat) : Prop := ∀ k, k < 16 → smo n (runD n P (nI (k / 4)) (nI (k % 4))) (n - psz P s) (runD (n - psz P s) (pcut P s) (nI (k / 4)) (nI (k % 4)))
theorem s_X8_pairs {G : xG} {d : Nat} {f : Nat → xC} {r : Nat × Nat} {Q : Option Value → xM → Prop} {m : Nat} {μ : xS} {a b w : Int32} {N : Nat → Nat} {P : Nat → Nat → Nat → Nat} (hN : msP μ N P) (hq0 : ¬ (((-999 ≤ a.toInt ∧ a.toInt ≤ 999) ∧ (-999 ≤ b.toInt ∧ b.toInt ≤ 999)) ∧ (0 ≤ w.toInt ∧ w.toInt ≤ 3)) → Q (some (.int (-10001))) (mput f m μ, r)) (hq : ∀ (wn : Nat) (ν : xS), wn ≤ 3 → w = nI wn → inpt a b → frm μ ν → Q (some (.int (prV (RP N P a b 0) (RP N P a b 1) wn))) (mput f m ν, r)) : xMet G (d + 6) mX8_pairs [.ref m, .int a, .int b, .int w] (mput f m μ, r) r Q := by
  refine xMet_0 (by decide +kernel) rfl (Nat.le_of_ble_eq_true rfl) ?_
  show xX G (d + 6) mX8_pairs r r (xΦ G r r Q) 0 [(0, .ref m), (1, .int a), (2, .int b), (3, .int w)] [] (mput f m μ, r)
  refine xr_iload_n (n := 1) dX8_pairs_0 rfl rfl ?_
  refine xr_iload_n (n := 2) dX8_pairs_1 rfl rfl ?_
  refine xr_callS (y2 := mX8_isInput) (As := [_, _]) (n := 5) dX8_pairs_2 lm_X8_171 pm_X8_isInput kp_static_yX8_isInput rfl rfl (by simp [Value.category]) rfl ⟨Nat.le_refl _, Nat.le_refl _⟩ ?_
  refine s_X8_isInput ?_
  dsimp only [xK, xps]
  refine xr_beq (tgt := 17) (n := 8) dX8_pairs_5 (by decide) rfl (fun h5 => ?_) (fun h5 => ?_)
  · refine xr_sipush (v := (-10001)) (n := 20) dX8_pairs_17 (by decide) rfl ?_
    refine xr_ireturn dX8_pairs_20 rfl rfl rfl ?_
    first | exact hq0 (fun q => h5 q.1) | exact hq0 (fun q => h14 q.2)
  · refine xr_iload_n (n := 9) dX8_pairs_8 rfl rfl ?_
    refine xr_iconst (v := nI 0) (n := 10) dX8_pairs_9 (by decide) rfl ?_
    refine xr_iconst (v := nI 3) (n := 11) dX8_pairs_10 (by decide) rfl ?_
    refine xr_callS (y2 := mX8_within) (As := [_, _, _]) (n := 14) dX8_pairs_11 lm_X8_61 pm_X8_within kp_static_yX8_within rfl rfl (by simp [Value.category]) rfl ⟨Nat.le_refl _, Nat.le_refl _⟩ ?_
    refine s_X8_within ?_
    dsimp only [xK, xps]
    refine xr_bne (tgt := 21) (n := 17) dX8_pairs_14 (by decide) rfl (fun h14 => ?_) (fun h14 => ?_)
    · obtain ⟨wn, hwn, rfl⟩ := k_of h14.1
      have hw6 : wn ≤ 3 := by ((try simp (disch := omega) only [i_lt, i_le, i_eq, nt, i_m1, Int32.toInt_zero] at *); omega)
      refine xr_aload_n (n := 22) dX8_pairs_21 rfl rfl ?_
      refine xr_iload_n (n := 23) dX8_pairs_22 rfl rfl ?_
      refine xr_iload_n (n := 24) dX8_pairs_23 rfl rfl ?_
      refine xr_callV (y2 := mX8_runsBoth) (As := [_, _]) (n := 27) dX8_pairs_24 lm_X8_192 pm_X8_runsBoth pi_X8_runsBoth (by first | exact mput_0 _ _ _ | exact mput_r (by decide)) rfl rfl rfl (by simp [Value.category]) rfl ⟨Nat.le_refl _, Nat.le_refl _⟩ ?_
      refine s_X8_runsBoth (hN 0 (by omega)).1 (hN 0 (by omega)).2 (hN 1 (by omega)).1 (hN 1 (by omega)).2 (fun ν t mk rd mo tl t1 mk1 rd1 mo1 tl1 hfr h0 h1 => ?_)
      dsimp only [xK, xps]
      refine xr_aload_n (n := 28) dX8_pairs_27 rfl rfl ?_
      refine xr_callV (y2 := mX8_pairMany) (As := []) (n := 31) dX8_pairs_28 lm_X8_183 pm_X8_pairMany pi_X8_pairMany (by first | exact mput_0 _ _ _ | exact mput_r (by decide)) rfl rfl rfl (by simp [Value.category]) rfl ⟨Nat.le_refl _, Nat.le_refl _⟩ ?_
      refine s_X8_pairMany h0 h1 ?_
      dsimp only [xK, xps]
      have bpm : pmA (runD (N 0) (P 0) a b) (runD (N 1) (P 1) a b) ≤ 40 := (pmn_le _ _).1
      refine xr_istore (n := 33) dX8_pairs_31 rfl rfl ?_
      simp only [xst, Nat.beq, List.filter, Bool.not_true, Bool.not_false]
      refine xr_iload_n (n := 34) dX8_pairs_33 rfl rfl ?_
      refine xr_if_ne (tgt := 40) (n := 37) dX8_pairs_34 (by decide) rfl (fun h34 => ?_) (fun h34 => ?_)
      · refine xr_iload_n (n := 41) dX8_pairs_40 rfl rfl ?_
        refine xr_iconst (v := nI 3) (n := 42) dX8_pairs_41 (by decide) rfl ?_
        refine xr_icmp_ne (tgt := 50) (n := 45) dX8_pairs_42 (by decide) rfl (fun h42 => ?_) (fun h42 => ?_)
        · refine xr_iload (n := 52) dX8_pairs_50 rfl rfl ?_
          refine xr_if_ne (tgt := 61) (n := 55) dX8_pairs_52 (by decide) rfl (fun h52 => ?_) (fun h52 => ?_)
          · refine xr_iload_n (n := 62) dX8_pairs_61 rfl rfl ?_
            refine xr_iconst (v := nI 1) (n := 63) dX8_pairs_62 (by decide) rfl ?_
            refine xr_icmp_ne (tgt := 73) (n := 66) dX8_pairs_63 (by decide) rfl (fun h63 => ?_) (fun h63 => ?_)
            · refine xr_aload_n (n := 74) dX8_pairs_73 rfl rfl ?_
              refine xr_iload (n := 76) dX8_pairs_74 rfl rfl ?_
              refine xr_iconst (v := nI 1) (n := 77) dX8_pairs_76 (by decide) rfl ?_
              refine xr_isub (n := 78) dX8_pairs_77 rfl ?_
              rw [pk_sub (by ((try simp (disch := omega) only [i_lt, i_le, i_eq, nt, i_m1, Int32.toInt_zero] at *); omega))]
              skip
              refine xr_callV (y2 := mX8_leadOf) (As := [_]) (n := 81) dX8_pairs_78 lm_X8_186 pm_X8_leadOf pi_X8_leadOf (by first | exact mput_0 _ _ _ | exact mput_r (by decide)) rfl rfl rfl (by simp [Value.category]) rfl ⟨Nat.le_refl _, Nat.le_refl _⟩ ?_
              refine s_X8_leadOf (by ((try simp (disch := omega) only [i_lt, i_le, i_eq, nt, i_m1, Int32.toInt_zero] at *); omega)) ?_
              dsimp only [xK, xps]
              skip
              refine xr_ireturn dX8_pairs_81 rfl rfl rfl ?_
              refine qi (hq wn ν hw6 rfl h5 hfr) ?_
              unfold prV
              rw [if_neg (by ((try simp (disch := omega) only [i_lt, i_le, i_eq, nt, i_m1, Int32.toInt_zero] at *); omega)), if_neg (by ((try simp (disch := omega) only [i_lt, i_le, i_eq, nt, i_m1, Int32.toInt_zero] at *); omega))]
              have e0 : pmA (RP N P a b 0) (RP N P a b 1) = pmA (runD (N 0) (P 0) a b) (runD (N 1) (P 1) a b) := rfl
              rw [e0]
              first | (rw [if_pos (by ((try simp (disch := omega) only [i_lt, i_le, i_eq, nt, i_m1, Int32.toInt_zero] at *); omega))]; done) | (rw [if_neg (by ((try simp (disch := omega) only [i_lt, i_le, i_eq, nt, i_m1, Int32.toInt_zero] at *); omega)), if_pos (by ((try simp (disch := omega) only [i_lt, i_le, i_eq, nt, i_m1, Int32.toInt_zero] at *); omega))]; rfl) | (rw [if_neg (by ((try simp (disch := omega) only [i_lt, i_le, i_eq, nt, i_m1, Int32.toInt_zero] at *); omega)), if_neg (by ((try simp (disch := omega) only [i_lt, i_le, i_eq, nt, i_m1, Int32.toInt_zero] at *); omega)), fin_ld h0 h1 (by ((try simp (disch := omega) only [i_lt, i_le, i_eq, nt, i_m1, Int32.toInt_zero] at *); omega))]; rfl)
            · refine xr_aload_n (n := 67) dX8_pairs_66 rfl rfl ?_
              refine xr_callV (y2 := mX8_greatestLead) (As := []) (n := 70) dX8_pairs_67 lm_X8_198 pm_X8_greatestLead pi_X8_greatestLead (by first | exact mput_0 _ _ _ | exact mput_r (by decide)) rfl rfl rfl (by simp [Value.category]) rfl ⟨Nat.le_refl _, Nat.le_refl _⟩ ?_
              refine s_X8_greatestLead h0 h1 ?_
              dsimp only [xK, xps]
              refine xr_goto (n := 81) dX8_pairs_70 (by decide) ?_
              refine xr_ireturn dX8_pairs_81 rfl rfl rfl ?_
              refine qi (hq wn ν hw6 rfl h5 hfr) ?_
              unfold prV
              rw [if_neg (by ((try simp (disch := omega) only [i_lt, i_le, i_eq, nt, i_m1, Int32.toInt_zero] at *); omega)), if_neg (by ((try simp (disch := omega) only [i_lt, i_le, i_eq, nt, i_m1, Int32.toInt_zero] at *); omega))]
              have e0 : pmA (RP N P a b 0) (RP N P a b 1) = pmA (runD (N 0) (P 0) a b) (runD (N 1) (P 1) a b) := rfl
              rw [e0]
              first | (rw [if_pos (by ((try simp (disch := omega) only [i_lt, i_le, i_eq, nt, i_m1, Int32.toInt_zero] at *); omega))]; done) | (rw [if_neg (by ((try simp (disch := omega) only [i_lt, i_le, i_eq, nt, i_m1, Int32.toInt_zero] at *); omega)), if_pos (by ((try simp (disch := omega) only [i_lt, i_le, i_eq, nt, i_m1, Int32.toInt_zero] at *); omega))]; rfl) | (rw [if_neg (by ((try simp (disch := omega) only [i_lt, i_le, i_eq, nt, i_m1, Int32.toInt_zero] at *); omega)), if_neg (by ((try simp (disch := omega) only [i_lt, i_le, i_eq, nt, i_m1, Int32.toInt_zero] at *); omega)), fin_ld h0 h1 (by ((try simp (disch := omega) only [i_lt, i_le, i_eq, nt, i_m1, Int32.toInt_zero] at *); omega))]; rfl)
          · refine xr_sipush (v := (-10009)) (n := 58) dX8_pairs_55 (by decide) rfl ?_
            refine xr_goto (n := 81) dX8_pairs_58 (by decide) ?_
            refine xr_ireturn dX8_pairs_81 rfl rfl rfl ?_
            refine qi (hq wn ν hw6 rfl h5 hfr) ?_
            unfold prV
            rw [if_neg (by ((try simp (disch := omega) only [i_lt, i_le, i_eq, nt, i_m1, Int32.toInt_zero] at *); omega)), if_neg (by ((try simp (disch := omega) only [i_lt, i_le, i_eq, nt, i_m1, Int32.toInt_zero] at *); omega))]
            have e0 : pmA (RP N P a b 0) (RP N P a b 1) = pmA (runD (N 0) (P 0) a b) (runD (N 1) (P 1) a b) := rfl
            rw [e0]
            first | (rw [if_pos (by ((try simp (disch := omega) only [i_lt, i_le, i_eq, nt, i_m1, Int32.toInt_zero] at *); omega))]; done) | (rw [if_neg (by ((try simp (disch := omega) only [i_lt, i_le, i_eq, nt, i_m1, Int32.toInt_zero] at *); omega)), if_pos (by ((try simp (disch := omega) only [i_lt, i_le, i_eq, nt, i_m1, Int32.toInt_zero] at *); omega))]; rfl) | (rw [if_neg (by ((try simp (disch := omega) only [i_lt, i_le, i_eq, nt, i_m1, Int32.toInt_zero] at *); omega)), if_neg (by ((try simp (disch := omega) only [i_lt, i_le, i_eq, nt, i_m1, Int32.toInt_zero] at *); omega)), fin_ld h0 h1 (by ((try simp (disch := omega) only [i_lt, i_le, i_eq, nt, i_m1, Int32.toInt_zero] at *); omega))]; rfl)
        · refine xr_aload_n (n := 46) dX8_pairs_45 rfl rfl ?_
          refine xr_callV (y2 := mX8_allEqual) (As := []) (n := 49) dX8_pairs_46 lm_X8_195 pm_X8_allEqual pi_X8_allEqual (by first | exact mput_0 _ _ _ | exact mput_r (by decide)) rfl rfl rfl (by simp [Value.category]) rfl ⟨Nat.le_refl _, Nat.le_refl _⟩ ?_
          refine s_X8_allEqual h0 h1 ?_
          dsimp only [xK, xps]
          refine xr_ireturn dX8_pairs_49 rfl rfl rfl ?_
          refine qi (hq wn ν hw6 rfl h5 hfr) ?_
          unfold prV
          rw [if_neg (by ((try simp (disch := omega) only [i_lt, i_le, i_eq, nt, i_m1, Int32.toInt_zero] at *); omega)), if_pos (by ((try simp (disch := omega) only [i_lt, i_le, i_eq, nt, i_m1, Int32.toInt_zero] at *); omega))]
          rfl
      · refine xr_iload (n := 39) dX8_pairs_37 rfl rfl ?_
        refine xr_ireturn dX8_pairs_39 rfl rfl rfl ?_
        refine qi (hq wn ν hw6 rfl h5 hfr) ?_
        unfold prV
        rw [if_pos (by ((try simp (disch := omega) only [i_lt, i_le, i_eq, nt, i_m1, Int32.toInt_zero] at *); omega))]
        rfl
    · refine xr_sipush (v := (-10001)) (n := 20) dX8_pairs_17 (by decide) rfl ?_
      refine xr_ireturn dX8_pairs_20 rfl rfl rfl ?_
      first | exact hq0 (fun q => h5 q.1) | exact hq0 (fun q => h14 q.2)

theorem s_X8_equal {G : xG} {d : Nat} {f : Nat → xC} {r : Nat × Nat} {Q : Option Value → xM → Prop} {m : Nat} {μ : xS} {a b c : Int32} {N : Nat → Nat} {P : Nat → Nat → Nat → Nat} (hN : msP μ N P) (hq0 : ¬ (((-999 ≤ a.toInt ∧ a.toInt ≤ 999) ∧ (-999 ≤ b.toInt ∧ b.toInt ≤ 999)) ∧ (0 ≤ c.toInt ∧ c.toInt ≤ 5)) → Q (some (.int (-10001))) (mput f m μ, r)) (hq : ∀ (cn : Nat) (ν : xS), cn ≤ 5 → c = nI cn → inpt a b → frm μ ν → Q (some (.int (eqv (RP N P a b 0) (RP N P a b 1) cn 6))) (mput f m ν, r)) : xMet G (d + 6) mX8_equal [.ref m, .int a, .int b, .int c] (mput f m μ, r) r Q := by
  refine xMet_0 (by decide +kernel) rfl (Nat.le_of_ble_eq_true rfl) ?_
  show xX G (d + 6) mX8_equal r r (xΦ G r r Q) 0 [(0, .ref m), (1, .int a), (2, .int b), (3, .int c)] [] (mput f m μ, r)
  refine xr_iload_n (n := 1) dX8_equal_0 rfl rfl ?_
  refine xr_iload_n (n := 2) dX8_equal_1 rfl rfl ?_
  refine xr_callS (y2 := mX8_isInput) (As := [_, _]) (n := 5) dX8_equal_2 lm_X8_171 pm_X8_isInput kp_static_yX8_isInput rfl rfl (by simp [Value.category]) rfl ⟨Nat.le_refl _, Nat.le_refl _⟩ ?_
  refine s_X8_isInput ?_
  dsimp only [xK, xps]
  refine xr_beq (tgt := 15) (n := 8) dX8_equal_5 (by decide) rfl (fun h5 => ?_) (fun h5 => ?_)
  · refine xr_sipush (v := (-10001)) (n := 18) dX8_equal_15 (by decide) rfl ?_
    refine xr_ireturn dX8_equal_18 rfl rfl rfl ?_
    first | exact hq0 (fun q => h5 q.1) | exact hq0 (fun q => h12 q.2)
  · refine xr_iload_n (n := 9) dX8_equal_8 rfl rfl ?_
    refine xr_callS (y2 := mX8_isCell) (As := [_]) (n := 12) dX8_equal_9 lm_X8_180 pm_X8_isCell kp_static_yX8_isCell rfl rfl (by simp [Value.category]) rfl ⟨Nat.le_refl _, Nat.le_refl _⟩ ?_
    refine s_X8_isCell ?_
    dsimp only [xK, xps]
    refine xr_bne (tgt := 19) (n := 15) dX8_equal_12 (by decide) rfl (fun h12 => ?_) (fun h12 => ?_)
    · obtain ⟨cn, hcn, rfl⟩ := k_of h12.1
      have hc6 : cn ≤ 5 := by ((try simp (disch := omega) only [i_lt, i_le, i_eq, nt, i_m1, Int32.toInt_zero] at *); omega)
      refine xr_aload_n (n := 20) dX8_equal_19 rfl rfl ?_
      refine xr_iload_n (n := 21) dX8_equal_20 rfl rfl ?_
      refine xr_iload_n (n := 22) dX8_equal_21 rfl rfl ?_
      refine xr_callV (y2 := mX8_runsBoth) (As := [_, _]) (n := 25) dX8_equal_22 lm_X8_192 pm_X8_runsBoth pi_X8_runsBoth (by first | exact mput_0 _ _ _ | exact mput_r (by decide)) rfl rfl rfl (by simp [Value.category]) rfl ⟨Nat.le_refl _, Nat.le_refl _⟩ ?_
      refine s_X8_runsBoth (hN 0 (by omega)).1 (hN 0 (by omega)).2 (hN 1 (by omega)).1 (hN 1 (by omega)).2 (fun ν t mk rd mo tl t1 mk1 rd1 mo1 tl1 hfr h0 h1 => ?_)
      dsimp only [xK, xps]
      refine xr_aload_n (n := 26) dX8_equal_25 rfl rfl ?_
      refine xr_iload_n (n := 27) dX8_equal_26 rfl rfl ?_
      refine xr_callV (y2 := mX8_equalTo) (As := [_]) (n := 30) dX8_equal_27 lm_X8_201 pm_X8_equalTo pi_X8_equalTo (by first | exact mput_0 _ _ _ | exact mput_r (by decide)) rfl rfl rfl (by simp [Value.category]) rfl ⟨Nat.le_refl _, Nat.le_refl _⟩ ?_
      refine s_X8_equalTo (by omega) h0 h1 ?_
      dsimp only [xK, xps]
      refine xr_ireturn dX8_equal_30 rfl rfl rfl ?_
      exact hq cn ν hc6 rfl h5 hfr
    · refine xr_sipush (v := (-10001)) (n := 18) dX8_equal_15 (by decide) rfl ?_
      refine xr_ireturn dX8_equal_18 rfl rfl rfl ?_
      first | exact hq0 (fun q => h5 q.1) | exact hq0 (fun q => h12 q.2)

theorem s_X8_difference {G : xG} {d : Nat} {f : Nat → xC} {r : Nat × Nat} {Q : Option Value → xM → Prop} {m : Nat} {μ : xS} {a b : Int32} {N : Nat → Nat} {P : Nat → Nat → Nat → Nat} (hN : msP μ N P) (hq0 : ¬ ((-999 ≤ a.toInt ∧ a.toInt ≤ 999) ∧ (-999 ≤ b.toInt ∧ b.toInt ≤ 999)) → Q (some (.int (-10001))) (mput f m μ, r)) (hq : ∀ (ν : xS), inpt a b → frm μ ν → Q (some (.int (fdv (RP N P a b 0) (RP N P a b 1)))) (mput f m ν, r)) : xMet G (d + 6) mX8_difference [.ref m, .int a, .int b] (mput f m μ, r) r Q := by
  refine xMet_0 (by decide +kernel) rfl (Nat.le_of_ble_eq_true rfl) ?_
  show xX G (d + 6) mX8_difference r r (xΦ G r r Q) 0 [(0, .ref m), (1, .int a), (2, .int b)] [] (mput f m μ, r)
  refine xr_iload_n (n := 1) dX8_difference_0 rfl rfl ?_
  refine xr_iload_n (n := 2) dX8_difference_1 rfl rfl ?_
  refine xr_callS (y2 := mX8_isInput) (As := [_, _]) (n := 5) dX8_difference_2 lm_X8_171 pm_X8_isInput kp_static_yX8_isInput rfl rfl (by simp [Value.category]) rfl ⟨Nat.le_refl _, Nat.le_refl _⟩ ?_
  refine s_X8_isInput ?_
  dsimp only [xK, xps]
  refine xr_bne (tgt := 12) (n := 8) dX8_difference_5 (by decide) rfl (fun h5 => ?_) (fun h5 => ?_)
  · have hab : ((-999 ≤ a.toInt ∧ a.toInt ≤ 999) ∧ (-999 ≤ b.toInt ∧ b.toInt ≤ 999)) := h5
    refine xr_aload_n (n := 13) dX8_difference_12 rfl rfl ?_
    refine xr_iload_n (n := 14) dX8_difference_13 rfl rfl ?_
    refine xr_iload_n (n := 15) dX8_difference_14 rfl rfl ?_
    refine xr_callV (y2 := mX8_runsBoth) (As := [_, _]) (n := 18) dX8_difference_15 lm_X8_192 pm_X8_runsBoth pi_X8_runsBoth (by first | exact mput_0 _ _ _ | exact mput_r (by decide)) rfl rfl rfl (by simp [Value.category]) rfl ⟨Nat.le_refl _, Nat.le_refl _⟩ ?_
    refine s_X8_runsBoth (hN 0 (by omega)).1 (hN 0 (by omega)).2 (hN 1 (by omega)).1 (hN 1 (by omega)).2 (fun ν t mk rd mo tl t1 mk1 rd1 mo1 tl1 hfr h0 h1 => ?_)
    dsimp only [xK, xps]
    refine xr_aload_n (n := 19) dX8_difference_18 rfl rfl ?_
    refine xr_callV (y2 := mX8_firstDifference) (As := []) (n := 22) dX8_difference_19 lm_X8_204 pm_X8_firstDifference pi_X8_firstDifference (by first | exact mput_0 _ _ _ | exact mput_r (by decide)) rfl rfl rfl (by simp [Value.category]) rfl ⟨Nat.le_refl _, Nat.le_refl _⟩ ?_
    refine s_X8_firstDifference h0 h1 (no_none (bd_D hab)) (no_none (bd_D hab)) ?_
    dsimp only [xK, xps]
    refine xr_ireturn dX8_difference_22 rfl rfl rfl ?_
    exact hq ν h5 hfr
  · refine xr_sipush (v := (-10001)) (n := 11) dX8_difference_8 (by decide) rfl ?_
    refine xr_ireturn dX8_difference_11 rfl rfl rfl ?_
    exact hq0 h5

theorem s_X8_agreeOn {G : xG} {d : Nat} {f : Nat → xC} {r : Nat × Nat} {Q : Option Value → xM → Prop} {m : Nat} {μ : xS} {a b : Int32} {N : Nat → Nat} {P : Nat → Nat → Nat → Nat} (hN : msP μ N P) (hab : inpt a b) (hq : ∀ (ν : xS), frm μ ν → Q (some (.int (b2i (agP (N 0) (N 1) (RP N P a b 0) (RP N P a b 1))))) (mput f m ν, r)) : xMet G (d + 6) mX8_agreeOn [.ref m, .int a, .int b] (mput f m μ, r) r Q := by
  refine xMet_0 (by decide +kernel) rfl (Nat.le_of_ble_eq_true rfl) ?_
  show xX G (d + 6) mX8_agreeOn r r (xΦ G r r Q) 0 [(0, .ref m), (1, .int a), (2, .int b)] [] (mput f m μ, r)
  refine xr_aload_n (n := 1) dX8_agreeOn_0 rfl rfl ?_
  refine xr_iload_n (n := 2) dX8_agreeOn_1 rfl rfl ?_
  refine xr_iload_n (n := 3) dX8_agreeOn_2 rfl rfl ?_
  refine xr_callV (y2 := mX8_runsBoth) (As := [_, _]) (n := 6) dX8_agreeOn_3 lm_X8_192 pm_X8_runsBoth pi_X8_runsBoth (by first | exact mput_0 _ _ _ | exact mput_r (by decide)) rfl rfl rfl (by simp [Value.category]) rfl ⟨Nat.le_refl _, Nat.le_refl _⟩ ?_
  refine s_X8_runsBoth (hN 0 (by omega)).1 (hN 0 (by omega)).2 (hN 1 (by omega)).1 (hN 1 (by omega)).2 (fun ν t mk rd mo tl t1 mk1 rd1 mo1 tl1 hfr h0 h1 => ?_)
  dsimp only [xK, xps]
  have n02 : ν 13 2 = nI tl := h0.2.1.2.2.1
  have n12 : ν 13 8 = nI tl1 := h1.2.1.2.2.1
  have n01 : ν 13 1 = cutD (N 0) (RP N P a b 0) := h0.2.1.2.1
  have n11 : ν 13 7 = cutD (N 1) (RP N P a b 1) := h1.2.1.2.1
  have c0 : (RP N P a b 0).2 9 0 = nI tl := h0.1.2.2.2.2.1
  have c1 : (RP N P a b 1).2 9 0 = nI tl1 := h1.1.2.2.2.2.1
  refine xr_aload_n (n := 7) dX8_agreeOn_6 rfl rfl ?_
  refine xr_get (n := 10) dX8_agreeOn_7 fl_X8_40 (by first | exact mput_0 _ _ _ | exact mput_r (by decide)) (by rfl) rfl ?_
  refine xr_iconst (v := nI 1) (n := 11) dX8_agreeOn_10 (by decide) rfl ?_
  refine xr_iaload (n := 12) dX8_agreeOn_11 (by first | exact mput_0 _ _ _ | exact mput_r (by decide)) (by first | exact vp_in_nI (by omega) (by omega)) rfl ?_
  try simp (disch := omega) only [nI_clamp, pk_mul, nI_add, oi1, up2_a, ur_a, Nat.reduceEqDiff, Nat.reduceMul, Nat.reduceAdd, reduceIte, if_pos, if_neg]
  rw [n01]
  refine xr_if_ne (tgt := 55) (n := 15) dX8_agreeOn_12 (by decide) rfl (fun h12 => ?_) (fun h12 => ?_)
  · refine xr_iconst (v := nI 0) (n := 56) dX8_agreeOn_55 (by decide) rfl ?_
    refine xr_ireturn dX8_agreeOn_56 rfl (by first | exact b2i_nar | exact nar_1 | exact nar_0) rfl ?_
    refine qi (hq ν hfr) ?_
    first | exact b2i_t ⟨by assumption, by assumption, by assumption, by assumption⟩ | exact b2i_f (fun q => absurd q.1 (by assumption)) | exact b2i_f (fun q => absurd q.2.1 (by assumption)) | exact b2i_f (fun q => absurd q.2.2.1 (by assumption)) | exact b2i_f (fun q => absurd q.2.2.2 (by assumption)) | trace_state
  · refine xr_aload_n (n := 16) dX8_agreeOn_15 rfl rfl ?_
    refine xr_get (n := 19) dX8_agreeOn_16 fl_X8_40 (by first | exact mput_0 _ _ _ | exact mput_r (by decide)) (by rfl) rfl ?_
    refine xr_bipush (v := nI 7) (n := 21) dX8_agreeOn_19 (by decide) rfl ?_
    refine xr_iaload (n := 22) dX8_agreeOn_21 (by first | exact mput_0 _ _ _ | exact mput_r (by decide)) (by first | exact vp_in_nI (by omega) (by omega)) rfl ?_
    try simp (disch := omega) only [nI_clamp, pk_mul, nI_add, oi1, up2_a, ur_a, Nat.reduceEqDiff, Nat.reduceMul, Nat.reduceAdd, reduceIte, if_pos, if_neg]
    rw [n11]
    refine xr_if_ne (tgt := 55) (n := 25) dX8_agreeOn_22 (by decide) rfl (fun h22 => ?_) (fun h22 => ?_)
    · refine xr_iconst (v := nI 0) (n := 56) dX8_agreeOn_55 (by decide) rfl ?_
      refine xr_ireturn dX8_agreeOn_56 rfl (by first | exact b2i_nar | exact nar_1 | exact nar_0) rfl ?_
      refine qi (hq ν hfr) ?_
      first | exact b2i_t ⟨by assumption, by assumption, by assumption, by assumption⟩ | exact b2i_f (fun q => absurd q.1 (by assumption)) | exact b2i_f (fun q => absurd q.2.1 (by assumption)) | exact b2i_f (fun q => absurd q.2.2.1 (by assumption)) | exact b2i_f (fun q => absurd q.2.2.2 (by assumption)) | trace_state
    · refine xr_aload_n (n := 26) dX8_agreeOn_25 rfl rfl ?_
      refine xr_get (n := 29) dX8_agreeOn_26 fl_X8_40 (by first | exact mput_0 _ _ _ | exact mput_r (by decide)) (by rfl) rfl ?_
      refine xr_iconst (v := nI 2) (n := 30) dX8_agreeOn_29 (by decide) rfl ?_
      refine xr_iaload (n := 31) dX8_agreeOn_30 (by first | exact mput_0 _ _ _ | exact mput_r (by decide)) (by first | exact vp_in_nI (by omega) (by omega)) rfl ?_
      try simp (disch := omega) only [nI_clamp, pk_mul, nI_add, oi1, up2_a, ur_a, Nat.reduceEqDiff, Nat.reduceMul, Nat.reduceAdd, reduceIte, if_pos, if_neg]
      rw [n02, ← c0]
      refine xr_aload_n (n := 32) dX8_agreeOn_31 rfl rfl ?_
      refine xr_get (n := 35) dX8_agreeOn_32 fl_X8_40 (by first | exact mput_0 _ _ _ | exact mput_r (by decide)) (by rfl) rfl ?_
      refine xr_bipush (v := nI 8) (n := 37) dX8_agreeOn_35 (by decide) rfl ?_
      refine xr_iaload (n := 38) dX8_agreeOn_37 (by first | exact mput_0 _ _ _ | exact mput_r (by decide)) (by first | exact vp_in_nI (by omega) (by omega)) rfl ?_
      try simp (disch := omega) only [nI_clamp, pk_mul, nI_add, oi1, up2_a, ur_a, Nat.reduceEqDiff, Nat.reduceMul, Nat.reduceAdd, reduceIte, if_pos, if_neg]
      rw [n12, ← c1]
      refine xr_icmp_ne (tgt := 55) (n := 41) dX8_agreeOn_38 (by decide) rfl (fun h38 => ?_) (fun h38 => ?_)
      · refine xr_iconst (v := nI 0) (n := 56) dX8_agreeOn_55 (by decide) rfl ?_
        refine xr_ireturn dX8_agreeOn_56 rfl (by first | exact b2i_nar | exact nar_1 | exact nar_0) rfl ?_
        refine qi (hq ν hfr) ?_
        first | exact b2i_t ⟨by assumption, by assumption, by assumption, by assumption⟩ | exact b2i_f (fun q => absurd q.1 (by assumption)) | exact b2i_f (fun q => absurd q.2.1 (by assumption)) | exact b2i_f (fun q => absurd q.2.2.1 (by assumption)) | exact b2i_f (fun q => absurd q.2.2.2 (by assumption)) | trace_state
      · refine xr_aload_n (n := 42) dX8_agreeOn_41 rfl rfl ?_
        refine xr_callV (y2 := mX8_firstDifference) (As := []) (n := 45) dX8_agreeOn_42 lm_X8_204 pm_X8_firstDifference pi_X8_firstDifference (by first | exact mput_0 _ _ _ | exact mput_r (by decide)) rfl rfl rfl (by simp [Value.category]) rfl ⟨Nat.le_refl _, Nat.le_refl _⟩ ?_
        refine s_X8_firstDifference h0 h1 (no_none (bd_D hab)) (no_none (bd_D hab)) ?_
        dsimp only [xK, xps]
        refine xr_sipush (v := (-10009)) (n := 48) dX8_agreeOn_45 (by decide) rfl ?_
        refine xr_icmp_ne (tgt := 55) (n := 51) dX8_agreeOn_48 (by decide) rfl (fun h48 => ?_) (fun h48 => ?_)
        · refine xr_iconst (v := nI 0) (n := 56) dX8_agreeOn_55 (by decide) rfl ?_
          refine xr_ireturn dX8_agreeOn_56 rfl (by first | exact b2i_nar | exact nar_1 | exact nar_0) rfl ?_
          refine qi (hq ν hfr) ?_
          first | exact b2i_t ⟨by assumption, by assumption, by assumption, by assumption⟩ | exact b2i_f (fun q => absurd q.1 (by assumption)) | exact b2i_f (fun q => absurd q.2.1 (by assumption)) | exact b2i_f (fun q => absurd q.2.2.1 (by assumption)) | exact b2i_f (fun q => absurd q.2.2.2 (by assumption)) | trace_state
        · refine xr_iconst (v := nI 1) (n := 52) dX8_agreeOn_51 (by decide) rfl ?_
          refine xr_goto (n := 56) dX8_agreeOn_52 (by decide) ?_
          refine xr_ireturn dX8_agreeOn_56 rfl (by first | exact b2i_nar | exact nar_1 | exact nar_0) rfl ?_
          refine qi (hq ν hfr) ?_
          first | exact b2i_t ⟨by assumption, by assumption, by assumption, by assumption⟩ | exact b2i_f (fun q => absurd q.1 (by assumption)) | exact b2i_f (fun q => absurd q.2.1 (by assumption)) | exact b2i_f (fun q => absurd q.2.2.1 (by assumption)) | exact b2i_f (fun q => absurd q.2.2.2 (by assumption)) | trace_state
