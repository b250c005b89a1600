def d0 (a b : Int32) : xS := fun i j => if i = 1 then (if j = 0 then a else if j = 1 then b else nI 0) else nI 0
def runD (n : Nat) (P : Nat → Nat → Nat) (a b : Int32) : Nat × xS := arun n P 400 0 (d0 a b)
/-- side sd's rows say what the run that ended at e with δ did -/
def simF (μ : xS) (sd n e : Nat) (δ : xS) : Prop := ∃ t mk rd mo tl μ1, adC δ t mk rd mo tl ∧ simD μ1 sd δ t mk rd mo tl ∧ μ = if e < n then up2 μ1 13 (6 * sd + 1) (nI 1) else μ1
theorem arun_end {n : Nat} {P : Nat → Nat → Nat} {g s : Nat} {δ : xS} (h : ¬ s < n) : arun n P g s δ = (s, δ) := by
  cases g with
  | zero => rfl
  | succ g => exact if_neg h
theorem arun_step {n : Nat} {P : Nat → Nat → Nat} {t s : Nat} {δ : xS} (ht : t < 400) (h : s < n) : arun n P (400 - t) s δ = arun n P (400 - (t + 1)) (anext P s δ) (ainc (adata P s δ)) := by
  have e : 400 - t = (400 - (t + 1)) + 1 := by omega
  rw [e]
  exact if_pos h
def gini (a b : Int32) : Nat → Int32 := fun j => if j = 0 then a else if j = 1 then b else nI 0
def minit (μ : xS) (sd : Nat) (a b : Int32) (k : Nat) : xS := ur (ur μ 13 (fo (fun _ => nI 0) (μ 13) (6 * sd) k)) 9 (fo (gini a b) (μ 9) (6 * sd) k)
theorem minit_0 (μ : xS) (sd : Nat) (a b : Int32) : minit μ sd a b 0 = μ := by
  unfold minit
  rw [ur_fo0]
  exact ur_fo0
theorem minit_s {μ : xS} {sd k : Nat} {a b v : Int32} (hv : v = gini a b k) : up2 (up2 (minit μ sd a b k) 13 (6 * sd + k) (nI 0)) 9 (6 * sd + k) v = minit μ sd a b (k + 1) := by
  unfold minit
  rw [← ur_fo (v := v) hv]
  rw [← ur_fo (g := fun _ => nI 0) (v := nI 0) rfl]
  funext x z
  simp only [up2_a, ur_a]
  by_cases h9 : x = 9
  · subst h9
    simp (disch := omega) only [if_pos, if_neg]
  · by_cases h13 : x = 13
    · subst h13
      simp (disch := omega) only [if_pos, if_neg]
    · simp (disch := omega) only [if_neg]
theorem minit_sim (μ : xS) (sd : Nat) (a b : Int32) : simD (minit μ sd a b 6) sd (d0 a b) 0 0 0 0 0 := by
  have h13 : ∀ i, i < 6 → minit μ sd a b 6 13 (6 * sd + i) = nI 0 := fun i hi => by
    unfold minit
    rw [ur_n _ _ (by omega), ur_s, fo_in (by omega) (by omega)]
  refine ⟨⟨h13 0 (by omega), h13 1 (by omega), h13 2 (by omega), h13 3 (by omega), h13 4 (by omega), h13 5 (by omega)⟩, fun i hi => ?_, fun i hi => by omega, fun i hi => by omega⟩
  unfold minit
  rw [ur_s, fo_in (by omega) (by omega), Nat.add_sub_cancel_left]
  rfl
theorem minit_oth (μ : xS) (sd : Nat) (a b : Int32) : othS μ (minit μ sd a b 6) sd := by
  have hw : ∀ w, w ≠ 9 → w ≠ 13 → minit μ sd a b 6 w = μ w := fun w h9 h13 => by
    unfold minit
    rw [ur_n _ _ h9, ur_n _ _ h13]
  refine ⟨fun w h => hw w (by omega) (by omega), fun od ho hn => ⟨fun i hi => ?_, fun i hi => by rw [hw _ (by omega) (by omega)], fun i hi => by rw [hw _ (by omega) (by omega)], fun i hi => by rw [hw _ (by omega) (by omega)], fun i hi => ?_⟩⟩
  · unfold minit
    rw [ur_s, fo_out (by omega)]
  · unfold minit
    rw [ur_n _ _ (by omega), ur_s, fo_out (by omega)]
theorem minit_RI {n sd : Nat} {P : Nat → Nat → Nat} (μ : xS) (a b : Int32) : RIx n P μ sd (fun _ => (0, 0)) 0 0 0 0 (d0 a b) 0 0 0 0 0 (minit μ sd a b 6) := by
  refine ⟨⟨rfl, rfl, rfl, rfl, rfl, by omega, by omega, by omega, by omega, by omega, fun k => ⟨0, by omega, rfl⟩⟩, minit_sim μ sd a b, minit_oth μ sd a b, fun i hi => by omega, fun k _ => rfl, fun _ => ⟨⟨Nat.zero_le _, fun _ => rfl⟩, rfl⟩, fun e => by omega⟩
/-- where neither a frame's part nor the program ends -/
theorem RI_lt {n : Nat} {P : Nat → Nat → Nat} {μ0 μ δ : xS} {sd : Nat} {fr : Nat → Nat × Nat} {dp s at_ t mk rd mo tl : Nat} (hO : okP n P) (h : RIx n P μ0 sd fr dp s 0 at_ δ t mk rd mo tl μ) (hp : ∀ d, dp = d + 1 → s ≠ (fr d).2) : (s ≠ n → s < topB n fr dp) ∧ (s = n → at_ = n) := by
  obtain ⟨-, -, -, -, -, hA, -⟩ := h
  obtain ⟨hst, hat⟩ := hA rfl
  have hle := stk_le hO hst
  cases dp with
  | zero =>
    refine ⟨fun hn => ?_, fun hn => ?_⟩
    · have h1 : s ≤ n := hle.1
      show s < n
      omega
    · rw [hat, hn]; rfl
  | succ d =>
    have h1 : s ≤ (fr d).2 := hle.1
    have h2 : (fr d).2 ≤ n := hle.2
    have h3 := hp d rfl
    refine ⟨fun _ => ?_, fun hn => ?_⟩
    · show s < (fr d).2
      omega
    · omega
theorem me_s {t dp dq ag N : Nat} (hN : (400 - t) * 16 + 2 * dp + (1 - ag) < N + 1) (ht : t < 400) (hd : dq ≤ dp + 1) : (400 - (t + 1)) * 16 + 2 * dq + (1 - 0) < N := by omega
theorem s_X8_runs_l {G : xG} {d : Nat} {f : Nat → xC} {r : Nat × Nat} {Q : Option Value → xM → Prop} {m : Nat} {μ0 : xS} {sd n : Nat} {P : Nat → Nat → Nat} {a b : Int32} {e9 : Nat} {δ9 : xS} (hsd : sd ≤ 1) (hP : isPg (μ0 5) n P) (hW : wfP n P) (hq : ∀ ν, othS μ0 ν sd → simF ν sd n e9 δ9 → Q none (mput f m ν, r)) : ∀ (N : Nat) (fr : Nat → Nat × Nat) (dp s ag at_ : Nat) (δ : xS) (t mk rd mo tl : Nat) (μ : xS), (400 - t) * 16 + 2 * dp + (1 - ag) < N → (ag = 0 ∨ ag = 1) → dp ≤ 5 → RIx n P μ0 sd fr dp s ag at_ δ t mk rd mo tl μ → arun n P (400 - t) at_ δ = (e9, δ9) → xX G (d + 3) mX8_runs r r (xΦ G r r Q) 73 [(0, .ref m), (1, .int (nI sd)), (2, .int a), (3, .int b), (4, .int (nI dp)), (5, .int (nI s)), (6, .int (nI ag)), (7, .int (nI 1))] [] (mput f m μ, r) := by
  intro N
  induction N with
  | zero => intro fr dp s ag at_ δ t mk rd mo tl μ hN; omega
  | succ N ih =>
    intro fr dp s ag at_ δ t mk rd mo tl μ hN hag hdp hI hR
    obtain ⟨hC, hM, hT, hK, hR0, hA0, hA1⟩ := id hI
    obtain ⟨c5, c6, c7, c8, c9, b6, b7, b8, b9, bt, c4⟩ := hC
    obtain ⟨⟨m0, m1, m2, m3, m4, m5⟩, mc, mt, mm⟩ := id hM
    have hP5 : μ 5 = μ0 5 := hT.1 5 (by omega)
    have hPm : isPg (μ 5) n P := by rw [hP5]; exact hP
    have hn0 := hPm.1
    have hn6 := hW.1.1
    have hT2 := hT
    rcases hag with rfl | rfl
    · refine xr_iload (n := 75) dX8_runs_73 rfl rfl ?_
      refine xr_if_eq (tgt := 498) (n := 78) dX8_runs_75 (by decide) rfl (fun h75 => by (exfalso; revert h75; decide)) (fun h75 => ?_)
      refine xr_iload (n := 80) dX8_runs_78 rfl rfl ?_
      refine xr_if_le (tgt := 169) (n := 83) dX8_runs_80 (by decide) rfl (fun h80 => ?_) (fun h80 => ?_)
      · have hd0 : dp = 0 := by ((try simp (disch := omega) only [i_lt, i_le, i_eq, nt, i_m1, Int32.toInt_zero] at *); omega)
        have hpop : ∀ d, dp = d + 1 → s ≠ (fr d).2 := fun d hd => by omega
        have hsb : s ≤ n := by have := stk_le hW.1 (hA0 rfl).1; omega
        refine xr_iload (n := 171) dX8_runs_169 rfl rfl ?_
        refine xr_aload_n (n := 172) dX8_runs_171 rfl rfl ?_
        refine xr_get (n := 175) dX8_runs_172 fl_X8_19 (by first | exact mput_0 _ _ _ | exact mput_r (by decide)) (by rfl) rfl ?_
        refine xr_iconst (v := nI 0) (n := 176) dX8_runs_175 (by decide) rfl ?_
        refine xr_iaload (n := 177) dX8_runs_176 (by first | exact mput_0 _ _ _ | exact mput_r (by decide)) (by first | exact vp_in_nI (by omega) (by omega)) rfl ?_
        (first | (simp (disch := omega) only [nI_clamp, pk_mul, nI_add, oi1, up2_ss, up2_n, up2_sn, ur_s, ur_n, Nat.reduceMul, Nat.reduceAdd, Nat.add_zero, pk_sub, pk_m1, Nat.add_sub_cancel, hn0, m0, p1, p2, u0, u6, g0, g1, g5, g6, mc1]) | (simp (disch := omega) only [nI_clamp, pk_mul, nI_add, oi1, up2_ss, up2_n, up2_sn, ur_s, ur_n, Nat.reduceMul, Nat.reduceAdd, Nat.add_zero, pk_sub, pk_m1, Nat.add_sub_cancel, hn0, m0, p1, p2, u0, u6]) | (simp (disch := omega) only [nI_clamp, pk_mul, nI_add, oi1, up2_ss, up2_n, up2_sn, ur_s, ur_n, Nat.reduceMul, Nat.reduceAdd, Nat.add_zero, pk_sub, pk_m1, Nat.add_sub_cancel, hn0, m0, g0, g1, g5, g6, mc1]) | (simp (disch := omega) only [nI_clamp, pk_mul, nI_add, oi1, up2_ss, up2_n, up2_sn, ur_s, ur_n, Nat.reduceMul, Nat.reduceAdd, Nat.add_zero, pk_sub, pk_m1, Nat.add_sub_cancel, hn0, m0]) | skip)
        refine xr_icmp_ne (tgt := 186) (n := 180) dX8_runs_177 (by decide) rfl (fun h177 => ?_) (fun h177 => ?_)
        · have hsn9 : s ≠ n := by ((try simp (disch := omega) only [i_lt, i_le, i_eq, nt, i_m1, Int32.toInt_zero] at *); omega)
          have hlt := (RI_lt hW.1 hI hpop).1 hsn9
          have hsn := stk_lt hW.1 (hA0 rfl).1 hlt
          have hat9 : at_ = s := by rw [(hA0 rfl).2]; exact resP_lt hlt
          refine xr_aload_n (n := 187) dX8_runs_186 rfl rfl ?_
          refine xr_get (n := 190) dX8_runs_187 fl_X8_40 (by first | exact mput_0 _ _ _ | exact mput_r (by decide)) (by rfl) rfl ?_
          refine xr_bipush (v := nI 6) (n := 192) dX8_runs_190 (by decide) rfl ?_
          refine xr_iload_n (n := 193) dX8_runs_192 rfl rfl ?_
          refine xr_imul (n := 194) dX8_runs_193 rfl ?_
          (first | (simp (disch := omega) only [nI_clamp, pk_mul, nI_add, oi1, up2_ss, up2_n, up2_sn, ur_s, ur_n, Nat.reduceMul, Nat.reduceAdd, Nat.add_zero, pk_sub, pk_m1, Nat.add_sub_cancel, hn0, m0, p1, p2, u0, u6, g0, g1, g5, g6, mc1]) | (simp (disch := omega) only [nI_clamp, pk_mul, nI_add, oi1, up2_ss, up2_n, up2_sn, ur_s, ur_n, Nat.reduceMul, Nat.reduceAdd, Nat.add_zero, pk_sub, pk_m1, Nat.add_sub_cancel, hn0, m0, p1, p2, u0, u6]) | (simp (disch := omega) only [nI_clamp, pk_mul, nI_add, oi1, up2_ss, up2_n, up2_sn, ur_s, ur_n, Nat.reduceMul, Nat.reduceAdd, Nat.add_zero, pk_sub, pk_m1, Nat.add_sub_cancel, hn0, m0, g0, g1, g5, g6, mc1]) | (simp (disch := omega) only [nI_clamp, pk_mul, nI_add, oi1, up2_ss, up2_n, up2_sn, ur_s, ur_n, Nat.reduceMul, Nat.reduceAdd, Nat.add_zero, pk_sub, pk_m1, Nat.add_sub_cancel, hn0, m0]) | skip)
          refine xr_iaload (n := 195) dX8_runs_194 (by first | exact mput_0 _ _ _ | exact mput_r (by decide)) (by first | exact vp_in_nI (by omega) (by omega)) rfl ?_
          (first | (simp (disch := omega) only [nI_clamp, pk_mul, nI_add, oi1, up2_ss, up2_n, up2_sn, ur_s, ur_n, Nat.reduceMul, Nat.reduceAdd, Nat.add_zero, pk_sub, pk_m1, Nat.add_sub_cancel, hn0, m0, p1, p2, u0, u6, g0, g1, g5, g6, mc1]) | (simp (disch := omega) only [nI_clamp, pk_mul, nI_add, oi1, up2_ss, up2_n, up2_sn, ur_s, ur_n, Nat.reduceMul, Nat.reduceAdd, Nat.add_zero, pk_sub, pk_m1, Nat.add_sub_cancel, hn0, m0, p1, p2, u0, u6]) | (simp (disch := omega) only [nI_clamp, pk_mul, nI_add, oi1, up2_ss, up2_n, up2_sn, ur_s, ur_n, Nat.reduceMul, Nat.reduceAdd, Nat.add_zero, pk_sub, pk_m1, Nat.add_sub_cancel, hn0, m0, g0, g1, g5, g6, mc1]) | (simp (disch := omega) only [nI_clamp, pk_mul, nI_add, oi1, up2_ss, up2_n, up2_sn, ur_s, ur_n, Nat.reduceMul, Nat.reduceAdd, Nat.add_zero, pk_sub, pk_m1, Nat.add_sub_cancel, hn0, m0]) | skip)
          refine xr_sipush (v := nI 400) (n := 198) dX8_runs_195 (by decide) rfl ?_
          refine xr_icmp_ne (tgt := 219) (n := 201) dX8_runs_198 (by decide) rfl (fun h198 => ?_) (fun h198 => ?_)
          · have ht4 : t < 400 := by ((try simp (disch := omega) only [i_lt, i_le, i_eq, nt, i_m1, Int32.toInt_zero] at *); omega)
            obtain ⟨k0, k1, k2, k3, k4, k6, k5⟩ := hW.1.2 s hsn
            have g0 : μ 5 (1 + 7 * s) = nI (P s 0) := hPm.2 s 0 hsn (by omega)
            have g1 : μ 5 (1 + 7 * s + 1) = nI (P s 1) := hPm.2 s 1 hsn (by omega)
            have g5 : μ 5 (1 + 7 * s + 5) = nI (P s 5) := hPm.2 s 5 hsn (by omega)
            have g6 : μ 5 (1 + 7 * s + 6) = nI (P s 6) := hPm.2 s 6 hsn (by omega)
            have mc1 : μ 9 (6 * sd + P s 1) = δ 1 (P s 1) := mc _ k1
            have hRs := arun_step (P := P) (δ := δ) ht4 hsn
            rw [← hat9, hR] at hRs
            refine xr_aload_n (n := 220) dX8_runs_219 rfl rfl ?_
            refine xr_get (n := 223) dX8_runs_220 fl_X8_40 (by first | exact mput_0 _ _ _ | exact mput_r (by decide)) (by rfl) rfl ?_
            refine xr_bipush (v := nI 6) (n := 225) dX8_runs_223 (by decide) rfl ?_
            refine xr_iload_n (n := 226) dX8_runs_225 rfl rfl ?_
            refine xr_imul (n := 227) dX8_runs_226 rfl ?_
            (first | (simp (disch := omega) only [nI_clamp, pk_mul, nI_add, oi1, up2_ss, up2_n, up2_sn, ur_s, ur_n, Nat.reduceMul, Nat.reduceAdd, Nat.add_zero, pk_sub, pk_m1, Nat.add_sub_cancel, hn0, m0, p1, p2, u0, u6, g0, g1, g5, g6, mc1]) | (simp (disch := omega) only [nI_clamp, pk_mul, nI_add, oi1, up2_ss, up2_n, up2_sn, ur_s, ur_n, Nat.reduceMul, Nat.reduceAdd, Nat.add_zero, pk_sub, pk_m1, Nat.add_sub_cancel, hn0, m0, p1, p2, u0, u6]) | (simp (disch := omega) only [nI_clamp, pk_mul, nI_add, oi1, up2_ss, up2_n, up2_sn, ur_s, ur_n, Nat.reduceMul, Nat.reduceAdd, Nat.add_zero, pk_sub, pk_m1, Nat.add_sub_cancel, hn0, m0, g0, g1, g5, g6, mc1]) | (simp (disch := omega) only [nI_clamp, pk_mul, nI_add, oi1, up2_ss, up2_n, up2_sn, ur_s, ur_n, Nat.reduceMul, Nat.reduceAdd, Nat.add_zero, pk_sub, pk_m1, Nat.add_sub_cancel, hn0, m0]) | skip)
            refine xr_dup2 (n := 228) dX8_runs_227 rfl rfl rfl ?_
            refine xr_iaload (n := 229) dX8_runs_228 (by first | exact mput_0 _ _ _ | exact mput_r (by decide)) (by first | exact vp_in_nI (by omega) (by omega)) rfl ?_
            (first | (simp (disch := omega) only [nI_clamp, pk_mul, nI_add, oi1, up2_ss, up2_n, up2_sn, ur_s, ur_n, Nat.reduceMul, Nat.reduceAdd, Nat.add_zero, pk_sub, pk_m1, Nat.add_sub_cancel, hn0, m0, p1, p2, u0, u6, g0, g1, g5, g6, mc1]) | (simp (disch := omega) only [nI_clamp, pk_mul, nI_add, oi1, up2_ss, up2_n, up2_sn, ur_s, ur_n, Nat.reduceMul, Nat.reduceAdd, Nat.add_zero, pk_sub, pk_m1, Nat.add_sub_cancel, hn0, m0, p1, p2, u0, u6]) | (simp (disch := omega) only [nI_clamp, pk_mul, nI_add, oi1, up2_ss, up2_n, up2_sn, ur_s, ur_n, Nat.reduceMul, Nat.reduceAdd, Nat.add_zero, pk_sub, pk_m1, Nat.add_sub_cancel, hn0, m0, g0, g1, g5, g6, mc1]) | (simp (disch := omega) only [nI_clamp, pk_mul, nI_add, oi1, up2_ss, up2_n, up2_sn, ur_s, ur_n, Nat.reduceMul, Nat.reduceAdd, Nat.add_zero, pk_sub, pk_m1, Nat.add_sub_cancel, hn0, m0]) | skip)
            refine xr_iconst (v := nI 1) (n := 230) dX8_runs_229 (by decide) rfl ?_
            refine xr_iadd (n := 231) dX8_runs_230 rfl ?_
            (first | (simp (disch := omega) only [nI_clamp, pk_mul, nI_add, oi1, up2_ss, up2_n, up2_sn, ur_s, ur_n, Nat.reduceMul, Nat.reduceAdd, Nat.add_zero, pk_sub, pk_m1, Nat.add_sub_cancel, hn0, m0, p1, p2, u0, u6, g0, g1, g5, g6, mc1]) | (simp (disch := omega) only [nI_clamp, pk_mul, nI_add, oi1, up2_ss, up2_n, up2_sn, ur_s, ur_n, Nat.reduceMul, Nat.reduceAdd, Nat.add_zero, pk_sub, pk_m1, Nat.add_sub_cancel, hn0, m0, p1, p2, u0, u6]) | (simp (disch := omega) only [nI_clamp, pk_mul, nI_add, oi1, up2_ss, up2_n, up2_sn, ur_s, ur_n, Nat.reduceMul, Nat.reduceAdd, Nat.add_zero, pk_sub, pk_m1, Nat.add_sub_cancel, hn0, m0, g0, g1, g5, g6, mc1]) | (simp (disch := omega) only [nI_clamp, pk_mul, nI_add, oi1, up2_ss, up2_n, up2_sn, ur_s, ur_n, Nat.reduceMul, Nat.reduceAdd, Nat.add_zero, pk_sub, pk_m1, Nat.add_sub_cancel, hn0, m0]) | skip)
            refine xq_iastore (n := 232) dX8_runs_231 (by first | exact mput_0 _ _ _ | exact mput_r (by decide)) (by first | exact vp_in_nI (by omega) (by omega)) rfl ?_
            simp (disch := omega) only [nI_clamp, List.set, mw_0, mw_1, mw_2, mw_3, mw_4, mw_5, mw_6, mw_7, mw_8, mw_9, mw_10, mw_11, mw_12, mw_13, mw_14, mw_15, mw_16, mw_17, mw_18, mw_19]
            refine xr_aload_n (n := 233) dX8_runs_232 rfl rfl ?_
            refine xr_iload (n := 235) dX8_runs_233 rfl rfl ?_
            refine xr_iconst (v := nI 0) (n := 236) dX8_runs_235 (by decide) rfl ?_
            refine xr_callV (y2 := mX8_of) (As := [_, _]) (n := 239) dX8_runs_236 lm_X8_124 pm_X8_of pi_X8_of (by first | exact mput_0 _ _ _ | exact mput_r (by decide)) rfl rfl rfl (by simp [Value.category]) rfl ⟨Nat.le_refl _, Nat.le_refl _⟩ ?_
            refine s_X8_of (by omega) (by omega) ?_
            dsimp only [xK, xps]
            (first | (simp (disch := omega) only [nI_clamp, pk_mul, nI_add, oi1, up2_ss, up2_n, up2_sn, ur_s, ur_n, Nat.reduceMul, Nat.reduceAdd, Nat.add_zero, pk_sub, pk_m1, Nat.add_sub_cancel, hn0, m0, p1, p2, u0, u6, g0, g1, g5, g6, mc1]) | (simp (disch := omega) only [nI_clamp, pk_mul, nI_add, oi1, up2_ss, up2_n, up2_sn, ur_s, ur_n, Nat.reduceMul, Nat.reduceAdd, Nat.add_zero, pk_sub, pk_m1, Nat.add_sub_cancel, hn0, m0, p1, p2, u0, u6]) | (simp (disch := omega) only [nI_clamp, pk_mul, nI_add, oi1, up2_ss, up2_n, up2_sn, ur_s, ur_n, Nat.reduceMul, Nat.reduceAdd, Nat.add_zero, pk_sub, pk_m1, Nat.add_sub_cancel, hn0, m0, g0, g1, g5, g6, mc1]) | (simp (disch := omega) only [nI_clamp, pk_mul, nI_add, oi1, up2_ss, up2_n, up2_sn, ur_s, ur_n, Nat.reduceMul, Nat.reduceAdd, Nat.add_zero, pk_sub, pk_m1, Nat.add_sub_cancel, hn0, m0]) | skip)
            refine xr_istore (n := 241) dX8_runs_239 rfl rfl ?_
            simp only [xst, Nat.beq, List.filter, Bool.not_true, Bool.not_false]
            have hkc : P s 0 ≤ 2 ∨ P s 0 = 3 ∨ P s 0 = 4 := by omega
            rcases hkc with hk | hk | hk
            · refine xr_iload (n := 243) dX8_runs_241 rfl rfl ?_
              refine xr_iconst (v := nI 3) (n := 244) dX8_runs_243 (by decide) rfl ?_
              refine xr_icmp_lt (tgt := 271) (n := 247) dX8_runs_244 (by decide) rfl (fun h244 => ?_) (fun h244 => by (exfalso; ((try simp (disch := omega) only [i_lt, i_le, i_eq, nt, i_m1, Int32.toInt_zero] at *); omega)))
              refine xr_iconst (v := nI 0) (n := 272) dX8_runs_271 (by decide) rfl ?_
              refine xr_istore (n := 274) dX8_runs_272 rfl rfl ?_
              simp only [xst, Nat.beq, List.filter, Bool.not_true, Bool.not_false]
              refine xr_iload (n := 276) dX8_runs_274 rfl rfl ?_
              refine xr_iconst (v := nI 3) (n := 277) dX8_runs_276 (by decide) rfl ?_
              refine xr_icmp_ne (tgt := 408) (n := 280) dX8_runs_277 (by decide) rfl (fun h277 => ?_) (fun h277 => by (exfalso; ((try simp (disch := omega) only [i_lt, i_le, i_eq, nt, i_m1, Int32.toInt_zero] at *); omega)))
              refine xr_iload (n := 410) dX8_runs_408 rfl rfl ?_
              refine xr_iconst (v := nI 4) (n := 411) dX8_runs_410 (by decide) rfl ?_
              refine xr_icmp_ne (tgt := 480) (n := 414) dX8_runs_411 (by decide) rfl (fun h411 => ?_) (fun h411 => by (exfalso; ((try simp (disch := omega) only [i_lt, i_le, i_eq, nt, i_m1, Int32.toInt_zero] at *); omega)))
              refine xr_aload_n (n := 481) dX8_runs_480 rfl rfl ?_
              refine xr_iload_n (n := 482) dX8_runs_481 rfl rfl ?_
              refine xr_iload (n := 484) dX8_runs_482 rfl rfl ?_
              refine xr_iload (n := 486) dX8_runs_484 rfl rfl ?_
              refine xr_callV (y2 := mX8_does) (As := [_, _, _]) (n := 489) dX8_runs_486 lm_X8_156 pm_X8_does pi_X8_does (by first | exact mput_0 _ _ _ | exact mput_r (by decide)) rfl rfl rfl (by simp [Value.category]) rfl ⟨Nat.le_refl _, Nat.le_refl _⟩ ?_
              refine s_X8_does (n2 := tl) (n3 := mk) (st := t) hsd hPm hW.1 hsn hk (by first | assumption | rfl | (simp (disch := omega) only [up2_ss, up2_n, up2_sn]; first | done | assumption | rfl)) (by omega) (by first | assumption | rfl | (simp (disch := omega) only [up2_ss, up2_n, up2_sn]; first | done | assumption | rfl)) (by omega) (by first | rfl | assumption | simp (disch := omega) only [up2_ss]) (by omega) ?_
              dsimp only [xK, xps]
              refine xr_iinc (n := 492) dX8_runs_489 rfl rfl (rfl) rfl ?_
              simp only [xst, Nat.beq, List.filter, Bool.not_true, Bool.not_false]
              (first | (simp (disch := omega) only [nI_clamp, pk_mul, nI_add, oi1, up2_ss, up2_n, up2_sn, ur_s, ur_n, Nat.reduceMul, Nat.reduceAdd, Nat.add_zero, pk_sub, pk_m1, Nat.add_sub_cancel, g0, g1, g5, g6, mc1, m0, hn0]) | skip)
              refine xr_iconst (v := nI 0) (n := 493) dX8_runs_492 (by decide) rfl ?_
              refine xr_istore (n := 495) dX8_runs_493 rfl rfl ?_
              simp only [xst, Nat.beq, List.filter, Bool.not_true, Bool.not_false]
              refine xr_goto (n := 73) dX8_runs_495 (by decide) ?_
              refine xX.drop 8 ?_
              refine xX.drop 9 ?_
              simp only [xst, Nat.beq, List.filter, Bool.not_true, Bool.not_false]
              obtain ⟨-, -, mk9, tl9, hI9⟩ := RI_plain hW hI hlt hk ht4
              exact ih fr dp _ 0 _ _ _ _ _ _ _ _ (me_s hN ht4 (Nat.le_succ _)) (Or.inl rfl) hdp hI9 (by rw [← hat9]; first | exact hRs.symm | (rw [hat9]; rw [hat9] at hRs; exact hRs.symm))
            · refine xr_iload (n := 243) dX8_runs_241 rfl rfl ?_
              refine xr_iconst (v := nI 3) (n := 244) dX8_runs_243 (by decide) rfl ?_
              refine xr_icmp_lt (tgt := 271) (n := 247) dX8_runs_244 (by decide) rfl (fun h244 => by (exfalso; ((try simp (disch := omega) only [i_lt, i_le, i_eq, nt, i_m1, Int32.toInt_zero] at *); omega))) (fun h244 => ?_)
              refine xr_aload_n (n := 248) dX8_runs_247 rfl rfl ?_
              refine xr_get (n := 251) dX8_runs_248 fl_X8_28 (by first | exact mput_0 _ _ _ | exact mput_r (by decide)) (by rfl) rfl ?_
              refine xr_bipush (v := nI 6) (n := 253) dX8_runs_251 (by decide) rfl ?_
              refine xr_iload_n (n := 254) dX8_runs_253 rfl rfl ?_
              refine xr_imul (n := 255) dX8_runs_254 rfl ?_
              (first | (simp (disch := omega) only [nI_clamp, pk_mul, nI_add, oi1, up2_ss, up2_n, up2_sn, ur_s, ur_n, Nat.reduceMul, Nat.reduceAdd, Nat.add_zero, pk_sub, pk_m1, Nat.add_sub_cancel, g0, g1, g5, g6, mc1, m0, hn0]) | skip)
              refine xr_aload_n (n := 256) dX8_runs_255 rfl rfl ?_
              refine xr_iload (n := 258) dX8_runs_256 rfl rfl ?_
              refine xr_iconst (v := nI 1) (n := 259) dX8_runs_258 (by decide) rfl ?_
              refine xr_callV (y2 := mX8_of) (As := [_, _]) (n := 262) dX8_runs_259 lm_X8_124 pm_X8_of pi_X8_of (by first | exact mput_0 _ _ _ | exact mput_r (by decide)) rfl rfl rfl (by simp [Value.category]) rfl ⟨Nat.le_refl _, Nat.le_refl _⟩ ?_
              refine s_X8_of (by omega) (by omega) ?_
              dsimp only [xK, xps]
              (first | (simp (disch := omega) only [nI_clamp, pk_mul, nI_add, oi1, up2_ss, up2_n, up2_sn, ur_s, ur_n, Nat.reduceMul, Nat.reduceAdd, Nat.add_zero, pk_sub, pk_m1, Nat.add_sub_cancel, g0, g1, g5, g6, mc1, m0, hn0]) | skip)
              refine xr_iadd (n := 263) dX8_runs_262 rfl ?_
              (first | (simp (disch := omega) only [nI_clamp, pk_mul, nI_add, oi1, up2_ss, up2_n, up2_sn, ur_s, ur_n, Nat.reduceMul, Nat.reduceAdd, Nat.add_zero, pk_sub, pk_m1, Nat.add_sub_cancel, g0, g1, g5, g6, mc1, m0, hn0]) | skip)
              refine xr_iaload (n := 264) dX8_runs_263 (by first | exact mput_0 _ _ _ | exact mput_r (by decide)) (by first | exact vp_in_nI (by omega) (by omega)) rfl ?_
              (first | (simp (disch := omega) only [nI_clamp, pk_mul, nI_add, oi1, up2_ss, up2_n, up2_sn, ur_s, ur_n, Nat.reduceMul, Nat.reduceAdd, Nat.add_zero, pk_sub, pk_m1, Nat.add_sub_cancel, g0, g1, g5, g6, mc1, m0, hn0]) | skip)
              refine xr_if_le (tgt := 271) (n := 267) dX8_runs_264 (by decide) rfl (fun h264 => ?_) (fun h264 => ?_)
              · have hcp : ¬ 0 < δ 1 (P s 1) := by ((try simp (disch := omega) only [i_lt, i_le, i_eq, nt, i_m1, Int32.toInt_zero] at *); omega)
                refine xr_iconst (v := nI 0) (n := 272) dX8_runs_271 (by decide) rfl ?_
                refine xr_istore (n := 274) dX8_runs_272 rfl rfl ?_
                simp only [xst, Nat.beq, List.filter, Bool.not_true, Bool.not_false]
                refine xr_iload (n := 276) dX8_runs_274 rfl rfl ?_
                refine xr_iconst (v := nI 3) (n := 277) dX8_runs_276 (by decide) rfl ?_
                refine xr_icmp_ne (tgt := 408) (n := 280) dX8_runs_277 (by decide) rfl (fun h277 => by (exfalso; ((try simp (disch := omega) only [i_lt, i_le, i_eq, nt, i_m1, Int32.toInt_zero] at *); omega))) (fun h277 => ?_)
                refine xr_iload (n := 282) dX8_runs_280 rfl rfl ?_
                refine xr_iload (n := 284) dX8_runs_282 rfl rfl ?_
                refine xr_if_eq (tgt := 296) (n := 287) dX8_runs_284 (by decide) rfl (fun h284 => ?_) (fun h284 => by (exfalso; revert h284; decide))
                refine xr_iload (n := 298) dX8_runs_296 rfl rfl ?_
                refine xr_if_ne (tgt := 310) (n := 301) dX8_runs_298 (by decide) rfl (fun h298 => by (exfalso; revert h298; decide)) (fun h298 => ?_)
                refine xr_iload (n := 303) dX8_runs_301 rfl rfl ?_
                refine xr_if_eq (tgt := 310) (n := 306) dX8_runs_303 (by decide) rfl (fun h303 => ?_) (fun h303 => by (exfalso; revert h303; decide))
                refine xr_iconst (v := nI 0) (n := 311) dX8_runs_310 (by decide) rfl ?_
                refine xr_iadd (n := 312) dX8_runs_311 rfl ?_
                (first | (simp (disch := omega) only [nI_clamp, pk_mul, nI_add, oi1, up2_ss, up2_n, up2_sn, ur_s, ur_n, Nat.reduceMul, Nat.reduceAdd, Nat.add_zero, pk_sub, pk_m1, Nat.add_sub_cancel, g0, g1, g5, g6, mc1, m0, hn0]) | skip)
                refine xr_istore (n := 314) dX8_runs_312 rfl rfl ?_
                simp only [xst, Nat.beq, List.filter, Bool.not_true, Bool.not_false]
                refine xr_iload (n := 316) dX8_runs_314 rfl rfl ?_
                refine xr_if_eq (tgt := 383) (n := 319) dX8_runs_316 (by decide) rfl (fun h316 => ?_) (fun h316 => by (exfalso; revert h316; decide))
                refine xr_iload (n := 385) dX8_runs_383 rfl rfl ?_
                refine xr_if_eq (tgt := 395) (n := 388) dX8_runs_385 (by decide) rfl (fun h385 => ?_) (fun h385 => by (exfalso; revert h385; decide))
                refine xr_aload_n (n := 396) dX8_runs_395 rfl rfl ?_
                refine xr_iload (n := 398) dX8_runs_396 rfl rfl ?_
                refine xr_bipush (v := nI 6) (n := 400) dX8_runs_398 (by decide) rfl ?_
                refine xr_callV (y2 := mX8_of) (As := [_, _]) (n := 403) dX8_runs_400 lm_X8_124 pm_X8_of pi_X8_of (by first | exact mput_0 _ _ _ | exact mput_r (by decide)) rfl rfl rfl (by simp [Value.category]) rfl ⟨Nat.le_refl _, Nat.le_refl _⟩ ?_
                refine s_X8_of (by omega) (by omega) ?_
                dsimp only [xK, xps]
                (first | (simp (disch := omega) only [nI_clamp, pk_mul, nI_add, oi1, up2_ss, up2_n, up2_sn, ur_s, ur_n, Nat.reduceMul, Nat.reduceAdd, Nat.add_zero, pk_sub, pk_m1, Nat.add_sub_cancel, g0, g1, g5, g6, mc1, m0, hn0]) | skip)
                refine xr_istore (n := 405) dX8_runs_403 rfl rfl ?_
                simp only [xst, Nat.beq, List.filter, Bool.not_true, Bool.not_false]
                refine xr_goto (n := 492) dX8_runs_405 (by decide) ?_
                refine xr_iconst (v := nI 0) (n := 493) dX8_runs_492 (by decide) rfl ?_
                refine xr_istore (n := 495) dX8_runs_493 rfl rfl ?_
                simp only [xst, Nat.beq, List.filter, Bool.not_true, Bool.not_false]
                refine xr_goto (n := 73) dX8_runs_495 (by decide) ?_
                refine xX.drop 8 ?_
                refine xX.drop 9 ?_
                simp only [xst, Nat.beq, List.filter, Bool.not_true, Bool.not_false]
                obtain ⟨-, -, hI9⟩ := RI_out0 hW hI hlt hk hcp ht4
                exact ih fr dp _ 0 _ _ _ _ _ _ _ _ (me_s hN ht4 (Nat.le_succ _)) (Or.inl rfl) hdp hI9 (by rw [hat9] at hRs; exact hRs.symm)
              · have hcp : 0 < δ 1 (P s 1) := by ((try simp (disch := omega) only [i_lt, i_le, i_eq, nt, i_m1, Int32.toInt_zero] at *); omega)
                have hdq := (RI_in0 hW hI hlt hk hcp ht4).2.2.1
                refine xr_iconst (v := nI 1) (n := 268) dX8_runs_267 (by decide) rfl ?_
                refine xr_goto (n := 272) dX8_runs_268 (by decide) ?_
                refine xr_istore (n := 274) dX8_runs_272 rfl rfl ?_
                simp only [xst, Nat.beq, List.filter, Bool.not_true, Bool.not_false]
                refine xr_iload (n := 276) dX8_runs_274 rfl rfl ?_
                refine xr_iconst (v := nI 3) (n := 277) dX8_runs_276 (by decide) rfl ?_
                refine xr_icmp_ne (tgt := 408) (n := 280) dX8_runs_277 (by decide) rfl (fun h277 => by (exfalso; ((try simp (disch := omega) only [i_lt, i_le, i_eq, nt, i_m1, Int32.toInt_zero] at *); omega))) (fun h277 => ?_)
                refine xr_iload (n := 282) dX8_runs_280 rfl rfl ?_
                refine xr_iload (n := 284) dX8_runs_282 rfl rfl ?_
                refine xr_if_eq (tgt := 296) (n := 287) dX8_runs_284 (by decide) rfl (fun h284 => by (exfalso; revert h284; decide)) (fun h284 => ?_)
                refine xr_iload (n := 289) dX8_runs_287 rfl rfl ?_
                refine xr_if_ne (tgt := 296) (n := 292) dX8_runs_289 (by decide) rfl (fun h289 => by (exfalso; revert h289; decide)) (fun h289 => ?_)
                refine xr_iconst (v := nI 1) (n := 293) dX8_runs_292 (by decide) rfl ?_
                refine xr_goto (n := 311) dX8_runs_293 (by decide) ?_
                refine xr_iadd (n := 312) dX8_runs_311 rfl ?_
                (first | (simp (disch := omega) only [nI_clamp, pk_mul, nI_add, oi1, up2_ss, up2_n, up2_sn, ur_s, ur_n, Nat.reduceMul, Nat.reduceAdd, Nat.add_zero, pk_sub, pk_m1, Nat.add_sub_cancel, g0, g1, g5, g6, mc1, m0, hn0]) | skip)
                refine xr_istore (n := 314) dX8_runs_312 rfl rfl ?_
                simp only [xst, Nat.beq, List.filter, Bool.not_true, Bool.not_false]
                refine xr_iload (n := 316) dX8_runs_314 rfl rfl ?_
                refine xr_if_eq (tgt := 383) (n := 319) dX8_runs_316 (by decide) rfl (fun h316 => by (exfalso; revert h316; decide)) (fun h316 => ?_)
                refine xr_aload_n (n := 320) dX8_runs_319 rfl rfl ?_
                refine xr_get (n := 323) dX8_runs_320 fl_X8_49 (by first | exact mput_0 _ _ _ | exact mput_r (by decide)) (by rfl) rfl ?_
                refine xr_iload (n := 325) dX8_runs_323 rfl rfl ?_
                refine xr_iconst (v := nI 1) (n := 326) dX8_runs_325 (by decide) rfl ?_
                refine xr_isub (n := 327) dX8_runs_326 rfl ?_
                (first | (simp (disch := omega) only [nI_clamp, pk_mul, nI_add, oi1, up2_ss, up2_n, up2_sn, ur_s, ur_n, Nat.reduceMul, Nat.reduceAdd, Nat.add_zero, pk_sub, pk_m1, Nat.add_sub_cancel, g0, g1, g5, g6, mc1, m0, hn0]) | skip)
                refine xr_iload (n := 329) dX8_runs_327 rfl rfl ?_
                refine xr_if_eq (tgt := 344) (n := 332) dX8_runs_329 (by decide) rfl (fun h329 => ?_) (fun h329 => by (exfalso; revert h329; decide))
                refine xr_iconst (v := nI 0) (n := 345) dX8_runs_344 (by decide) rfl ?_
                refine xq_iastore (n := 346) dX8_runs_345 (by first | exact mput_0 _ _ _ | exact mput_r (by decide)) (by first | exact vp_in_nI (by omega) (by omega)) rfl ?_
                simp (disch := omega) only [nI_clamp, List.set, mw_0, mw_1, mw_2, mw_3, mw_4, mw_5, mw_6, mw_7, mw_8, mw_9, mw_10, mw_11, mw_12, mw_13, mw_14, mw_15, mw_16, mw_17, mw_18, mw_19]
                refine xr_aload_n (n := 347) dX8_runs_346 rfl rfl ?_
                refine xr_get (n := 350) dX8_runs_347 fl_X8_43 (by first | exact mput_0 _ _ _ | exact mput_r (by decide)) (by rfl) rfl ?_
                refine xr_iload (n := 352) dX8_runs_350 rfl rfl ?_
                refine xr_iconst (v := nI 1) (n := 353) dX8_runs_352 (by decide) rfl ?_
                refine xr_isub (n := 354) dX8_runs_353 rfl ?_
                (first | (simp (disch := omega) only [nI_clamp, pk_mul, nI_add, oi1, up2_ss, up2_n, up2_sn, ur_s, ur_n, Nat.reduceMul, Nat.reduceAdd, Nat.add_zero, pk_sub, pk_m1, Nat.add_sub_cancel, g0, g1, g5, g6, mc1, m0, hn0]) | skip)
                refine xr_iload (n := 356) dX8_runs_354 rfl rfl ?_
                refine xq_iastore (n := 357) dX8_runs_356 (by first | exact mput_0 _ _ _ | exact mput_r (by decide)) (by first | exact vp_in_nI (by omega) (by omega)) rfl ?_
                simp (disch := omega) only [nI_clamp, List.set, mw_0, mw_1, mw_2, mw_3, mw_4, mw_5, mw_6, mw_7, mw_8, mw_9, mw_10, mw_11, mw_12, mw_13, mw_14, mw_15, mw_16, mw_17, mw_18, mw_19]
                refine xr_aload_n (n := 358) dX8_runs_357 rfl rfl ?_
                refine xr_get (n := 361) dX8_runs_358 fl_X8_46 (by first | exact mput_0 _ _ _ | exact mput_r (by decide)) (by rfl) rfl ?_
                refine xr_iload (n := 363) dX8_runs_361 rfl rfl ?_
                refine xr_iconst (v := nI 1) (n := 364) dX8_runs_363 (by decide) rfl ?_
                refine xr_isub (n := 365) dX8_runs_364 rfl ?_
                (first | (simp (disch := omega) only [nI_clamp, pk_mul, nI_add, oi1, up2_ss, up2_n, up2_sn, ur_s, ur_n, Nat.reduceMul, Nat.reduceAdd, Nat.add_zero, pk_sub, pk_m1, Nat.add_sub_cancel, g0, g1, g5, g6, mc1, m0, hn0]) | skip)
                refine xr_aload_n (n := 366) dX8_runs_365 rfl rfl ?_
                refine xr_iload (n := 368) dX8_runs_366 rfl rfl ?_
                refine xr_bipush (v := nI 6) (n := 370) dX8_runs_368 (by decide) rfl ?_
                refine xr_callV (y2 := mX8_of) (As := [_, _]) (n := 373) dX8_runs_370 lm_X8_124 pm_X8_of pi_X8_of (by first | exact mput_0 _ _ _ | exact mput_r (by decide)) rfl rfl rfl (by simp [Value.category]) rfl ⟨Nat.le_refl _, Nat.le_refl _⟩ ?_
                refine s_X8_of (by omega) (by omega) ?_
                dsimp only [xK, xps]
                (first | (simp (disch := omega) only [nI_clamp, pk_mul, nI_add, oi1, up2_ss, up2_n, up2_sn, ur_s, ur_n, Nat.reduceMul, Nat.reduceAdd, Nat.add_zero, pk_sub, pk_m1, Nat.add_sub_cancel, g0, g1, g5, g6, mc1, m0, hn0]) | skip)
                refine xq_iastore (n := 374) dX8_runs_373 (by first | exact mput_0 _ _ _ | exact mput_r (by decide)) (by first | exact vp_in_nI (by omega) (by omega)) rfl ?_
                simp (disch := omega) only [nI_clamp, List.set, mw_0, mw_1, mw_2, mw_3, mw_4, mw_5, mw_6, mw_7, mw_8, mw_9, mw_10, mw_11, mw_12, mw_13, mw_14, mw_15, mw_16, mw_17, mw_18, mw_19]
                refine xr_aload_n (n := 375) dX8_runs_374 rfl rfl ?_
                refine xr_iload_n (n := 376) dX8_runs_375 rfl rfl ?_
                refine xr_iload (n := 378) dX8_runs_376 rfl rfl ?_
                refine xr_iconst (v := nI 1) (n := 379) dX8_runs_378 (by decide) rfl ?_
                refine xr_isub (n := 380) dX8_runs_379 rfl ?_
                (first | (simp (disch := omega) only [nI_clamp, pk_mul, nI_add, oi1, up2_ss, up2_n, up2_sn, ur_s, ur_n, Nat.reduceMul, Nat.reduceAdd, Nat.add_zero, pk_sub, pk_m1, Nat.add_sub_cancel, g0, g1, g5, g6, mc1, m0, hn0]) | skip)
                refine xr_callV (y2 := mX8_roundOf) (As := [_, _]) (n := 383) dX8_runs_380 lm_X8_152 pm_X8_roundOf pi_X8_roundOf (by first | exact mput_0 _ _ _ | exact mput_r (by decide)) rfl rfl rfl (by simp [Value.category]) rfl ⟨Nat.le_refl _, Nat.le_refl _⟩ ?_
                refine s_X8_roundOf (a := 0) (b := rd) (e := mo) hsd (by omega) (by first | assumption | (simp (disch := omega) only [up2_ss, up2_n, up2_sn]; first | done | assumption)) (by first | assumption | rfl | (simp (disch := omega) only [up2_ss, up2_n, up2_sn]; first | done | assumption | rfl)) (by first | assumption | rfl | (simp (disch := omega) only [up2_ss, up2_n, up2_sn]; first | done | assumption | rfl)) (by omega) (by omega) (by omega) ?_
                dsimp only [xK, xps]
                refine xr_iload (n := 385) dX8_runs_383 rfl rfl ?_
                refine xr_if_eq (tgt := 395) (n := 388) dX8_runs_385 (by decide) rfl (fun h385 => by (exfalso; revert h385; decide)) (fun h385 => ?_)
                refine xr_iload (n := 390) dX8_runs_388 rfl rfl ?_
                refine xr_iconst (v := nI 1) (n := 391) dX8_runs_390 (by decide) rfl ?_
                refine xr_iadd (n := 392) dX8_runs_391 rfl ?_
                (first | (simp (disch := omega) only [nI_clamp, pk_mul, nI_add, oi1, up2_ss, up2_n, up2_sn, ur_s, ur_n, Nat.reduceMul, Nat.reduceAdd, Nat.add_zero, pk_sub, pk_m1, Nat.add_sub_cancel, g0, g1, g5, g6, mc1, m0, hn0]) | skip)
                refine xr_goto (n := 403) dX8_runs_392 (by decide) ?_
                refine xr_istore (n := 405) dX8_runs_403 rfl rfl ?_
                simp only [xst, Nat.beq, List.filter, Bool.not_true, Bool.not_false]
                refine xr_goto (n := 492) dX8_runs_405 (by decide) ?_
                refine xr_iconst (v := nI 0) (n := 493) dX8_runs_492 (by decide) rfl ?_
                refine xr_istore (n := 495) dX8_runs_493 rfl rfl ?_
                simp only [xst, Nat.beq, List.filter, Bool.not_true, Bool.not_false]
                refine xr_goto (n := 73) dX8_runs_495 (by decide) ?_
                refine xX.drop 8 ?_
                refine xX.drop 9 ?_
                simp only [xst, Nat.beq, List.filter, Bool.not_true, Bool.not_false]
                obtain ⟨-, -, hd4, hI9⟩ := RI_in0 hW hI hlt hk hcp ht4
                exact ih _ (dp + 1) _ 0 _ _ _ _ _ _ _ _ (me_s hN ht4 (Nat.le_refl _)) (Or.inl rfl) (Nat.succ_le_succ hd4) hI9 (by rw [hat9] at hRs; exact hRs.symm)
            · refine xr_iload (n := 243) dX8_runs_241 rfl rfl ?_
              refine xr_iconst (v := nI 3) (n := 244) dX8_runs_243 (by decide) rfl ?_
              refine xr_icmp_lt (tgt := 271) (n := 247) dX8_runs_244 (by decide) rfl (fun h244 => by (exfalso; ((try simp (disch := omega) only [i_lt, i_le, i_eq, nt, i_m1, Int32.toInt_zero] at *); omega))) (fun h244 => ?_)
              refine xr_aload_n (n := 248) dX8_runs_247 rfl rfl ?_
              refine xr_get (n := 251) dX8_runs_248 fl_X8_28 (by first | exact mput_0 _ _ _ | exact mput_r (by decide)) (by rfl) rfl ?_
              refine xr_bipush (v := nI 6) (n := 253) dX8_runs_251 (by decide) rfl ?_
              refine xr_iload_n (n := 254) dX8_runs_253 rfl rfl ?_
              refine xr_imul (n := 255) dX8_runs_254 rfl ?_
              (first | (simp (disch := omega) only [nI_clamp, pk_mul, nI_add, oi1, up2_ss, up2_n, up2_sn, ur_s, ur_n, Nat.reduceMul, Nat.reduceAdd, Nat.add_zero, pk_sub, pk_m1, Nat.add_sub_cancel, g0, g1, g5, g6, mc1, m0, hn0]) | skip)
              refine xr_aload_n (n := 256) dX8_runs_255 rfl rfl ?_
              refine xr_iload (n := 258) dX8_runs_256 rfl rfl ?_
              refine xr_iconst (v := nI 1) (n := 259) dX8_runs_258 (by decide) rfl ?_
              refine xr_callV (y2 := mX8_of) (As := [_, _]) (n := 262) dX8_runs_259 lm_X8_124 pm_X8_of pi_X8_of (by first | exact mput_0 _ _ _ | exact mput_r (by decide)) rfl rfl rfl (by simp [Value.category]) rfl ⟨Nat.le_refl _, Nat.le_refl _⟩ ?_
              refine s_X8_of (by omega) (by omega) ?_
              dsimp only [xK, xps]
              (first | (simp (disch := omega) only [nI_clamp, pk_mul, nI_add, oi1, up2_ss, up2_n, up2_sn, ur_s, ur_n, Nat.reduceMul, Nat.reduceAdd, Nat.add_zero, pk_sub, pk_m1, Nat.add_sub_cancel, g0, g1, g5, g6, mc1, m0, hn0]) | skip)
              refine xr_iadd (n := 263) dX8_runs_262 rfl ?_
              (first | (simp (disch := omega) only [nI_clamp, pk_mul, nI_add, oi1, up2_ss, up2_n, up2_sn, ur_s, ur_n, Nat.reduceMul, Nat.reduceAdd, Nat.add_zero, pk_sub, pk_m1, Nat.add_sub_cancel, g0, g1, g5, g6, mc1, m0, hn0]) | skip)
              refine xr_iaload (n := 264) dX8_runs_263 (by first | exact mput_0 _ _ _ | exact mput_r (by decide)) (by first | exact vp_in_nI (by omega) (by omega)) rfl ?_
              (first | (simp (disch := omega) only [nI_clamp, pk_mul, nI_add, oi1, up2_ss, up2_n, up2_sn, ur_s, ur_n, Nat.reduceMul, Nat.reduceAdd, Nat.add_zero, pk_sub, pk_m1, Nat.add_sub_cancel, g0, g1, g5, g6, mc1, m0, hn0]) | skip)
              refine xr_if_le (tgt := 271) (n := 267) dX8_runs_264 (by decide) rfl (fun h264 => ?_) (fun h264 => ?_)
              · have hcp : ¬ 0 < δ 1 (P s 1) := by ((try simp (disch := omega) only [i_lt, i_le, i_eq, nt, i_m1, Int32.toInt_zero] at *); omega)
                have hdq := (RI_ch hW hI hlt hk ht4).2.2.1
                refine xr_iconst (v := nI 0) (n := 272) dX8_runs_271 (by decide) rfl ?_
                refine xr_istore (n := 274) dX8_runs_272 rfl rfl ?_
                simp only [xst, Nat.beq, List.filter, Bool.not_true, Bool.not_false]
                refine xr_iload (n := 276) dX8_runs_274 rfl rfl ?_
                refine xr_iconst (v := nI 3) (n := 277) dX8_runs_276 (by decide) rfl ?_
                refine xr_icmp_ne (tgt := 408) (n := 280) dX8_runs_277 (by decide) rfl (fun h277 => ?_) (fun h277 => by (exfalso; ((try simp (disch := omega) only [i_lt, i_le, i_eq, nt, i_m1, Int32.toInt_zero] at *); omega)))
                refine xr_iload (n := 410) dX8_runs_408 rfl rfl ?_
                refine xr_iconst (v := nI 4) (n := 411) dX8_runs_410 (by decide) rfl ?_
                refine xr_icmp_ne (tgt := 480) (n := 414) dX8_runs_411 (by decide) rfl (fun h411 => by (exfalso; ((try simp (disch := omega) only [i_lt, i_le, i_eq, nt, i_m1, Int32.toInt_zero] at *); omega))) (fun h411 => ?_)
                refine xr_aload_n (n := 415) dX8_runs_414 rfl rfl ?_
                refine xr_get (n := 418) dX8_runs_415 fl_X8_43 (by first | exact mput_0 _ _ _ | exact mput_r (by decide)) (by rfl) rfl ?_
                refine xr_iload (n := 420) dX8_runs_418 rfl rfl ?_
                refine xr_iload (n := 422) dX8_runs_420 rfl rfl ?_
                refine xq_iastore (n := 423) dX8_runs_422 (by first | exact mput_0 _ _ _ | exact mput_r (by decide)) (by first | exact vp_in_nI (by omega) (by omega)) rfl ?_
                simp (disch := omega) only [nI_clamp, List.set, mw_0, mw_1, mw_2, mw_3, mw_4, mw_5, mw_6, mw_7, mw_8, mw_9, mw_10, mw_11, mw_12, mw_13, mw_14, mw_15, mw_16, mw_17, mw_18, mw_19]
                refine xr_aload_n (n := 424) dX8_runs_423 rfl rfl ?_
                refine xr_get (n := 427) dX8_runs_424 fl_X8_46 (by first | exact mput_0 _ _ _ | exact mput_r (by decide)) (by rfl) rfl ?_
                refine xr_iload (n := 429) dX8_runs_427 rfl rfl ?_
                refine xr_iload (n := 431) dX8_runs_429 rfl rfl ?_
                refine xr_if_eq (tgt := 444) (n := 434) dX8_runs_431 (by decide) rfl (fun h431 => ?_) (fun h431 => by (exfalso; revert h431; decide))
                refine xr_aload_n (n := 445) dX8_runs_444 rfl rfl ?_
                refine xr_iload (n := 447) dX8_runs_445 rfl rfl ?_
                refine xr_bipush (v := nI 6) (n := 449) dX8_runs_447 (by decide) rfl ?_
                refine xr_callV (y2 := mX8_of) (As := [_, _]) (n := 452) dX8_runs_449 lm_X8_124 pm_X8_of pi_X8_of (by first | exact mput_0 _ _ _ | exact mput_r (by decide)) rfl rfl rfl (by simp [Value.category]) rfl ⟨Nat.le_refl _, Nat.le_refl _⟩ ?_
                refine s_X8_of (by omega) (by omega) ?_
                dsimp only [xK, xps]
                (first | (simp (disch := omega) only [nI_clamp, pk_mul, nI_add, oi1, up2_ss, up2_n, up2_sn, ur_s, ur_n, Nat.reduceMul, Nat.reduceAdd, Nat.add_zero, pk_sub, pk_m1, Nat.add_sub_cancel, g0, g1, g5, g6, mc1, m0, hn0]) | skip)
                refine xq_iastore (n := 453) dX8_runs_452 (by first | exact mput_0 _ _ _ | exact mput_r (by decide)) (by first | exact vp_in_nI (by omega) (by omega)) rfl ?_
                simp (disch := omega) only [nI_clamp, List.set, mw_0, mw_1, mw_2, mw_3, mw_4, mw_5, mw_6, mw_7, mw_8, mw_9, mw_10, mw_11, mw_12, mw_13, mw_14, mw_15, mw_16, mw_17, mw_18, mw_19]
                refine xr_iinc (n := 456) dX8_runs_453 rfl rfl (rfl) rfl ?_
                simp only [xst, Nat.beq, List.filter, Bool.not_true, Bool.not_false]
                (first | (simp (disch := omega) only [nI_clamp, pk_mul, nI_add, oi1, up2_ss, up2_n, up2_sn, ur_s, ur_n, Nat.reduceMul, Nat.reduceAdd, Nat.add_zero, pk_sub, pk_m1, Nat.add_sub_cancel, g0, g1, g5, g6, mc1, m0, hn0]) | skip)
                refine xr_iload (n := 458) dX8_runs_456 rfl rfl ?_
                refine xr_if_eq (tgt := 468) (n := 461) dX8_runs_458 (by decide) rfl (fun h458 => ?_) (fun h458 => by (exfalso; revert h458; decide))
                refine xr_aload_n (n := 469) dX8_runs_468 rfl rfl ?_
                refine xr_iload (n := 471) dX8_runs_469 rfl rfl ?_
                refine xr_iconst (v := nI 5) (n := 472) dX8_runs_471 (by decide) rfl ?_
                refine xr_callV (y2 := mX8_of) (As := [_, _]) (n := 475) dX8_runs_472 lm_X8_124 pm_X8_of pi_X8_of (by first | exact mput_0 _ _ _ | exact mput_r (by decide)) rfl rfl rfl (by simp [Value.category]) rfl ⟨Nat.le_refl _, Nat.le_refl _⟩ ?_
                refine s_X8_of (by omega) (by omega) ?_
                dsimp only [xK, xps]
                (first | (simp (disch := omega) only [nI_clamp, pk_mul, nI_add, oi1, up2_ss, up2_n, up2_sn, ur_s, ur_n, Nat.reduceMul, Nat.reduceAdd, Nat.add_zero, pk_sub, pk_m1, Nat.add_sub_cancel, g0, g1, g5, g6, mc1, m0, hn0]) | skip)
                refine xr_istore (n := 477) dX8_runs_475 rfl rfl ?_
                simp only [xst, Nat.beq, List.filter, Bool.not_true, Bool.not_false]
                refine xr_goto (n := 492) dX8_runs_477 (by decide) ?_
                refine xr_iconst (v := nI 0) (n := 493) dX8_runs_492 (by decide) rfl ?_
                refine xr_istore (n := 495) dX8_runs_493 rfl rfl ?_
                simp only [xst, Nat.beq, List.filter, Bool.not_true, Bool.not_false]
                refine xr_goto (n := 73) dX8_runs_495 (by decide) ?_
                refine xX.drop 8 ?_
                refine xX.drop 9 ?_
                simp only [xst, Nat.beq, List.filter, Bool.not_true, Bool.not_false]
                obtain ⟨-, -, hd4, hI9⟩ := RI_ch hW hI hlt hk ht4
                exact ih _ (dp + 1) _ 0 _ _ _ _ _ _ _ _ (me_s hN ht4 (Nat.le_refl _)) (Or.inl rfl) (Nat.succ_le_succ hd4) (hI9.2 hcp) (by rw [hat9] at hRs; exact hRs.symm)
              · have hcp : 0 < δ 1 (P s 1) := by ((try simp (disch := omega) only [i_lt, i_le, i_eq, nt, i_m1, Int32.toInt_zero] at *); omega)
                have hdq := (RI_ch hW hI hlt hk ht4).2.2.1
                refine xr_iconst (v := nI 1) (n := 268) dX8_runs_267 (by decide) rfl ?_
                refine xr_goto (n := 272) dX8_runs_268 (by decide) ?_
                refine xr_istore (n := 274) dX8_runs_272 rfl rfl ?_
                simp only [xst, Nat.beq, List.filter, Bool.not_true, Bool.not_false]
                refine xr_iload (n := 276) dX8_runs_274 rfl rfl ?_
                refine xr_iconst (v := nI 3) (n := 277) dX8_runs_276 (by decide) rfl ?_
                refine xr_icmp_ne (tgt := 408) (n := 280) dX8_runs_277 (by decide) rfl (fun h277 => ?_) (fun h277 => by (exfalso; ((try simp (disch := omega) only [i_lt, i_le, i_eq, nt, i_m1, Int32.toInt_zero] at *); omega)))
                refine xr_iload (n := 410) dX8_runs_408 rfl rfl ?_
                refine xr_iconst (v := nI 4) (n := 411) dX8_runs_410 (by decide) rfl ?_
                refine xr_icmp_ne (tgt := 480) (n := 414) dX8_runs_411 (by decide) rfl (fun h411 => by (exfalso; ((try simp (disch := omega) only [i_lt, i_le, i_eq, nt, i_m1, Int32.toInt_zero] at *); omega))) (fun h411 => ?_)
                refine xr_aload_n (n := 415) dX8_runs_414 rfl rfl ?_
                refine xr_get (n := 418) dX8_runs_415 fl_X8_43 (by first | exact mput_0 _ _ _ | exact mput_r (by decide)) (by rfl) rfl ?_
                refine xr_iload (n := 420) dX8_runs_418 rfl rfl ?_
                refine xr_iload (n := 422) dX8_runs_420 rfl rfl ?_
                refine xq_iastore (n := 423) dX8_runs_422 (by first | exact mput_0 _ _ _ | exact mput_r (by decide)) (by first | exact vp_in_nI (by omega) (by omega)) rfl ?_
                simp (disch := omega) only [nI_clamp, List.set, mw_0, mw_1, mw_2, mw_3, mw_4, mw_5, mw_6, mw_7, mw_8, mw_9, mw_10, mw_11, mw_12, mw_13, mw_14, mw_15, mw_16, mw_17, mw_18, mw_19]
                refine xr_aload_n (n := 424) dX8_runs_423 rfl rfl ?_
                refine xr_get (n := 427) dX8_runs_424 fl_X8_46 (by first | exact mput_0 _ _ _ | exact mput_r (by decide)) (by rfl) rfl ?_
                refine xr_iload (n := 429) dX8_runs_427 rfl rfl ?_
                refine xr_iload (n := 431) dX8_runs_429 rfl rfl ?_
                refine xr_if_eq (tgt := 444) (n := 434) dX8_runs_431 (by decide) rfl (fun h431 => by (exfalso; revert h431; decide)) (fun h431 => ?_)
                refine xr_aload_n (n := 435) dX8_runs_434 rfl rfl ?_
                refine xr_iload (n := 437) dX8_runs_435 rfl rfl ?_
                refine xr_iconst (v := nI 5) (n := 438) dX8_runs_437 (by decide) rfl ?_
                refine xr_callV (y2 := mX8_of) (As := [_, _]) (n := 441) dX8_runs_438 lm_X8_124 pm_X8_of pi_X8_of (by first | exact mput_0 _ _ _ | exact mput_r (by decide)) rfl rfl rfl (by simp [Value.category]) rfl ⟨Nat.le_refl _, Nat.le_refl _⟩ ?_
                refine s_X8_of (by omega) (by omega) ?_
                dsimp only [xK, xps]
                (first | (simp (disch := omega) only [nI_clamp, pk_mul, nI_add, oi1, up2_ss, up2_n, up2_sn, ur_s, ur_n, Nat.reduceMul, Nat.reduceAdd, Nat.add_zero, pk_sub, pk_m1, Nat.add_sub_cancel, g0, g1, g5, g6, mc1, m0, hn0]) | skip)
                refine xr_goto (n := 452) dX8_runs_441 (by decide) ?_
                refine xq_iastore (n := 453) dX8_runs_452 (by first | exact mput_0 _ _ _ | exact mput_r (by decide)) (by first | exact vp_in_nI (by omega) (by omega)) rfl ?_
                simp (disch := omega) only [nI_clamp, List.set, mw_0, mw_1, mw_2, mw_3, mw_4, mw_5, mw_6, mw_7, mw_8, mw_9, mw_10, mw_11, mw_12, mw_13, mw_14, mw_15, mw_16, mw_17, mw_18, mw_19]
                refine xr_iinc (n := 456) dX8_runs_453 rfl rfl (rfl) rfl ?_
                simp only [xst, Nat.beq, List.filter, Bool.not_true, Bool.not_false]
                (first | (simp (disch := omega) only [nI_clamp, pk_mul, nI_add, oi1, up2_ss, up2_n, up2_sn, ur_s, ur_n, Nat.reduceMul, Nat.reduceAdd, Nat.add_zero, pk_sub, pk_m1, Nat.add_sub_cancel, g0, g1, g5, g6, mc1, m0, hn0]) | skip)
                refine xr_iload (n := 458) dX8_runs_456 rfl rfl ?_
                refine xr_if_eq (tgt := 468) (n := 461) dX8_runs_458 (by decide) rfl (fun h458 => by (exfalso; revert h458; decide)) (fun h458 => ?_)
                refine xr_iload (n := 463) dX8_runs_461 rfl rfl ?_
                refine xr_iconst (v := nI 1) (n := 464) dX8_runs_463 (by decide) rfl ?_
                refine xr_iadd (n := 465) dX8_runs_464 rfl ?_
                (first | (simp (disch := omega) only [nI_clamp, pk_mul, nI_add, oi1, up2_ss, up2_n, up2_sn, ur_s, ur_n, Nat.reduceMul, Nat.reduceAdd, Nat.add_zero, pk_sub, pk_m1, Nat.add_sub_cancel, g0, g1, g5, g6, mc1, m0, hn0]) | skip)
                refine xr_goto (n := 475) dX8_runs_465 (by decide) ?_
                refine xr_istore (n := 477) dX8_runs_475 rfl rfl ?_
                simp only [xst, Nat.beq, List.filter, Bool.not_true, Bool.not_false]
                refine xr_goto (n := 492) dX8_runs_477 (by decide) ?_
                refine xr_iconst (v := nI 0) (n := 493) dX8_runs_492 (by decide) rfl ?_
                refine xr_istore (n := 495) dX8_runs_493 rfl rfl ?_
                simp only [xst, Nat.beq, List.filter, Bool.not_true, Bool.not_false]
                refine xr_goto (n := 73) dX8_runs_495 (by decide) ?_
                refine xX.drop 8 ?_
                refine xX.drop 9 ?_
                simp only [xst, Nat.beq, List.filter, Bool.not_true, Bool.not_false]
                obtain ⟨-, -, hd4, hI9⟩ := RI_ch hW hI hlt hk ht4
                exact ih _ (dp + 1) _ 0 _ _ _ _ _ _ _ _ (me_s hN ht4 (Nat.le_refl _)) (Or.inl rfl) (Nat.succ_le_succ hd4) (hI9.1 hcp) (by rw [hat9] at hRs; exact hRs.symm)
          · refine xr_aload_n (n := 202) dX8_runs_201 rfl rfl ?_
            refine xr_get (n := 205) dX8_runs_202 fl_X8_40 (by first | exact mput_0 _ _ _ | exact mput_r (by decide)) (by rfl) rfl ?_
            refine xr_bipush (v := nI 6) (n := 207) dX8_runs_205 (by decide) rfl ?_
            refine xr_iload_n (n := 208) dX8_runs_207 rfl rfl ?_
            refine xr_imul (n := 209) dX8_runs_208 rfl ?_
            (first | (simp (disch := omega) only [nI_clamp, pk_mul, nI_add, oi1, up2_ss, up2_n, up2_sn, ur_s, ur_n, Nat.reduceMul, Nat.reduceAdd, Nat.add_zero, pk_sub, pk_m1, Nat.add_sub_cancel, hn0, m0, p1, p2, u0, u6, g0, g1, g5, g6, mc1]) | (simp (disch := omega) only [nI_clamp, pk_mul, nI_add, oi1, up2_ss, up2_n, up2_sn, ur_s, ur_n, Nat.reduceMul, Nat.reduceAdd, Nat.add_zero, pk_sub, pk_m1, Nat.add_sub_cancel, hn0, m0, p1, p2, u0, u6]) | (simp (disch := omega) only [nI_clamp, pk_mul, nI_add, oi1, up2_ss, up2_n, up2_sn, ur_s, ur_n, Nat.reduceMul, Nat.reduceAdd, Nat.add_zero, pk_sub, pk_m1, Nat.add_sub_cancel, hn0, m0, g0, g1, g5, g6, mc1]) | (simp (disch := omega) only [nI_clamp, pk_mul, nI_add, oi1, up2_ss, up2_n, up2_sn, ur_s, ur_n, Nat.reduceMul, Nat.reduceAdd, Nat.add_zero, pk_sub, pk_m1, Nat.add_sub_cancel, hn0, m0]) | skip)
            refine xr_iconst (v := nI 1) (n := 210) dX8_runs_209 (by decide) rfl ?_
            refine xr_iadd (n := 211) dX8_runs_210 rfl ?_
            (first | (simp (disch := omega) only [nI_clamp, pk_mul, nI_add, oi1, up2_ss, up2_n, up2_sn, ur_s, ur_n, Nat.reduceMul, Nat.reduceAdd, Nat.add_zero, pk_sub, pk_m1, Nat.add_sub_cancel, hn0, m0, p1, p2, u0, u6, g0, g1, g5, g6, mc1]) | (simp (disch := omega) only [nI_clamp, pk_mul, nI_add, oi1, up2_ss, up2_n, up2_sn, ur_s, ur_n, Nat.reduceMul, Nat.reduceAdd, Nat.add_zero, pk_sub, pk_m1, Nat.add_sub_cancel, hn0, m0, p1, p2, u0, u6]) | (simp (disch := omega) only [nI_clamp, pk_mul, nI_add, oi1, up2_ss, up2_n, up2_sn, ur_s, ur_n, Nat.reduceMul, Nat.reduceAdd, Nat.add_zero, pk_sub, pk_m1, Nat.add_sub_cancel, hn0, m0, g0, g1, g5, g6, mc1]) | (simp (disch := omega) only [nI_clamp, pk_mul, nI_add, oi1, up2_ss, up2_n, up2_sn, ur_s, ur_n, Nat.reduceMul, Nat.reduceAdd, Nat.add_zero, pk_sub, pk_m1, Nat.add_sub_cancel, hn0, m0]) | skip)
            refine xr_iconst (v := nI 1) (n := 212) dX8_runs_211 (by decide) rfl ?_
            refine xq_iastore (n := 213) dX8_runs_212 (by first | exact mput_0 _ _ _ | exact mput_r (by decide)) (by first | exact vp_in_nI (by omega) (by omega)) rfl ?_
            simp (disch := omega) only [nI_clamp, List.set, mw_0, mw_1, mw_2, mw_3, mw_4, mw_5, mw_6, mw_7, mw_8, mw_9, mw_10, mw_11, mw_12, mw_13, mw_14, mw_15, mw_16, mw_17, mw_18, mw_19]
            refine xr_iconst (v := nI 0) (n := 214) dX8_runs_213 (by decide) rfl ?_
            refine xr_istore (n := 216) dX8_runs_214 rfl rfl ?_
            simp only [xst, Nat.beq, List.filter, Bool.not_true, Bool.not_false]
            refine xr_goto (n := 73) dX8_runs_216 (by decide) ?_
            refine xr_iload (n := 75) dX8_runs_73 rfl rfl ?_
            refine xr_if_eq (tgt := 498) (n := 78) dX8_runs_75 (by decide) rfl (fun h75 => ?_) (fun h75 => by (exfalso; revert h75; decide))
            refine xr_return dX8_runs_498 rfl rfl ?_
            refine hq _ (oth13 (k := 1) hT (by omega)) ?_
            have et : t = 400 := by ((try simp (disch := omega) only [i_lt, i_le, i_eq, nt, i_m1, Int32.toInt_zero] at *); omega)
            subst et
            have e9s : at_ = e9 ∧ δ = δ9 := by
              have hR : (at_, δ) = (e9, δ9) := hR
              exact ⟨congrArg Prod.fst hR, congrArg Prod.snd hR⟩
            obtain ⟨rfl, rfl⟩ := e9s
            refine ⟨_, mk, rd, mo, tl, μ, hI.1, hM, ?_⟩
            rw [if_pos (by omega)]
        · refine xr_iconst (v := nI 0) (n := 181) dX8_runs_180 (by decide) rfl ?_
          refine xr_istore (n := 183) dX8_runs_181 rfl rfl ?_
          simp only [xst, Nat.beq, List.filter, Bool.not_true, Bool.not_false]
          refine xr_goto (n := 73) dX8_runs_183 (by decide) ?_
          refine xr_iload (n := 75) dX8_runs_73 rfl rfl ?_
          refine xr_if_eq (tgt := 498) (n := 78) dX8_runs_75 (by decide) rfl (fun h75 => ?_) (fun h75 => by (exfalso; revert h75; decide))
          refine xr_return dX8_runs_498 rfl rfl ?_
          have hn9 : s = n := by ((try simp (disch := omega) only [i_lt, i_le, i_eq, nt, i_m1, Int32.toInt_zero] at *); omega)
          have ha9 := (RI_lt hW.1 hI hpop).2 hn9
          rw [arun_end (by omega)] at hR
          refine hq _ hT ?_
          have e9s : at_ = e9 ∧ δ = δ9 := ⟨congrArg Prod.fst hR, congrArg Prod.snd hR⟩
          obtain ⟨rfl, rfl⟩ := e9s
          refine ⟨_, mk, rd, mo, tl, μ, hI.1, hM, ?_⟩
          rw [if_neg (by omega)]
      · obtain ⟨d1, rfl⟩ : ∃ d1, dp = d1 + 1 := ⟨dp - 1, by ((try simp (disch := omega) only [i_lt, i_le, i_eq, nt, i_m1, Int32.toInt_zero] at *); omega)⟩
        obtain ⟨p1, p2, p3⟩ := hK d1 (by omega)
        have hfk := stk_lt hW.1 (hA0 rfl).1.1 (hA0 rfl).1.2.1
        have hfb : (fr d1).2 ≤ n := (stk_le hW.1 (hA0 rfl).1).2
        have hsb : s ≤ n := by have := (stk_le hW.1 (hA0 rfl).1).1; have h9 : s ≤ (fr d1).2 := this; omega
        obtain ⟨-, -, -, -, -, f6, -⟩ := hW.1.2 _ hfk
        have u0 : μ 5 (1 + 7 * (fr d1).1) = nI (P (fr d1).1 0) := hPm.2 _ 0 hfk (by omega)
        have u6 : μ 5 (1 + 7 * (fr d1).1 + 6) = nI (P (fr d1).1 6) := hPm.2 _ 6 hfk (by omega)
        obtain ⟨kk0, -, -, -, -, kk6, -⟩ := hW.1.2 _ hfk
        refine xr_iload (n := 85) dX8_runs_83 rfl rfl ?_
        refine xr_if_ne (tgt := 169) (n := 88) dX8_runs_85 (by decide) rfl (fun h85 => by (exfalso; revert h85; decide)) (fun h85 => ?_)
        refine xr_iload (n := 90) dX8_runs_88 rfl rfl ?_
        refine xr_aload_n (n := 91) dX8_runs_90 rfl rfl ?_
        refine xr_get (n := 94) dX8_runs_91 fl_X8_46 (by first | exact mput_0 _ _ _ | exact mput_r (by decide)) (by rfl) rfl ?_
        refine xr_iload (n := 96) dX8_runs_94 rfl rfl ?_
        refine xr_iconst (v := nI 1) (n := 97) dX8_runs_96 (by decide) rfl ?_
        refine xr_isub (n := 98) dX8_runs_97 rfl ?_
        (first | (simp (disch := omega) only [nI_clamp, pk_mul, nI_add, oi1, up2_ss, up2_n, up2_sn, ur_s, ur_n, Nat.reduceMul, Nat.reduceAdd, Nat.add_zero, pk_sub, pk_m1, Nat.add_sub_cancel, hn0, m0, p1, p2, u0, u6, g0, g1, g5, g6, mc1]) | (simp (disch := omega) only [nI_clamp, pk_mul, nI_add, oi1, up2_ss, up2_n, up2_sn, ur_s, ur_n, Nat.reduceMul, Nat.reduceAdd, Nat.add_zero, pk_sub, pk_m1, Nat.add_sub_cancel, hn0, m0, p1, p2, u0, u6]) | (simp (disch := omega) only [nI_clamp, pk_mul, nI_add, oi1, up2_ss, up2_n, up2_sn, ur_s, ur_n, Nat.reduceMul, Nat.reduceAdd, Nat.add_zero, pk_sub, pk_m1, Nat.add_sub_cancel, hn0, m0, g0, g1, g5, g6, mc1]) | (simp (disch := omega) only [nI_clamp, pk_mul, nI_add, oi1, up2_ss, up2_n, up2_sn, ur_s, ur_n, Nat.reduceMul, Nat.reduceAdd, Nat.add_zero, pk_sub, pk_m1, Nat.add_sub_cancel, hn0, m0]) | skip)
        refine xr_iaload (n := 99) dX8_runs_98 (by first | exact mput_0 _ _ _ | exact mput_r (by decide)) (by first | exact vp_in_nI (by omega) (by omega)) rfl ?_
        (first | (simp (disch := omega) only [nI_clamp, pk_mul, nI_add, oi1, up2_ss, up2_n, up2_sn, ur_s, ur_n, Nat.reduceMul, Nat.reduceAdd, Nat.add_zero, pk_sub, pk_m1, Nat.add_sub_cancel, hn0, m0, p1, p2, u0, u6, g0, g1, g5, g6, mc1]) | (simp (disch := omega) only [nI_clamp, pk_mul, nI_add, oi1, up2_ss, up2_n, up2_sn, ur_s, ur_n, Nat.reduceMul, Nat.reduceAdd, Nat.add_zero, pk_sub, pk_m1, Nat.add_sub_cancel, hn0, m0, p1, p2, u0, u6]) | (simp (disch := omega) only [nI_clamp, pk_mul, nI_add, oi1, up2_ss, up2_n, up2_sn, ur_s, ur_n, Nat.reduceMul, Nat.reduceAdd, Nat.add_zero, pk_sub, pk_m1, Nat.add_sub_cancel, hn0, m0, g0, g1, g5, g6, mc1]) | (simp (disch := omega) only [nI_clamp, pk_mul, nI_add, oi1, up2_ss, up2_n, up2_sn, ur_s, ur_n, Nat.reduceMul, Nat.reduceAdd, Nat.add_zero, pk_sub, pk_m1, Nat.add_sub_cancel, hn0, m0]) | skip)
        refine xr_icmp_ne (tgt := 169) (n := 102) dX8_runs_99 (by decide) rfl (fun h99 => ?_) (fun h99 => ?_)
        · have hpop : ∀ d, d1 + 1 = d + 1 → s ≠ (fr d).2 := fun d hd => by (have : d = d1 := by omega); subst this; ((try simp (disch := omega) only [i_lt, i_le, i_eq, nt, i_m1, Int32.toInt_zero] at *); omega)
          refine xr_iload (n := 171) dX8_runs_169 rfl rfl ?_
          refine xr_aload_n (n := 172) dX8_runs_171 rfl rfl ?_
          refine xr_get (n := 175) dX8_runs_172 fl_X8_19 (by first | exact mput_0 _ _ _ | exact mput_r (by decide)) (by rfl) rfl ?_
          refine xr_iconst (v := nI 0) (n := 176) dX8_runs_175 (by decide) rfl ?_
          refine xr_iaload (n := 177) dX8_runs_176 (by first | exact mput_0 _ _ _ | exact mput_r (by decide)) (by first | exact vp_in_nI (by omega) (by omega)) rfl ?_
          (first | (simp (disch := omega) only [nI_clamp, pk_mul, nI_add, oi1, up2_ss, up2_n, up2_sn, ur_s, ur_n, Nat.reduceMul, Nat.reduceAdd, Nat.add_zero, pk_sub, pk_m1, Nat.add_sub_cancel, hn0, m0, p1, p2, u0, u6, g0, g1, g5, g6, mc1]) | (simp (disch := omega) only [nI_clamp, pk_mul, nI_add, oi1, up2_ss, up2_n, up2_sn, ur_s, ur_n, Nat.reduceMul, Nat.reduceAdd, Nat.add_zero, pk_sub, pk_m1, Nat.add_sub_cancel, hn0, m0, p1, p2, u0, u6]) | (simp (disch := omega) only [nI_clamp, pk_mul, nI_add, oi1, up2_ss, up2_n, up2_sn, ur_s, ur_n, Nat.reduceMul, Nat.reduceAdd, Nat.add_zero, pk_sub, pk_m1, Nat.add_sub_cancel, hn0, m0, g0, g1, g5, g6, mc1]) | (simp (disch := omega) only [nI_clamp, pk_mul, nI_add, oi1, up2_ss, up2_n, up2_sn, ur_s, ur_n, Nat.reduceMul, Nat.reduceAdd, Nat.add_zero, pk_sub, pk_m1, Nat.add_sub_cancel, hn0, m0]) | skip)
          refine xr_icmp_ne (tgt := 186) (n := 180) dX8_runs_177 (by decide) rfl (fun h177 => ?_) (fun h177 => ?_)
          · have hsn9 : s ≠ n := by ((try simp (disch := omega) only [i_lt, i_le, i_eq, nt, i_m1, Int32.toInt_zero] at *); omega)
            have hlt := (RI_lt hW.1 hI hpop).1 hsn9
            have hsn := stk_lt hW.1 (hA0 rfl).1 hlt
            have hat9 : at_ = s := by rw [(hA0 rfl).2]; exact resP_lt hlt
            refine xr_aload_n (n := 187) dX8_runs_186 rfl rfl ?_
            refine xr_get (n := 190) dX8_runs_187 fl_X8_40 (by first | exact mput_0 _ _ _ | exact mput_r (by decide)) (by rfl) rfl ?_
            refine xr_bipush (v := nI 6) (n := 192) dX8_runs_190 (by decide) rfl ?_
            refine xr_iload_n (n := 193) dX8_runs_192 rfl rfl ?_
            refine xr_imul (n := 194) dX8_runs_193 rfl ?_
            (first | (simp (disch := omega) only [nI_clamp, pk_mul, nI_add, oi1, up2_ss, up2_n, up2_sn, ur_s, ur_n, Nat.reduceMul, Nat.reduceAdd, Nat.add_zero, pk_sub, pk_m1, Nat.add_sub_cancel, hn0, m0, p1, p2, u0, u6, g0, g1, g5, g6, mc1]) | (simp (disch := omega) only [nI_clamp, pk_mul, nI_add, oi1, up2_ss, up2_n, up2_sn, ur_s, ur_n, Nat.reduceMul, Nat.reduceAdd, Nat.add_zero, pk_sub, pk_m1, Nat.add_sub_cancel, hn0, m0, p1, p2, u0, u6]) | (simp (disch := omega) only [nI_clamp, pk_mul, nI_add, oi1, up2_ss, up2_n, up2_sn, ur_s, ur_n, Nat.reduceMul, Nat.reduceAdd, Nat.add_zero, pk_sub, pk_m1, Nat.add_sub_cancel, hn0, m0, g0, g1, g5, g6, mc1]) | (simp (disch := omega) only [nI_clamp, pk_mul, nI_add, oi1, up2_ss, up2_n, up2_sn, ur_s, ur_n, Nat.reduceMul, Nat.reduceAdd, Nat.add_zero, pk_sub, pk_m1, Nat.add_sub_cancel, hn0, m0]) | skip)
            refine xr_iaload (n := 195) dX8_runs_194 (by first | exact mput_0 _ _ _ | exact mput_r (by decide)) (by first | exact vp_in_nI (by omega) (by omega)) rfl ?_
            (first | (simp (disch := omega) only [nI_clamp, pk_mul, nI_add, oi1, up2_ss, up2_n, up2_sn, ur_s, ur_n, Nat.reduceMul, Nat.reduceAdd, Nat.add_zero, pk_sub, pk_m1, Nat.add_sub_cancel, hn0, m0, p1, p2, u0, u6, g0, g1, g5, g6, mc1]) | (simp (disch := omega) only [nI_clamp, pk_mul, nI_add, oi1, up2_ss, up2_n, up2_sn, ur_s, ur_n, Nat.reduceMul, Nat.reduceAdd, Nat.add_zero, pk_sub, pk_m1, Nat.add_sub_cancel, hn0, m0, p1, p2, u0, u6]) | (simp (disch := omega) only [nI_clamp, pk_mul, nI_add, oi1, up2_ss, up2_n, up2_sn, ur_s, ur_n, Nat.reduceMul, Nat.reduceAdd, Nat.add_zero, pk_sub, pk_m1, Nat.add_sub_cancel, hn0, m0, g0, g1, g5, g6, mc1]) | (simp (disch := omega) only [nI_clamp, pk_mul, nI_add, oi1, up2_ss, up2_n, up2_sn, ur_s, ur_n, Nat.reduceMul, Nat.reduceAdd, Nat.add_zero, pk_sub, pk_m1, Nat.add_sub_cancel, hn0, m0]) | skip)
            refine xr_sipush (v := nI 400) (n := 198) dX8_runs_195 (by decide) rfl ?_
            refine xr_icmp_ne (tgt := 219) (n := 201) dX8_runs_198 (by decide) rfl (fun h198 => ?_) (fun h198 => ?_)
            · have ht4 : t < 400 := by ((try simp (disch := omega) only [i_lt, i_le, i_eq, nt, i_m1, Int32.toInt_zero] at *); omega)
              obtain ⟨k0, k1, k2, k3, k4, k6, k5⟩ := hW.1.2 s hsn
              have g0 : μ 5 (1 + 7 * s) = nI (P s 0) := hPm.2 s 0 hsn (by omega)
              have g1 : μ 5 (1 + 7 * s + 1) = nI (P s 1) := hPm.2 s 1 hsn (by omega)
              have g5 : μ 5 (1 + 7 * s + 5) = nI (P s 5) := hPm.2 s 5 hsn (by omega)
              have g6 : μ 5 (1 + 7 * s + 6) = nI (P s 6) := hPm.2 s 6 hsn (by omega)
              have mc1 : μ 9 (6 * sd + P s 1) = δ 1 (P s 1) := mc _ k1
              have hRs := arun_step (P := P) (δ := δ) ht4 hsn
              rw [← hat9, hR] at hRs
              refine xr_aload_n (n := 220) dX8_runs_219 rfl rfl ?_
              refine xr_get (n := 223) dX8_runs_220 fl_X8_40 (by first | exact mput_0 _ _ _ | exact mput_r (by decide)) (by rfl) rfl ?_
              refine xr_bipush (v := nI 6) (n := 225) dX8_runs_223 (by decide) rfl ?_
              refine xr_iload_n (n := 226) dX8_runs_225 rfl rfl ?_
              refine xr_imul (n := 227) dX8_runs_226 rfl ?_
              (first | (simp (disch := omega) only [nI_clamp, pk_mul, nI_add, oi1, up2_ss, up2_n, up2_sn, ur_s, ur_n, Nat.reduceMul, Nat.reduceAdd, Nat.add_zero, pk_sub, pk_m1, Nat.add_sub_cancel, hn0, m0, p1, p2, u0, u6, g0, g1, g5, g6, mc1]) | (simp (disch := omega) only [nI_clamp, pk_mul, nI_add, oi1, up2_ss, up2_n, up2_sn, ur_s, ur_n, Nat.reduceMul, Nat.reduceAdd, Nat.add_zero, pk_sub, pk_m1, Nat.add_sub_cancel, hn0, m0, p1, p2, u0, u6]) | (simp (disch := omega) only [nI_clamp, pk_mul, nI_add, oi1, up2_ss, up2_n, up2_sn, ur_s, ur_n, Nat.reduceMul, Nat.reduceAdd, Nat.add_zero, pk_sub, pk_m1, Nat.add_sub_cancel, hn0, m0, g0, g1, g5, g6, mc1]) | (simp (disch := omega) only [nI_clamp, pk_mul, nI_add, oi1, up2_ss, up2_n, up2_sn, ur_s, ur_n, Nat.reduceMul, Nat.reduceAdd, Nat.add_zero, pk_sub, pk_m1, Nat.add_sub_cancel, hn0, m0]) | skip)
              refine xr_dup2 (n := 228) dX8_runs_227 rfl rfl rfl ?_
              refine xr_iaload (n := 229) dX8_runs_228 (by first | exact mput_0 _ _ _ | exact mput_r (by decide)) (by first | exact vp_in_nI (by omega) (by omega)) rfl ?_
              (first | (simp (disch := omega) only [nI_clamp, pk_mul, nI_add, oi1, up2_ss, up2_n, up2_sn, ur_s, ur_n, Nat.reduceMul, Nat.reduceAdd, Nat.add_zero, pk_sub, pk_m1, Nat.add_sub_cancel, hn0, m0, p1, p2, u0, u6, g0, g1, g5, g6, mc1]) | (simp (disch := omega) only [nI_clamp, pk_mul, nI_add, oi1, up2_ss, up2_n, up2_sn, ur_s, ur_n, Nat.reduceMul, Nat.reduceAdd, Nat.add_zero, pk_sub, pk_m1, Nat.add_sub_cancel, hn0, m0, p1, p2, u0, u6]) | (simp (disch := omega) only [nI_clamp, pk_mul, nI_add, oi1, up2_ss, up2_n, up2_sn, ur_s, ur_n, Nat.reduceMul, Nat.reduceAdd, Nat.add_zero, pk_sub, pk_m1, Nat.add_sub_cancel, hn0, m0, g0, g1, g5, g6, mc1]) | (simp (disch := omega) only [nI_clamp, pk_mul, nI_add, oi1, up2_ss, up2_n, up2_sn, ur_s, ur_n, Nat.reduceMul, Nat.reduceAdd, Nat.add_zero, pk_sub, pk_m1, Nat.add_sub_cancel, hn0, m0]) | skip)
              refine xr_iconst (v := nI 1) (n := 230) dX8_runs_229 (by decide) rfl ?_
              refine xr_iadd (n := 231) dX8_runs_230 rfl ?_
              (first | (simp (disch := omega) only [nI_clamp, pk_mul, nI_add, oi1, up2_ss, up2_n, up2_sn, ur_s, ur_n, Nat.reduceMul, Nat.reduceAdd, Nat.add_zero, pk_sub, pk_m1, Nat.add_sub_cancel, hn0, m0, p1, p2, u0, u6, g0, g1, g5, g6, mc1]) | (simp (disch := omega) only [nI_clamp, pk_mul, nI_add, oi1, up2_ss, up2_n, up2_sn, ur_s, ur_n, Nat.reduceMul, Nat.reduceAdd, Nat.add_zero, pk_sub, pk_m1, Nat.add_sub_cancel, hn0, m0, p1, p2, u0, u6]) | (simp (disch := omega) only [nI_clamp, pk_mul, nI_add, oi1, up2_ss, up2_n, up2_sn, ur_s, ur_n, Nat.reduceMul, Nat.reduceAdd, Nat.add_zero, pk_sub, pk_m1, Nat.add_sub_cancel, hn0, m0, g0, g1, g5, g6, mc1]) | (simp (disch := omega) only [nI_clamp, pk_mul, nI_add, oi1, up2_ss, up2_n, up2_sn, ur_s, ur_n, Nat.reduceMul, Nat.reduceAdd, Nat.add_zero, pk_sub, pk_m1, Nat.add_sub_cancel, hn0, m0]) | skip)
              refine xq_iastore (n := 232) dX8_runs_231 (by first | exact mput_0 _ _ _ | exact mput_r (by decide)) (by first | exact vp_in_nI (by omega) (by omega)) rfl ?_
              simp (disch := omega) only [nI_clamp, List.set, mw_0, mw_1, mw_2, mw_3, mw_4, mw_5, mw_6, mw_7, mw_8, mw_9, mw_10, mw_11, mw_12, mw_13, mw_14, mw_15, mw_16, mw_17, mw_18, mw_19]
              refine xr_aload_n (n := 233) dX8_runs_232 rfl rfl ?_
              refine xr_iload (n := 235) dX8_runs_233 rfl rfl ?_
              refine xr_iconst (v := nI 0) (n := 236) dX8_runs_235 (by decide) rfl ?_
              refine xr_callV (y2 := mX8_of) (As := [_, _]) (n := 239) dX8_runs_236 lm_X8_124 pm_X8_of pi_X8_of (by first | exact mput_0 _ _ _ | exact mput_r (by decide)) rfl rfl rfl (by simp [Value.category]) rfl ⟨Nat.le_refl _, Nat.le_refl _⟩ ?_
              refine s_X8_of (by omega) (by omega) ?_
              dsimp only [xK, xps]
              (first | (simp (disch := omega) only [nI_clamp, pk_mul, nI_add, oi1, up2_ss, up2_n, up2_sn, ur_s, ur_n, Nat.reduceMul, Nat.reduceAdd, Nat.add_zero, pk_sub, pk_m1, Nat.add_sub_cancel, hn0, m0, p1, p2, u0, u6, g0, g1, g5, g6, mc1]) | (simp (disch := omega) only [nI_clamp, pk_mul, nI_add, oi1, up2_ss, up2_n, up2_sn, ur_s, ur_n, Nat.reduceMul, Nat.reduceAdd, Nat.add_zero, pk_sub, pk_m1, Nat.add_sub_cancel, hn0, m0, p1, p2, u0, u6]) | (simp (disch := omega) only [nI_clamp, pk_mul, nI_add, oi1, up2_ss, up2_n, up2_sn, ur_s, ur_n, Nat.reduceMul, Nat.reduceAdd, Nat.add_zero, pk_sub, pk_m1, Nat.add_sub_cancel, hn0, m0, g0, g1, g5, g6, mc1]) | (simp (disch := omega) only [nI_clamp, pk_mul, nI_add, oi1, up2_ss, up2_n, up2_sn, ur_s, ur_n, Nat.reduceMul, Nat.reduceAdd, Nat.add_zero, pk_sub, pk_m1, Nat.add_sub_cancel, hn0, m0]) | skip)
              refine xr_istore (n := 241) dX8_runs_239 rfl rfl ?_
              simp only [xst, Nat.beq, List.filter, Bool.not_true, Bool.not_false]
              have hkc : P s 0 ≤ 2 ∨ P s 0 = 3 ∨ P s 0 = 4 := by omega
              rcases hkc with hk | hk | hk
              · refine xr_iload (n := 243) dX8_runs_241 rfl rfl ?_
                refine xr_iconst (v := nI 3) (n := 244) dX8_runs_243 (by decide) rfl ?_
                refine xr_icmp_lt (tgt := 271) (n := 247) dX8_runs_244 (by decide) rfl (fun h244 => ?_) (fun h244 => by (exfalso; ((try simp (disch := omega) only [i_lt, i_le, i_eq, nt, i_m1, Int32.toInt_zero] at *); omega)))
                refine xr_iconst (v := nI 0) (n := 272) dX8_runs_271 (by decide) rfl ?_
                refine xr_istore (n := 274) dX8_runs_272 rfl rfl ?_
                simp only [xst, Nat.beq, List.filter, Bool.not_true, Bool.not_false]
                refine xr_iload (n := 276) dX8_runs_274 rfl rfl ?_
                refine xr_iconst (v := nI 3) (n := 277) dX8_runs_276 (by decide) rfl ?_
                refine xr_icmp_ne (tgt := 408) (n := 280) dX8_runs_277 (by decide) rfl (fun h277 => ?_) (fun h277 => by (exfalso; ((try simp (disch := omega) only [i_lt, i_le, i_eq, nt, i_m1, Int32.toInt_zero] at *); omega)))
                refine xr_iload (n := 410) dX8_runs_408 rfl rfl ?_
                refine xr_iconst (v := nI 4) (n := 411) dX8_runs_410 (by decide) rfl ?_
                refine xr_icmp_ne (tgt := 480) (n := 414) dX8_runs_411 (by decide) rfl (fun h411 => ?_) (fun h411 => by (exfalso; ((try simp (disch := omega) only [i_lt, i_le, i_eq, nt, i_m1, Int32.toInt_zero] at *); omega)))
                refine xr_aload_n (n := 481) dX8_runs_480 rfl rfl ?_
                refine xr_iload_n (n := 482) dX8_runs_481 rfl rfl ?_
                refine xr_iload (n := 484) dX8_runs_482 rfl rfl ?_
                refine xr_iload (n := 486) dX8_runs_484 rfl rfl ?_
                refine xr_callV (y2 := mX8_does) (As := [_, _, _]) (n := 489) dX8_runs_486 lm_X8_156 pm_X8_does pi_X8_does (by first | exact mput_0 _ _ _ | exact mput_r (by decide)) rfl rfl rfl (by simp [Value.category]) rfl ⟨Nat.le_refl _, Nat.le_refl _⟩ ?_
                refine s_X8_does (n2 := tl) (n3 := mk) (st := t) hsd hPm hW.1 hsn hk (by first | assumption | rfl | (simp (disch := omega) only [up2_ss, up2_n, up2_sn]; first | done | assumption | rfl)) (by omega) (by first | assumption | rfl | (simp (disch := omega) only [up2_ss, up2_n, up2_sn]; first | done | assumption | rfl)) (by omega) (by first | rfl | assumption | simp (disch := omega) only [up2_ss]) (by omega) ?_
                dsimp only [xK, xps]
                refine xr_iinc (n := 492) dX8_runs_489 rfl rfl (rfl) rfl ?_
                simp only [xst, Nat.beq, List.filter, Bool.not_true, Bool.not_false]
                (first | (simp (disch := omega) only [nI_clamp, pk_mul, nI_add, oi1, up2_ss, up2_n, up2_sn, ur_s, ur_n, Nat.reduceMul, Nat.reduceAdd, Nat.add_zero, pk_sub, pk_m1, Nat.add_sub_cancel, g0, g1, g5, g6, mc1, m0, hn0]) | skip)
                refine xr_iconst (v := nI 0) (n := 493) dX8_runs_492 (by decide) rfl ?_
                refine xr_istore (n := 495) dX8_runs_493 rfl rfl ?_
                simp only [xst, Nat.beq, List.filter, Bool.not_true, Bool.not_false]
                refine xr_goto (n := 73) dX8_runs_495 (by decide) ?_
                refine xX.drop 8 ?_
                refine xX.drop 9 ?_
                simp only [xst, Nat.beq, List.filter, Bool.not_true, Bool.not_false]
                obtain ⟨-, -, mk9, tl9, hI9⟩ := RI_plain hW hI hlt hk ht4
                exact ih fr (d1 + 1) _ 0 _ _ _ _ _ _ _ _ (me_s hN ht4 (Nat.le_succ _)) (Or.inl rfl) hdp hI9 (by rw [← hat9]; first | exact hRs.symm | (rw [hat9]; rw [hat9] at hRs; exact hRs.symm))
              · refine xr_iload (n := 243) dX8_runs_241 rfl rfl ?_
                refine xr_iconst (v := nI 3) (n := 244) dX8_runs_243 (by decide) rfl ?_
                refine xr_icmp_lt (tgt := 271) (n := 247) dX8_runs_244 (by decide) rfl (fun h244 => by (exfalso; ((try simp (disch := omega) only [i_lt, i_le, i_eq, nt, i_m1, Int32.toInt_zero] at *); omega))) (fun h244 => ?_)
                refine xr_aload_n (n := 248) dX8_runs_247 rfl rfl ?_
                refine xr_get (n := 251) dX8_runs_248 fl_X8_28 (by first | exact mput_0 _ _ _ | exact mput_r (by decide)) (by rfl) rfl ?_
                refine xr_bipush (v := nI 6) (n := 253) dX8_runs_251 (by decide) rfl ?_
                refine xr_iload_n (n := 254) dX8_runs_253 rfl rfl ?_
                refine xr_imul (n := 255) dX8_runs_254 rfl ?_
                (first | (simp (disch := omega) only [nI_clamp, pk_mul, nI_add, oi1, up2_ss, up2_n, up2_sn, ur_s, ur_n, Nat.reduceMul, Nat.reduceAdd, Nat.add_zero, pk_sub, pk_m1, Nat.add_sub_cancel, g0, g1, g5, g6, mc1, m0, hn0]) | skip)
                refine xr_aload_n (n := 256) dX8_runs_255 rfl rfl ?_
                refine xr_iload (n := 258) dX8_runs_256 rfl rfl ?_
                refine xr_iconst (v := nI 1) (n := 259) dX8_runs_258 (by decide) rfl ?_
                refine xr_callV (y2 := mX8_of) (As := [_, _]) (n := 262) dX8_runs_259 lm_X8_124 pm_X8_of pi_X8_of (by first | exact mput_0 _ _ _ | exact mput_r (by decide)) rfl rfl rfl (by simp [Value.category]) rfl ⟨Nat.le_refl _, Nat.le_refl _⟩ ?_
                refine s_X8_of (by omega) (by omega) ?_
                dsimp only [xK, xps]
                (first | (simp (disch := omega) only [nI_clamp, pk_mul, nI_add, oi1, up2_ss, up2_n, up2_sn, ur_s, ur_n, Nat.reduceMul, Nat.reduceAdd, Nat.add_zero, pk_sub, pk_m1, Nat.add_sub_cancel, g0, g1, g5, g6, mc1, m0, hn0]) | skip)
                refine xr_iadd (n := 263) dX8_runs_262 rfl ?_
                (first | (simp (disch := omega) only [nI_clamp, pk_mul, nI_add, oi1, up2_ss, up2_n, up2_sn, ur_s, ur_n, Nat.reduceMul, Nat.reduceAdd, Nat.add_zero, pk_sub, pk_m1, Nat.add_sub_cancel, g0, g1, g5, g6, mc1, m0, hn0]) | skip)
                refine xr_iaload (n := 264) dX8_runs_263 (by first | exact mput_0 _ _ _ | exact mput_r (by decide)) (by first | exact vp_in_nI (by omega) (by omega)) rfl ?_
                (first | (simp (disch := omega) only [nI_clamp, pk_mul, nI_add, oi1, up2_ss, up2_n, up2_sn, ur_s, ur_n, Nat.reduceMul, Nat.reduceAdd, Nat.add_zero, pk_sub, pk_m1, Nat.add_sub_cancel, g0, g1, g5, g6, mc1, m0, hn0]) | skip)
                refine xr_if_le (tgt := 271) (n := 267) dX8_runs_264 (by decide) rfl (fun h264 => ?_) (fun h264 => ?_)
                · have hcp : ¬ 0 < δ 1 (P s 1) := by ((try simp (disch := omega) only [i_lt, i_le, i_eq, nt, i_m1, Int32.toInt_zero] at *); omega)
                  refine xr_iconst (v := nI 0) (n := 272) dX8_runs_271 (by decide) rfl ?_
                  refine xr_istore (n := 274) dX8_runs_272 rfl rfl ?_
                  simp only [xst, Nat.beq, List.filter, Bool.not_true, Bool.not_false]
                  refine xr_iload (n := 276) dX8_runs_274 rfl rfl ?_
                  refine xr_iconst (v := nI 3) (n := 277) dX8_runs_276 (by decide) rfl ?_
                  refine xr_icmp_ne (tgt := 408) (n := 280) dX8_runs_277 (by decide) rfl (fun h277 => by (exfalso; ((try simp (disch := omega) only [i_lt, i_le, i_eq, nt, i_m1, Int32.toInt_zero] at *); omega))) (fun h277 => ?_)
                  refine xr_iload (n := 282) dX8_runs_280 rfl rfl ?_
                  refine xr_iload (n := 284) dX8_runs_282 rfl rfl ?_
                  refine xr_if_eq (tgt := 296) (n := 287) dX8_runs_284 (by decide) rfl (fun h284 => ?_) (fun h284 => by (exfalso; revert h284; decide))
                  refine xr_iload (n := 298) dX8_runs_296 rfl rfl ?_
                  refine xr_if_ne (tgt := 310) (n := 301) dX8_runs_298 (by decide) rfl (fun h298 => by (exfalso; revert h298; decide)) (fun h298 => ?_)
                  refine xr_iload (n := 303) dX8_runs_301 rfl rfl ?_
                  refine xr_if_eq (tgt := 310) (n := 306) dX8_runs_303 (by decide) rfl (fun h303 => ?_) (fun h303 => by (exfalso; revert h303; decide))
                  refine xr_iconst (v := nI 0) (n := 311) dX8_runs_310 (by decide) rfl ?_
                  refine xr_iadd (n := 312) dX8_runs_311 rfl ?_
                  (first | (simp (disch := omega) only [nI_clamp, pk_mul, nI_add, oi1, up2_ss, up2_n, up2_sn, ur_s, ur_n, Nat.reduceMul, Nat.reduceAdd, Nat.add_zero, pk_sub, pk_m1, Nat.add_sub_cancel, g0, g1, g5, g6, mc1, m0, hn0]) | skip)
                  refine xr_istore (n := 314) dX8_runs_312 rfl rfl ?_
                  simp only [xst, Nat.beq, List.filter, Bool.not_true, Bool.not_false]
                  refine xr_iload (n := 316) dX8_runs_314 rfl rfl ?_
                  refine xr_if_eq (tgt := 383) (n := 319) dX8_runs_316 (by decide) rfl (fun h316 => ?_) (fun h316 => by (exfalso; revert h316; decide))
                  refine xr_iload (n := 385) dX8_runs_383 rfl rfl ?_
                  refine xr_if_eq (tgt := 395) (n := 388) dX8_runs_385 (by decide) rfl (fun h385 => ?_) (fun h385 => by (exfalso; revert h385; decide))
                  refine xr_aload_n (n := 396) dX8_runs_395 rfl rfl ?_
                  refine xr_iload (n := 398) dX8_runs_396 rfl rfl ?_
                  refine xr_bipush (v := nI 6) (n := 400) dX8_runs_398 (by decide) rfl ?_
                  refine xr_callV (y2 := mX8_of) (As := [_, _]) (n := 403) dX8_runs_400 lm_X8_124 pm_X8_of pi_X8_of (by first | exact mput_0 _ _ _ | exact mput_r (by decide)) rfl rfl rfl (by simp [Value.category]) rfl ⟨Nat.le_refl _, Nat.le_refl _⟩ ?_
                  refine s_X8_of (by omega) (by omega) ?_
                  dsimp only [xK, xps]
                  (first | (simp (disch := omega) only [nI_clamp, pk_mul, nI_add, oi1, up2_ss, up2_n, up2_sn, ur_s, ur_n, Nat.reduceMul, Nat.reduceAdd, Nat.add_zero, pk_sub, pk_m1, Nat.add_sub_cancel, g0, g1, g5, g6, mc1, m0, hn0]) | skip)
                  refine xr_istore (n := 405) dX8_runs_403 rfl rfl ?_
                  simp only [xst, Nat.beq, List.filter, Bool.not_true, Bool.not_false]
                  refine xr_goto (n := 492) dX8_runs_405 (by decide) ?_
                  refine xr_iconst (v := nI 0) (n := 493) dX8_runs_492 (by decide) rfl ?_
                  refine xr_istore (n := 495) dX8_runs_493 rfl rfl ?_
                  simp only [xst, Nat.beq, List.filter, Bool.not_true, Bool.not_false]
                  refine xr_goto (n := 73) dX8_runs_495 (by decide) ?_
                  refine xX.drop 8 ?_
                  refine xX.drop 9 ?_
                  simp only [xst, Nat.beq, List.filter, Bool.not_true, Bool.not_false]
                  obtain ⟨-, -, hI9⟩ := RI_out0 hW hI hlt hk hcp ht4
                  exact ih fr (d1 + 1) _ 0 _ _ _ _ _ _ _ _ (me_s hN ht4 (Nat.le_succ _)) (Or.inl rfl) hdp hI9 (by rw [hat9] at hRs; exact hRs.symm)
                · have hcp : 0 < δ 1 (P s 1) := by ((try simp (disch := omega) only [i_lt, i_le, i_eq, nt, i_m1, Int32.toInt_zero] at *); omega)
                  have hdq := (RI_in0 hW hI hlt hk hcp ht4).2.2.1
                  refine xr_iconst (v := nI 1) (n := 268) dX8_runs_267 (by decide) rfl ?_
                  refine xr_goto (n := 272) dX8_runs_268 (by decide) ?_
                  refine xr_istore (n := 274) dX8_runs_272 rfl rfl ?_
                  simp only [xst, Nat.beq, List.filter, Bool.not_true, Bool.not_false]
                  refine xr_iload (n := 276) dX8_runs_274 rfl rfl ?_
                  refine xr_iconst (v := nI 3) (n := 277) dX8_runs_276 (by decide) rfl ?_
                  refine xr_icmp_ne (tgt := 408) (n := 280) dX8_runs_277 (by decide) rfl (fun h277 => by (exfalso; ((try simp (disch := omega) only [i_lt, i_le, i_eq, nt, i_m1, Int32.toInt_zero] at *); omega))) (fun h277 => ?_)
                  refine xr_iload (n := 282) dX8_runs_280 rfl rfl ?_
                  refine xr_iload (n := 284) dX8_runs_282 rfl rfl ?_
                  refine xr_if_eq (tgt := 296) (n := 287) dX8_runs_284 (by decide) rfl (fun h284 => by (exfalso; revert h284; decide)) (fun h284 => ?_)
                  refine xr_iload (n := 289) dX8_runs_287 rfl rfl ?_
                  refine xr_if_ne (tgt := 296) (n := 292) dX8_runs_289 (by decide) rfl (fun h289 => by (exfalso; revert h289; decide)) (fun h289 => ?_)
                  refine xr_iconst (v := nI 1) (n := 293) dX8_runs_292 (by decide) rfl ?_
                  refine xr_goto (n := 311) dX8_runs_293 (by decide) ?_
                  refine xr_iadd (n := 312) dX8_runs_311 rfl ?_
                  (first | (simp (disch := omega) only [nI_clamp, pk_mul, nI_add, oi1, up2_ss, up2_n, up2_sn, ur_s, ur_n, Nat.reduceMul, Nat.reduceAdd, Nat.add_zero, pk_sub, pk_m1, Nat.add_sub_cancel, g0, g1, g5, g6, mc1, m0, hn0]) | skip)
                  refine xr_istore (n := 314) dX8_runs_312 rfl rfl ?_
                  simp only [xst, Nat.beq, List.filter, Bool.not_true, Bool.not_false]
                  refine xr_iload (n := 316) dX8_runs_314 rfl rfl ?_
                  refine xr_if_eq (tgt := 383) (n := 319) dX8_runs_316 (by decide) rfl (fun h316 => by (exfalso; revert h316; decide)) (fun h316 => ?_)
                  refine xr_aload_n (n := 320) dX8_runs_319 rfl rfl ?_
                  refine xr_get (n := 323) dX8_runs_320 fl_X8_49 (by first | exact mput_0 _ _ _ | exact mput_r (by decide)) (by rfl) rfl ?_
                  refine xr_iload (n := 325) dX8_runs_323 rfl rfl ?_
                  refine xr_iconst (v := nI 1) (n := 326) dX8_runs_325 (by decide) rfl ?_
                  refine xr_isub (n := 327) dX8_runs_326 rfl ?_
                  (first | (simp (disch := omega) only [nI_clamp, pk_mul, nI_add, oi1, up2_ss, up2_n, up2_sn, ur_s, ur_n, Nat.reduceMul, Nat.reduceAdd, Nat.add_zero, pk_sub, pk_m1, Nat.add_sub_cancel, g0, g1, g5, g6, mc1, m0, hn0]) | skip)
                  refine xr_iload (n := 329) dX8_runs_327 rfl rfl ?_
                  refine xr_if_eq (tgt := 344) (n := 332) dX8_runs_329 (by decide) rfl (fun h329 => ?_) (fun h329 => by (exfalso; revert h329; decide))
                  refine xr_iconst (v := nI 0) (n := 345) dX8_runs_344 (by decide) rfl ?_
                  refine xq_iastore (n := 346) dX8_runs_345 (by first | exact mput_0 _ _ _ | exact mput_r (by decide)) (by first | exact vp_in_nI (by omega) (by omega)) rfl ?_
                  simp (disch := omega) only [nI_clamp, List.set, mw_0, mw_1, mw_2, mw_3, mw_4, mw_5, mw_6, mw_7, mw_8, mw_9, mw_10, mw_11, mw_12, mw_13, mw_14, mw_15, mw_16, mw_17, mw_18, mw_19]
                  refine xr_aload_n (n := 347) dX8_runs_346 rfl rfl ?_
                  refine xr_get (n := 350) dX8_runs_347 fl_X8_43 (by first | exact mput_0 _ _ _ | exact mput_r (by decide)) (by rfl) rfl ?_
                  refine xr_iload (n := 352) dX8_runs_350 rfl rfl ?_
                  refine xr_iconst (v := nI 1) (n := 353) dX8_runs_352 (by decide) rfl ?_
                  refine xr_isub (n := 354) dX8_runs_353 rfl ?_
                  (first | (simp (disch := omega) only [nI_clamp, pk_mul, nI_add, oi1, up2_ss, up2_n, up2_sn, ur_s, ur_n, Nat.reduceMul, Nat.reduceAdd, Nat.add_zero, pk_sub, pk_m1, Nat.add_sub_cancel, g0, g1, g5, g6, mc1, m0, hn0]) | skip)
                  refine xr_iload (n := 356) dX8_runs_354 rfl rfl ?_
                  refine xq_iastore (n := 357) dX8_runs_356 (by first | exact mput_0 _ _ _ | exact mput_r (by decide)) (by first | exact vp_in_nI (by omega) (by omega)) rfl ?_
                  simp (disch := omega) only [nI_clamp, List.set, mw_0, mw_1, mw_2, mw_3, mw_4, mw_5, mw_6, mw_7, mw_8, mw_9, mw_10, mw_11, mw_12, mw_13, mw_14, mw_15, mw_16, mw_17, mw_18, mw_19]
                  refine xr_aload_n (n := 358) dX8_runs_357 rfl rfl ?_
                  refine xr_get (n := 361) dX8_runs_358 fl_X8_46 (by first | exact mput_0 _ _ _ | exact mput_r (by decide)) (by rfl) rfl ?_
                  refine xr_iload (n := 363) dX8_runs_361 rfl rfl ?_
                  refine xr_iconst (v := nI 1) (n := 364) dX8_runs_363 (by decide) rfl ?_
                  refine xr_isub (n := 365) dX8_runs_364 rfl ?_
                  (first | (simp (disch := omega) only [nI_clamp, pk_mul, nI_add, oi1, up2_ss, up2_n, up2_sn, ur_s, ur_n, Nat.reduceMul, Nat.reduceAdd, Nat.add_zero, pk_sub, pk_m1, Nat.add_sub_cancel, g0, g1, g5, g6, mc1, m0, hn0]) | skip)
                  refine xr_aload_n (n := 366) dX8_runs_365 rfl rfl ?_
                  refine xr_iload (n := 368) dX8_runs_366 rfl rfl ?_
                  refine xr_bipush (v := nI 6) (n := 370) dX8_runs_368 (by decide) rfl ?_
                  refine xr_callV (y2 := mX8_of) (As := [_, _]) (n := 373) dX8_runs_370 lm_X8_124 pm_X8_of pi_X8_of (by first | exact mput_0 _ _ _ | exact mput_r (by decide)) rfl rfl rfl (by simp [Value.category]) rfl ⟨Nat.le_refl _, Nat.le_refl _⟩ ?_
                  refine s_X8_of (by omega) (by omega) ?_
                  dsimp only [xK, xps]
                  (first | (simp (disch := omega) only [nI_clamp, pk_mul, nI_add, oi1, up2_ss, up2_n, up2_sn, ur_s, ur_n, Nat.reduceMul, Nat.reduceAdd, Nat.add_zero, pk_sub, pk_m1, Nat.add_sub_cancel, g0, g1, g5, g6, mc1, m0, hn0]) | skip)
                  refine xq_iastore (n := 374) dX8_runs_373 (by first | exact mput_0 _ _ _ | exact mput_r (by decide)) (by first | exact vp_in_nI (by omega) (by omega)) rfl ?_
                  simp (disch := omega) only [nI_clamp, List.set, mw_0, mw_1, mw_2, mw_3, mw_4, mw_5, mw_6, mw_7, mw_8, mw_9, mw_10, mw_11, mw_12, mw_13, mw_14, mw_15, mw_16, mw_17, mw_18, mw_19]
                  refine xr_aload_n (n := 375) dX8_runs_374 rfl rfl ?_
                  refine xr_iload_n (n := 376) dX8_runs_375 rfl rfl ?_
                  refine xr_iload (n := 378) dX8_runs_376 rfl rfl ?_
                  refine xr_iconst (v := nI 1) (n := 379) dX8_runs_378 (by decide) rfl ?_
                  refine xr_isub (n := 380) dX8_runs_379 rfl ?_
                  (first | (simp (disch := omega) only [nI_clamp, pk_mul, nI_add, oi1, up2_ss, up2_n, up2_sn, ur_s, ur_n, Nat.reduceMul, Nat.reduceAdd, Nat.add_zero, pk_sub, pk_m1, Nat.add_sub_cancel, g0, g1, g5, g6, mc1, m0, hn0]) | skip)
                  refine xr_callV (y2 := mX8_roundOf) (As := [_, _]) (n := 383) dX8_runs_380 lm_X8_152 pm_X8_roundOf pi_X8_roundOf (by first | exact mput_0 _ _ _ | exact mput_r (by decide)) rfl rfl rfl (by simp [Value.category]) rfl ⟨Nat.le_refl _, Nat.le_refl _⟩ ?_
                  refine s_X8_roundOf (a := 0) (b := rd) (e := mo) hsd (by omega) (by first | assumption | (simp (disch := omega) only [up2_ss, up2_n, up2_sn]; first | done | assumption)) (by first | assumption | rfl | (simp (disch := omega) only [up2_ss, up2_n, up2_sn]; first | done | assumption | rfl)) (by first | assumption | rfl | (simp (disch := omega) only [up2_ss, up2_n, up2_sn]; first | done | assumption | rfl)) (by omega) (by omega) (by omega) ?_
                  dsimp only [xK, xps]
                  refine xr_iload (n := 385) dX8_runs_383 rfl rfl ?_
                  refine xr_if_eq (tgt := 395) (n := 388) dX8_runs_385 (by decide) rfl (fun h385 => by (exfalso; revert h385; decide)) (fun h385 => ?_)
                  refine xr_iload (n := 390) dX8_runs_388 rfl rfl ?_
                  refine xr_iconst (v := nI 1) (n := 391) dX8_runs_390 (by decide) rfl ?_
                  refine xr_iadd (n := 392) dX8_runs_391 rfl ?_
                  (first | (simp (disch := omega) only [nI_clamp, pk_mul, nI_add, oi1, up2_ss, up2_n, up2_sn, ur_s, ur_n, Nat.reduceMul, Nat.reduceAdd, Nat.add_zero, pk_sub, pk_m1, Nat.add_sub_cancel, g0, g1, g5, g6, mc1, m0, hn0]) | skip)
                  refine xr_goto (n := 403) dX8_runs_392 (by decide) ?_
                  refine xr_istore (n := 405) dX8_runs_403 rfl rfl ?_
                  simp only [xst, Nat.beq, List.filter, Bool.not_true, Bool.not_false]
                  refine xr_goto (n := 492) dX8_runs_405 (by decide) ?_
                  refine xr_iconst (v := nI 0) (n := 493) dX8_runs_492 (by decide) rfl ?_
                  refine xr_istore (n := 495) dX8_runs_493 rfl rfl ?_
                  simp only [xst, Nat.beq, List.filter, Bool.not_true, Bool.not_false]
                  refine xr_goto (n := 73) dX8_runs_495 (by decide) ?_
                  refine xX.drop 8 ?_
                  refine xX.drop 9 ?_
                  simp only [xst, Nat.beq, List.filter, Bool.not_true, Bool.not_false]
                  obtain ⟨-, -, hd4, hI9⟩ := RI_in0 hW hI hlt hk hcp ht4
                  exact ih _ ((d1 + 1) + 1) _ 0 _ _ _ _ _ _ _ _ (me_s hN ht4 (Nat.le_refl _)) (Or.inl rfl) (Nat.succ_le_succ hd4) hI9 (by rw [hat9] at hRs; exact hRs.symm)
              · refine xr_iload (n := 243) dX8_runs_241 rfl rfl ?_
                refine xr_iconst (v := nI 3) (n := 244) dX8_runs_243 (by decide) rfl ?_
                refine xr_icmp_lt (tgt := 271) (n := 247) dX8_runs_244 (by decide) rfl (fun h244 => by (exfalso; ((try simp (disch := omega) only [i_lt, i_le, i_eq, nt, i_m1, Int32.toInt_zero] at *); omega))) (fun h244 => ?_)
                refine xr_aload_n (n := 248) dX8_runs_247 rfl rfl ?_
                refine xr_get (n := 251) dX8_runs_248 fl_X8_28 (by first | exact mput_0 _ _ _ | exact mput_r (by decide)) (by rfl) rfl ?_
                refine xr_bipush (v := nI 6) (n := 253) dX8_runs_251 (by decide) rfl ?_
                refine xr_iload_n (n := 254) dX8_runs_253 rfl rfl ?_
                refine xr_imul (n := 255) dX8_runs_254 rfl ?_
                (first | (simp (disch := omega) only [nI_clamp, pk_mul, nI_add, oi1, up2_ss, up2_n, up2_sn, ur_s, ur_n, Nat.reduceMul, Nat.reduceAdd, Nat.add_zero, pk_sub, pk_m1, Nat.add_sub_cancel, g0, g1, g5, g6, mc1, m0, hn0]) | skip)
                refine xr_aload_n (n := 256) dX8_runs_255 rfl rfl ?_
                refine xr_iload (n := 258) dX8_runs_256 rfl rfl ?_
                refine xr_iconst (v := nI 1) (n := 259) dX8_runs_258 (by decide) rfl ?_
                refine xr_callV (y2 := mX8_of) (As := [_, _]) (n := 262) dX8_runs_259 lm_X8_124 pm_X8_of pi_X8_of (by first | exact mput_0 _ _ _ | exact mput_r (by decide)) rfl rfl rfl (by simp [Value.category]) rfl ⟨Nat.le_refl _, Nat.le_refl _⟩ ?_
                refine s_X8_of (by omega) (by omega) ?_
                dsimp only [xK, xps]
                (first | (simp (disch := omega) only [nI_clamp, pk_mul, nI_add, oi1, up2_ss, up2_n, up2_sn, ur_s, ur_n, Nat.reduceMul, Nat.reduceAdd, Nat.add_zero, pk_sub, pk_m1, Nat.add_sub_cancel, g0, g1, g5, g6, mc1, m0, hn0]) | skip)
                refine xr_iadd (n := 263) dX8_runs_262 rfl ?_
                (first | (simp (disch := omega) only [nI_clamp, pk_mul, nI_add, oi1, up2_ss, up2_n, up2_sn, ur_s, ur_n, Nat.reduceMul, Nat.reduceAdd, Nat.add_zero, pk_sub, pk_m1, Nat.add_sub_cancel, g0, g1, g5, g6, mc1, m0, hn0]) | skip)
                refine xr_iaload (n := 264) dX8_runs_263 (by first | exact mput_0 _ _ _ | exact mput_r (by decide)) (by first | exact vp_in_nI (by omega) (by omega)) rfl ?_
                (first | (simp (disch := omega) only [nI_clamp, pk_mul, nI_add, oi1, up2_ss, up2_n, up2_sn, ur_s, ur_n, Nat.reduceMul, Nat.reduceAdd, Nat.add_zero, pk_sub, pk_m1, Nat.add_sub_cancel, g0, g1, g5, g6, mc1, m0, hn0]) | skip)
                refine xr_if_le (tgt := 271) (n := 267) dX8_runs_264 (by decide) rfl (fun h264 => ?_) (fun h264 => ?_)
                · have hcp : ¬ 0 < δ 1 (P s 1) := by ((try simp (disch := omega) only [i_lt, i_le, i_eq, nt, i_m1, Int32.toInt_zero] at *); omega)
                  have hdq := (RI_ch hW hI hlt hk ht4).2.2.1
                  refine xr_iconst (v := nI 0) (n := 272) dX8_runs_271 (by decide) rfl ?_
                  refine xr_istore (n := 274) dX8_runs_272 rfl rfl ?_
                  simp only [xst, Nat.beq, List.filter, Bool.not_true, Bool.not_false]
                  refine xr_iload (n := 276) dX8_runs_274 rfl rfl ?_
                  refine xr_iconst (v := nI 3) (n := 277) dX8_runs_276 (by decide) rfl ?_
                  refine xr_icmp_ne (tgt := 408) (n := 280) dX8_runs_277 (by decide) rfl (fun h277 => ?_) (fun h277 => by (exfalso; ((try simp (disch := omega) only [i_lt, i_le, i_eq, nt, i_m1, Int32.toInt_zero] at *); omega)))
                  refine xr_iload (n := 410) dX8_runs_408 rfl rfl ?_
                  refine xr_iconst (v := nI 4) (n := 411) dX8_runs_410 (by decide) rfl ?_
                  refine xr_icmp_ne (tgt := 480) (n := 414) dX8_runs_411 (by decide) rfl (fun h411 => by (exfalso; ((try simp (disch := omega) only [i_lt, i_le, i_eq, nt, i_m1, Int32.toInt_zero] at *); omega))) (fun h411 => ?_)
                  refine xr_aload_n (n := 415) dX8_runs_414 rfl rfl ?_
                  refine xr_get (n := 418) dX8_runs_415 fl_X8_43 (by first | exact mput_0 _ _ _ | exact mput_r (by decide)) (by rfl) rfl ?_
                  refine xr_iload (n := 420) dX8_runs_418 rfl rfl ?_
                  refine xr_iload (n := 422) dX8_runs_420 rfl rfl ?_
                  refine xq_iastore (n := 423) dX8_runs_422 (by first | exact mput_0 _ _ _ | exact mput_r (by decide)) (by first | exact vp_in_nI (by omega) (by omega)) rfl ?_
                  simp (disch := omega) only [nI_clamp, List.set, mw_0, mw_1, mw_2, mw_3, mw_4, mw_5, mw_6, mw_7, mw_8, mw_9, mw_10, mw_11, mw_12, mw_13, mw_14, mw_15, mw_16, mw_17, mw_18, mw_19]
                  refine xr_aload_n (n := 424) dX8_runs_423 rfl rfl ?_
                  refine xr_get (n := 427) dX8_runs_424 fl_X8_46 (by first | exact mput_0 _ _ _ | exact mput_r (by decide)) (by rfl) rfl ?_
                  refine xr_iload (n := 429) dX8_runs_427 rfl rfl ?_
                  refine xr_iload (n := 431) dX8_runs_429 rfl rfl ?_
                  refine xr_if_eq (tgt := 444) (n := 434) dX8_runs_431 (by decide) rfl (fun h431 => ?_) (fun h431 => by (exfalso; revert h431; decide))
                  refine xr_aload_n (n := 445) dX8_runs_444 rfl rfl ?_
                  refine xr_iload (n := 447) dX8_runs_445 rfl rfl ?_
                  refine xr_bipush (v := nI 6) (n := 449) dX8_runs_447 (by decide) rfl ?_
                  refine xr_callV (y2 := mX8_of) (As := [_, _]) (n := 452) dX8_runs_449 lm_X8_124 pm_X8_of pi_X8_of (by first | exact mput_0 _ _ _ | exact mput_r (by decide)) rfl rfl rfl (by simp [Value.category]) rfl ⟨Nat.le_refl _, Nat.le_refl _⟩ ?_
                  refine s_X8_of (by omega) (by omega) ?_
                  dsimp only [xK, xps]
                  (first | (simp (disch := omega) only [nI_clamp, pk_mul, nI_add, oi1, up2_ss, up2_n, up2_sn, ur_s, ur_n, Nat.reduceMul, Nat.reduceAdd, Nat.add_zero, pk_sub, pk_m1, Nat.add_sub_cancel, g0, g1, g5, g6, mc1, m0, hn0]) | skip)
                  refine xq_iastore (n := 453) dX8_runs_452 (by first | exact mput_0 _ _ _ | exact mput_r (by decide)) (by first | exact vp_in_nI (by omega) (by omega)) rfl ?_
                  simp (disch := omega) only [nI_clamp, List.set, mw_0, mw_1, mw_2, mw_3, mw_4, mw_5, mw_6, mw_7, mw_8, mw_9, mw_10, mw_11, mw_12, mw_13, mw_14, mw_15, mw_16, mw_17, mw_18, mw_19]
                  refine xr_iinc (n := 456) dX8_runs_453 rfl rfl (rfl) rfl ?_
                  simp only [xst, Nat.beq, List.filter, Bool.not_true, Bool.not_false]
                  (first | (simp (disch := omega) only [nI_clamp, pk_mul, nI_add, oi1, up2_ss, up2_n, up2_sn, ur_s, ur_n, Nat.reduceMul, Nat.reduceAdd, Nat.add_zero, pk_sub, pk_m1, Nat.add_sub_cancel, g0, g1, g5, g6, mc1, m0, hn0]) | skip)
                  refine xr_iload (n := 458) dX8_runs_456 rfl rfl ?_
                  refine xr_if_eq (tgt := 468) (n := 461) dX8_runs_458 (by decide) rfl (fun h458 => ?_) (fun h458 => by (exfalso; revert h458; decide))
                  refine xr_aload_n (n := 469) dX8_runs_468 rfl rfl ?_
                  refine xr_iload (n := 471) dX8_runs_469 rfl rfl ?_
                  refine xr_iconst (v := nI 5) (n := 472) dX8_runs_471 (by decide) rfl ?_
                  refine xr_callV (y2 := mX8_of) (As := [_, _]) (n := 475) dX8_runs_472 lm_X8_124 pm_X8_of pi_X8_of (by first | exact mput_0 _ _ _ | exact mput_r (by decide)) rfl rfl rfl (by simp [Value.category]) rfl ⟨Nat.le_refl _, Nat.le_refl _⟩ ?_
                  refine s_X8_of (by omega) (by omega) ?_
                  dsimp only [xK, xps]
                  (first | (simp (disch := omega) only [nI_clamp, pk_mul, nI_add, oi1, up2_ss, up2_n, up2_sn, ur_s, ur_n, Nat.reduceMul, Nat.reduceAdd, Nat.add_zero, pk_sub, pk_m1, Nat.add_sub_cancel, g0, g1, g5, g6, mc1, m0, hn0]) | skip)
                  refine xr_istore (n := 477) dX8_runs_475 rfl rfl ?_
                  simp only [xst, Nat.beq, List.filter, Bool.not_true, Bool.not_false]
                  refine xr_goto (n := 492) dX8_runs_477 (by decide) ?_
                  refine xr_iconst (v := nI 0) (n := 493) dX8_runs_492 (by decide) rfl ?_
                  refine xr_istore (n := 495) dX8_runs_493 rfl rfl ?_
                  simp only [xst, Nat.beq, List.filter, Bool.not_true, Bool.not_false]
                  refine xr_goto (n := 73) dX8_runs_495 (by decide) ?_
                  refine xX.drop 8 ?_
                  refine xX.drop 9 ?_
                  simp only [xst, Nat.beq, List.filter, Bool.not_true, Bool.not_false]
                  obtain ⟨-, -, hd4, hI9⟩ := RI_ch hW hI hlt hk ht4
                  exact ih _ ((d1 + 1) + 1) _ 0 _ _ _ _ _ _ _ _ (me_s hN ht4 (Nat.le_refl _)) (Or.inl rfl) (Nat.succ_le_succ hd4) (hI9.2 hcp) (by rw [hat9] at hRs; exact hRs.symm)
                · have hcp : 0 < δ 1 (P s 1) := by ((try simp (disch := omega) only [i_lt, i_le, i_eq, nt, i_m1, Int32.toInt_zero] at *); omega)
                  have hdq := (RI_ch hW hI hlt hk ht4).2.2.1
                  refine xr_iconst (v := nI 1) (n := 268) dX8_runs_267 (by decide) rfl ?_
                  refine xr_goto (n := 272) dX8_runs_268 (by decide) ?_
                  refine xr_istore (n := 274) dX8_runs_272 rfl rfl ?_
                  simp only [xst, Nat.beq, List.filter, Bool.not_true, Bool.not_false]
                  refine xr_iload (n := 276) dX8_runs_274 rfl rfl ?_
                  refine xr_iconst (v := nI 3) (n := 277) dX8_runs_276 (by decide) rfl ?_
                  refine xr_icmp_ne (tgt := 408) (n := 280) dX8_runs_277 (by decide) rfl (fun h277 => ?_) (fun h277 => by (exfalso; ((try simp (disch := omega) only [i_lt, i_le, i_eq, nt, i_m1, Int32.toInt_zero] at *); omega)))
                  refine xr_iload (n := 410) dX8_runs_408 rfl rfl ?_
                  refine xr_iconst (v := nI 4) (n := 411) dX8_runs_410 (by decide) rfl ?_
                  refine xr_icmp_ne (tgt := 480) (n := 414) dX8_runs_411 (by decide) rfl (fun h411 => by (exfalso; ((try simp (disch := omega) only [i_lt, i_le, i_eq, nt, i_m1, Int32.toInt_zero] at *); omega))) (fun h411 => ?_)
                  refine xr_aload_n (n := 415) dX8_runs_414 rfl rfl ?_
                  refine xr_get (n := 418) dX8_runs_415 fl_X8_43 (by first | exact mput_0 _ _ _ | exact mput_r (by decide)) (by rfl) rfl ?_
                  refine xr_iload (n := 420) dX8_runs_418 rfl rfl ?_
                  refine xr_iload (n := 422) dX8_runs_420 rfl rfl ?_
                  refine xq_iastore (n := 423) dX8_runs_422 (by first | exact mput_0 _ _ _ | exact mput_r (by decide)) (by first | exact vp_in_nI (by omega) (by omega)) rfl ?_
                  simp (disch := omega) only [nI_clamp, List.set, mw_0, mw_1, mw_2, mw_3, mw_4, mw_5, mw_6, mw_7, mw_8, mw_9, mw_10, mw_11, mw_12, mw_13, mw_14, mw_15, mw_16, mw_17, mw_18, mw_19]
                  refine xr_aload_n (n := 424) dX8_runs_423 rfl rfl ?_
                  refine xr_get (n := 427) dX8_runs_424 fl_X8_46 (by first | exact mput_0 _ _ _ | exact mput_r (by decide)) (by rfl) rfl ?_
                  refine xr_iload (n := 429) dX8_runs_427 rfl rfl ?_
                  refine xr_iload (n := 431) dX8_runs_429 rfl rfl ?_
                  refine xr_if_eq (tgt := 444) (n := 434) dX8_runs_431 (by decide) rfl (fun h431 => by (exfalso; revert h431; decide)) (fun h431 => ?_)
                  refine xr_aload_n (n := 435) dX8_runs_434 rfl rfl ?_
                  refine xr_iload (n := 437) dX8_runs_435 rfl rfl ?_
                  refine xr_iconst (v := nI 5) (n := 438) dX8_runs_437 (by decide) rfl ?_
                  refine xr_callV (y2 := mX8_of) (As := [_, _]) (n := 441) dX8_runs_438 lm_X8_124 pm_X8_of pi_X8_of (by first | exact mput_0 _ _ _ | exact mput_r (by decide)) rfl rfl rfl (by simp [Value.category]) rfl ⟨Nat.le_refl _, Nat.le_refl _⟩ ?_
                  refine s_X8_of (by omega) (by omega) ?_
                  dsimp only [xK, xps]
                  (first | (simp (disch := omega) only [nI_clamp, pk_mul, nI_add, oi1, up2_ss, up2_n, up2_sn, ur_s, ur_n, Nat.reduceMul, Nat.reduceAdd, Nat.add_zero, pk_sub, pk_m1, Nat.add_sub_cancel, g0, g1, g5, g6, mc1, m0, hn0]) | skip)
                  refine xr_goto (n := 452) dX8_runs_441 (by decide) ?_
                  refine xq_iastore (n := 453) dX8_runs_452 (by first | exact mput_0 _ _ _ | exact mput_r (by decide)) (by first | exact vp_in_nI (by omega) (by omega)) rfl ?_
                  simp (disch := omega) only [nI_clamp, List.set, mw_0, mw_1, mw_2, mw_3, mw_4, mw_5, mw_6, mw_7, mw_8, mw_9, mw_10, mw_11, mw_12, mw_13, mw_14, mw_15, mw_16, mw_17, mw_18, mw_19]
                  refine xr_iinc (n := 456) dX8_runs_453 rfl rfl (rfl) rfl ?_
                  simp only [xst, Nat.beq, List.filter, Bool.not_true, Bool.not_false]
                  (first | (simp (disch := omega) only [nI_clamp, pk_mul, nI_add, oi1, up2_ss, up2_n, up2_sn, ur_s, ur_n, Nat.reduceMul, Nat.reduceAdd, Nat.add_zero, pk_sub, pk_m1, Nat.add_sub_cancel, g0, g1, g5, g6, mc1, m0, hn0]) | skip)
                  refine xr_iload (n := 458) dX8_runs_456 rfl rfl ?_
                  refine xr_if_eq (tgt := 468) (n := 461) dX8_runs_458 (by decide) rfl (fun h458 => by (exfalso; revert h458; decide)) (fun h458 => ?_)
                  refine xr_iload (n := 463) dX8_runs_461 rfl rfl ?_
                  refine xr_iconst (v := nI 1) (n := 464) dX8_runs_463 (by decide) rfl ?_
                  refine xr_iadd (n := 465) dX8_runs_464 rfl ?_
                  (first | (simp (disch := omega) only [nI_clamp, pk_mul, nI_add, oi1, up2_ss, up2_n, up2_sn, ur_s, ur_n, Nat.reduceMul, Nat.reduceAdd, Nat.add_zero, pk_sub, pk_m1, Nat.add_sub_cancel, g0, g1, g5, g6, mc1, m0, hn0]) | skip)
                  refine xr_goto (n := 475) dX8_runs_465 (by decide) ?_
                  refine xr_istore (n := 477) dX8_runs_475 rfl rfl ?_
                  simp only [xst, Nat.beq, List.filter, Bool.not_true, Bool.not_false]
                  refine xr_goto (n := 492) dX8_runs_477 (by decide) ?_
                  refine xr_iconst (v := nI 0) (n := 493) dX8_runs_492 (by decide) rfl ?_
                  refine xr_istore (n := 495) dX8_runs_493 rfl rfl ?_
                  simp only [xst, Nat.beq, List.filter, Bool.not_true, Bool.not_false]
                  refine xr_goto (n := 73) dX8_runs_495 (by decide) ?_
                  refine xX.drop 8 ?_
                  refine xX.drop 9 ?_
                  simp only [xst, Nat.beq, List.filter, Bool.not_true, Bool.not_false]
                  obtain ⟨-, -, hd4, hI9⟩ := RI_ch hW hI hlt hk ht4
                  exact ih _ ((d1 + 1) + 1) _ 0 _ _ _ _ _ _ _ _ (me_s hN ht4 (Nat.le_refl _)) (Or.inl rfl) (Nat.succ_le_succ hd4) (hI9.1 hcp) (by rw [hat9] at hRs; exact hRs.symm)
            · refine xr_aload_n (n := 202) dX8_runs_201 rfl rfl ?_
              refine xr_get (n := 205) dX8_runs_202 fl_X8_40 (by first | exact mput_0 _ _ _ | exact mput_r (by decide)) (by rfl) rfl ?_
              refine xr_bipush (v := nI 6) (n := 207) dX8_runs_205 (by decide) rfl ?_
              refine xr_iload_n (n := 208) dX8_runs_207 rfl rfl ?_
              refine xr_imul (n := 209) dX8_runs_208 rfl ?_
              (first | (simp (disch := omega) only [nI_clamp, pk_mul, nI_add, oi1, up2_ss, up2_n, up2_sn, ur_s, ur_n, Nat.reduceMul, Nat.reduceAdd, Nat.add_zero, pk_sub, pk_m1, Nat.add_sub_cancel, hn0, m0, p1, p2, u0, u6, g0, g1, g5, g6, mc1]) | (simp (disch := omega) only [nI_clamp, pk_mul, nI_add, oi1, up2_ss, up2_n, up2_sn, ur_s, ur_n, Nat.reduceMul, Nat.reduceAdd, Nat.add_zero, pk_sub, pk_m1, Nat.add_sub_cancel, hn0, m0, p1, p2, u0, u6]) | (simp (disch := omega) only [nI_clamp, pk_mul, nI_add, oi1, up2_ss, up2_n, up2_sn, ur_s, ur_n, Nat.reduceMul, Nat.reduceAdd, Nat.add_zero, pk_sub, pk_m1, Nat.add_sub_cancel, hn0, m0, g0, g1, g5, g6, mc1]) | (simp (disch := omega) only [nI_clamp, pk_mul, nI_add, oi1, up2_ss, up2_n, up2_sn, ur_s, ur_n, Nat.reduceMul, Nat.reduceAdd, Nat.add_zero, pk_sub, pk_m1, Nat.add_sub_cancel, hn0, m0]) | skip)
              refine xr_iconst (v := nI 1) (n := 210) dX8_runs_209 (by decide) rfl ?_
              refine xr_iadd (n := 211) dX8_runs_210 rfl ?_
              (first | (simp (disch := omega) only [nI_clamp, pk_mul, nI_add, oi1, up2_ss, up2_n, up2_sn, ur_s, ur_n, Nat.reduceMul, Nat.reduceAdd, Nat.add_zero, pk_sub, pk_m1, Nat.add_sub_cancel, hn0, m0, p1, p2, u0, u6, g0, g1, g5, g6, mc1]) | (simp (disch := omega) only [nI_clamp, pk_mul, nI_add, oi1, up2_ss, up2_n, up2_sn, ur_s, ur_n, Nat.reduceMul, Nat.reduceAdd, Nat.add_zero, pk_sub, pk_m1, Nat.add_sub_cancel, hn0, m0, p1, p2, u0, u6]) | (simp (disch := omega) only [nI_clamp, pk_mul, nI_add, oi1, up2_ss, up2_n, up2_sn, ur_s, ur_n, Nat.reduceMul, Nat.reduceAdd, Nat.add_zero, pk_sub, pk_m1, Nat.add_sub_cancel, hn0, m0, g0, g1, g5, g6, mc1]) | (simp (disch := omega) only [nI_clamp, pk_mul, nI_add, oi1, up2_ss, up2_n, up2_sn, ur_s, ur_n, Nat.reduceMul, Nat.reduceAdd, Nat.add_zero, pk_sub, pk_m1, Nat.add_sub_cancel, hn0, m0]) | skip)
              refine xr_iconst (v := nI 1) (n := 212) dX8_runs_211 (by decide) rfl ?_
              refine xq_iastore (n := 213) dX8_runs_212 (by first | exact mput_0 _ _ _ | exact mput_r (by decide)) (by first | exact vp_in_nI (by omega) (by omega)) rfl ?_
              simp (disch := omega) only [nI_clamp, List.set, mw_0, mw_1, mw_2, mw_3, mw_4, mw_5, mw_6, mw_7, mw_8, mw_9, mw_10, mw_11, mw_12, mw_13, mw_14, mw_15, mw_16, mw_17, mw_18, mw_19]
              refine xr_iconst (v := nI 0) (n := 214) dX8_runs_213 (by decide) rfl ?_
              refine xr_istore (n := 216) dX8_runs_214 rfl rfl ?_
              simp only [xst, Nat.beq, List.filter, Bool.not_true, Bool.not_false]
              refine xr_goto (n := 73) dX8_runs_216 (by decide) ?_
              refine xr_iload (n := 75) dX8_runs_73 rfl rfl ?_
              refine xr_if_eq (tgt := 498) (n := 78) dX8_runs_75 (by decide) rfl (fun h75 => ?_) (fun h75 => by (exfalso; revert h75; decide))
              refine xr_return dX8_runs_498 rfl rfl ?_
              refine hq _ (oth13 (k := 1) hT (by omega)) ?_
              have et : t = 400 := by ((try simp (disch := omega) only [i_lt, i_le, i_eq, nt, i_m1, Int32.toInt_zero] at *); omega)
              subst et
              have e9s : at_ = e9 ∧ δ = δ9 := by
                have hR : (at_, δ) = (e9, δ9) := hR
                exact ⟨congrArg Prod.fst hR, congrArg Prod.snd hR⟩
              obtain ⟨rfl, rfl⟩ := e9s
              refine ⟨_, mk, rd, mo, tl, μ, hI.1, hM, ?_⟩
              rw [if_pos (by omega)]
          · refine xr_iconst (v := nI 0) (n := 181) dX8_runs_180 (by decide) rfl ?_
            refine xr_istore (n := 183) dX8_runs_181 rfl rfl ?_
            simp only [xst, Nat.beq, List.filter, Bool.not_true, Bool.not_false]
            refine xr_goto (n := 73) dX8_runs_183 (by decide) ?_
            refine xr_iload (n := 75) dX8_runs_73 rfl rfl ?_
            refine xr_if_eq (tgt := 498) (n := 78) dX8_runs_75 (by decide) rfl (fun h75 => ?_) (fun h75 => by (exfalso; revert h75; decide))
            refine xr_return dX8_runs_498 rfl rfl ?_
            have hn9 : s = n := by ((try simp (disch := omega) only [i_lt, i_le, i_eq, nt, i_m1, Int32.toInt_zero] at *); omega)
            have ha9 := (RI_lt hW.1 hI hpop).2 hn9
            rw [arun_end (by omega)] at hR
            refine hq _ hT ?_
            have e9s : at_ = e9 ∧ δ = δ9 := ⟨congrArg Prod.fst hR, congrArg Prod.snd hR⟩
            obtain ⟨rfl, rfl⟩ := e9s
            refine ⟨_, mk, rd, mo, tl, μ, hI.1, hM, ?_⟩
            rw [if_neg (by omega)]
        · have es : s = (fr d1).2 := by ((try simp (disch := omega) only [i_lt, i_le, i_eq, nt, i_m1, Int32.toInt_zero] at *); omega)
          refine xr_aload_n (n := 103) dX8_runs_102 rfl rfl ?_
          refine xr_get (n := 106) dX8_runs_103 fl_X8_43 (by first | exact mput_0 _ _ _ | exact mput_r (by decide)) (by rfl) rfl ?_
          refine xr_iload (n := 108) dX8_runs_106 rfl rfl ?_
          refine xr_iconst (v := nI 1) (n := 109) dX8_runs_108 (by decide) rfl ?_
          refine xr_isub (n := 110) dX8_runs_109 rfl ?_
          (first | (simp (disch := omega) only [nI_clamp, pk_mul, nI_add, oi1, up2_ss, up2_n, up2_sn, ur_s, ur_n, Nat.reduceMul, Nat.reduceAdd, Nat.add_zero, pk_sub, pk_m1, Nat.add_sub_cancel, hn0, m0, p1, p2, u0, u6, g0, g1, g5, g6, mc1]) | (simp (disch := omega) only [nI_clamp, pk_mul, nI_add, oi1, up2_ss, up2_n, up2_sn, ur_s, ur_n, Nat.reduceMul, Nat.reduceAdd, Nat.add_zero, pk_sub, pk_m1, Nat.add_sub_cancel, hn0, m0, p1, p2, u0, u6]) | (simp (disch := omega) only [nI_clamp, pk_mul, nI_add, oi1, up2_ss, up2_n, up2_sn, ur_s, ur_n, Nat.reduceMul, Nat.reduceAdd, Nat.add_zero, pk_sub, pk_m1, Nat.add_sub_cancel, hn0, m0, g0, g1, g5, g6, mc1]) | (simp (disch := omega) only [nI_clamp, pk_mul, nI_add, oi1, up2_ss, up2_n, up2_sn, ur_s, ur_n, Nat.reduceMul, Nat.reduceAdd, Nat.add_zero, pk_sub, pk_m1, Nat.add_sub_cancel, hn0, m0]) | skip)
          refine xr_iaload (n := 111) dX8_runs_110 (by first | exact mput_0 _ _ _ | exact mput_r (by decide)) (by first | exact vp_in_nI (by omega) (by omega)) rfl ?_
          (first | (simp (disch := omega) only [nI_clamp, pk_mul, nI_add, oi1, up2_ss, up2_n, up2_sn, ur_s, ur_n, Nat.reduceMul, Nat.reduceAdd, Nat.add_zero, pk_sub, pk_m1, Nat.add_sub_cancel, hn0, m0, p1, p2, u0, u6, g0, g1, g5, g6, mc1]) | (simp (disch := omega) only [nI_clamp, pk_mul, nI_add, oi1, up2_ss, up2_n, up2_sn, ur_s, ur_n, Nat.reduceMul, Nat.reduceAdd, Nat.add_zero, pk_sub, pk_m1, Nat.add_sub_cancel, hn0, m0, p1, p2, u0, u6]) | (simp (disch := omega) only [nI_clamp, pk_mul, nI_add, oi1, up2_ss, up2_n, up2_sn, ur_s, ur_n, Nat.reduceMul, Nat.reduceAdd, Nat.add_zero, pk_sub, pk_m1, Nat.add_sub_cancel, hn0, m0, g0, g1, g5, g6, mc1]) | (simp (disch := omega) only [nI_clamp, pk_mul, nI_add, oi1, up2_ss, up2_n, up2_sn, ur_s, ur_n, Nat.reduceMul, Nat.reduceAdd, Nat.add_zero, pk_sub, pk_m1, Nat.add_sub_cancel, hn0, m0]) | skip)
          refine xr_istore (n := 113) dX8_runs_111 rfl rfl ?_
          simp only [xst, Nat.beq, List.filter, Bool.not_true, Bool.not_false]
          refine xr_aload_n (n := 114) dX8_runs_113 rfl rfl ?_
          refine xr_iload (n := 116) dX8_runs_114 rfl rfl ?_
          refine xr_iconst (v := nI 0) (n := 117) dX8_runs_116 (by decide) rfl ?_
          refine xr_callV (y2 := mX8_of) (As := [_, _]) (n := 120) dX8_runs_117 lm_X8_124 pm_X8_of pi_X8_of (by first | exact mput_0 _ _ _ | exact mput_r (by decide)) rfl rfl rfl (by simp [Value.category]) rfl ⟨Nat.le_refl _, Nat.le_refl _⟩ ?_
          refine s_X8_of (by omega) (by omega) ?_
          dsimp only [xK, xps]
          (first | (simp (disch := omega) only [nI_clamp, pk_mul, nI_add, oi1, up2_ss, up2_n, up2_sn, ur_s, ur_n, Nat.reduceMul, Nat.reduceAdd, Nat.add_zero, pk_sub, pk_m1, Nat.add_sub_cancel, hn0, m0, p1, p2, u0, u6, g0, g1, g5, g6, mc1]) | (simp (disch := omega) only [nI_clamp, pk_mul, nI_add, oi1, up2_ss, up2_n, up2_sn, ur_s, ur_n, Nat.reduceMul, Nat.reduceAdd, Nat.add_zero, pk_sub, pk_m1, Nat.add_sub_cancel, hn0, m0, p1, p2, u0, u6]) | (simp (disch := omega) only [nI_clamp, pk_mul, nI_add, oi1, up2_ss, up2_n, up2_sn, ur_s, ur_n, Nat.reduceMul, Nat.reduceAdd, Nat.add_zero, pk_sub, pk_m1, Nat.add_sub_cancel, hn0, m0, g0, g1, g5, g6, mc1]) | (simp (disch := omega) only [nI_clamp, pk_mul, nI_add, oi1, up2_ss, up2_n, up2_sn, ur_s, ur_n, Nat.reduceMul, Nat.reduceAdd, Nat.add_zero, pk_sub, pk_m1, Nat.add_sub_cancel, hn0, m0]) | skip)
          refine xr_iconst (v := nI 3) (n := 121) dX8_runs_120 (by decide) rfl ?_
          refine xr_icmp_ne (tgt := 128) (n := 124) dX8_runs_121 (by decide) rfl (fun h121 => ?_) (fun h121 => ?_)
          · refine xr_iconst (v := nI 0) (n := 129) dX8_runs_128 (by decide) rfl ?_
            refine xr_istore (n := 131) dX8_runs_129 rfl rfl ?_
            simp only [xst, Nat.beq, List.filter, Bool.not_true, Bool.not_false]
            refine xr_iload (n := 133) dX8_runs_131 rfl rfl ?_
            refine xr_if_eq (tgt := 141) (n := 136) dX8_runs_133 (by decide) rfl (fun h133 => ?_) (fun h133 => by (exfalso; revert h133; decide))
            refine xr_aload_n (n := 142) dX8_runs_141 rfl rfl ?_
            refine xr_iload (n := 144) dX8_runs_142 rfl rfl ?_
            refine xr_bipush (v := nI 6) (n := 146) dX8_runs_144 (by decide) rfl ?_
            refine xr_callV (y2 := mX8_of) (As := [_, _]) (n := 149) dX8_runs_146 lm_X8_124 pm_X8_of pi_X8_of (by first | exact mput_0 _ _ _ | exact mput_r (by decide)) rfl rfl rfl (by simp [Value.category]) rfl ⟨Nat.le_refl _, Nat.le_refl _⟩ ?_
            refine s_X8_of (by omega) (by omega) ?_
            dsimp only [xK, xps]
            (first | (simp (disch := omega) only [nI_clamp, pk_mul, nI_add, oi1, up2_ss, up2_n, up2_sn, ur_s, ur_n, Nat.reduceMul, Nat.reduceAdd, Nat.add_zero, pk_sub, pk_m1, Nat.add_sub_cancel, hn0, m0, p1, p2, u0, u6, g0, g1, g5, g6, mc1]) | (simp (disch := omega) only [nI_clamp, pk_mul, nI_add, oi1, up2_ss, up2_n, up2_sn, ur_s, ur_n, Nat.reduceMul, Nat.reduceAdd, Nat.add_zero, pk_sub, pk_m1, Nat.add_sub_cancel, hn0, m0, p1, p2, u0, u6]) | (simp (disch := omega) only [nI_clamp, pk_mul, nI_add, oi1, up2_ss, up2_n, up2_sn, ur_s, ur_n, Nat.reduceMul, Nat.reduceAdd, Nat.add_zero, pk_sub, pk_m1, Nat.add_sub_cancel, hn0, m0, g0, g1, g5, g6, mc1]) | (simp (disch := omega) only [nI_clamp, pk_mul, nI_add, oi1, up2_ss, up2_n, up2_sn, ur_s, ur_n, Nat.reduceMul, Nat.reduceAdd, Nat.add_zero, pk_sub, pk_m1, Nat.add_sub_cancel, hn0, m0]) | skip)
            refine xr_istore (n := 151) dX8_runs_149 rfl rfl ?_
            simp only [xst, Nat.beq, List.filter, Bool.not_true, Bool.not_false]
            refine xr_iload (n := 153) dX8_runs_151 rfl rfl ?_
            refine xr_iload (n := 155) dX8_runs_153 rfl rfl ?_
            refine xr_if_eq (tgt := 162) (n := 158) dX8_runs_155 (by decide) rfl (fun h155 => ?_) (fun h155 => by (exfalso; revert h155; decide))
            refine xr_iconst (v := nI 1) (n := 163) dX8_runs_162 (by decide) rfl ?_
            refine xr_isub (n := 164) dX8_runs_163 rfl ?_
            (first | (simp (disch := omega) only [nI_clamp, pk_mul, nI_add, oi1, up2_ss, up2_n, up2_sn, ur_s, ur_n, Nat.reduceMul, Nat.reduceAdd, Nat.add_zero, pk_sub, pk_m1, Nat.add_sub_cancel, hn0, m0, p1, p2, u0, u6, g0, g1, g5, g6, mc1]) | (simp (disch := omega) only [nI_clamp, pk_mul, nI_add, oi1, up2_ss, up2_n, up2_sn, ur_s, ur_n, Nat.reduceMul, Nat.reduceAdd, Nat.add_zero, pk_sub, pk_m1, Nat.add_sub_cancel, hn0, m0, p1, p2, u0, u6]) | (simp (disch := omega) only [nI_clamp, pk_mul, nI_add, oi1, up2_ss, up2_n, up2_sn, ur_s, ur_n, Nat.reduceMul, Nat.reduceAdd, Nat.add_zero, pk_sub, pk_m1, Nat.add_sub_cancel, hn0, m0, g0, g1, g5, g6, mc1]) | (simp (disch := omega) only [nI_clamp, pk_mul, nI_add, oi1, up2_ss, up2_n, up2_sn, ur_s, ur_n, Nat.reduceMul, Nat.reduceAdd, Nat.add_zero, pk_sub, pk_m1, Nat.add_sub_cancel, hn0, m0]) | skip)
            refine xr_istore (n := 166) dX8_runs_164 rfl rfl ?_
            simp only [xst, Nat.beq, List.filter, Bool.not_true, Bool.not_false]
            refine xr_goto (n := 73) dX8_runs_166 (by decide) ?_
            refine xX.drop 8 ?_
            simp only [xst, Nat.beq, List.filter, Bool.not_true, Bool.not_false]
            have h3 : ¬ P (fr d1).1 0 = 3 := by ((try simp (disch := omega) only [i_lt, i_le, i_eq, nt, i_m1, Int32.toInt_zero] at *); omega)
            exact ih fr d1 _ 0 at_ δ t mk rd mo tl μ (by omega) (Or.inl rfl) (by omega) (RI_popC hW hI es h3) hR
          · refine xr_iconst (v := nI 1) (n := 125) dX8_runs_124 (by decide) rfl ?_
            refine xr_goto (n := 129) dX8_runs_125 (by decide) ?_
            refine xr_istore (n := 131) dX8_runs_129 rfl rfl ?_
            simp only [xst, Nat.beq, List.filter, Bool.not_true, Bool.not_false]
            refine xr_iload (n := 133) dX8_runs_131 rfl rfl ?_
            refine xr_if_eq (tgt := 141) (n := 136) dX8_runs_133 (by decide) rfl (fun h133 => by (exfalso; revert h133; decide)) (fun h133 => ?_)
            refine xr_iload (n := 138) dX8_runs_136 rfl rfl ?_
            refine xr_goto (n := 149) dX8_runs_138 (by decide) ?_
            refine xr_istore (n := 151) dX8_runs_149 rfl rfl ?_
            simp only [xst, Nat.beq, List.filter, Bool.not_true, Bool.not_false]
            refine xr_iload (n := 153) dX8_runs_151 rfl rfl ?_
            refine xr_iload (n := 155) dX8_runs_153 rfl rfl ?_
            refine xr_if_eq (tgt := 162) (n := 158) dX8_runs_155 (by decide) rfl (fun h155 => by (exfalso; revert h155; decide)) (fun h155 => ?_)
            refine xr_iconst (v := nI 0) (n := 159) dX8_runs_158 (by decide) rfl ?_
            refine xr_goto (n := 163) dX8_runs_159 (by decide) ?_
            refine xr_isub (n := 164) dX8_runs_163 rfl ?_
            (first | (simp (disch := omega) only [nI_clamp, pk_mul, nI_add, oi1, up2_ss, up2_n, up2_sn, ur_s, ur_n, Nat.reduceMul, Nat.reduceAdd, Nat.add_zero, pk_sub, pk_m1, Nat.add_sub_cancel, hn0, m0, p1, p2, u0, u6, g0, g1, g5, g6, mc1]) | (simp (disch := omega) only [nI_clamp, pk_mul, nI_add, oi1, up2_ss, up2_n, up2_sn, ur_s, ur_n, Nat.reduceMul, Nat.reduceAdd, Nat.add_zero, pk_sub, pk_m1, Nat.add_sub_cancel, hn0, m0, p1, p2, u0, u6]) | (simp (disch := omega) only [nI_clamp, pk_mul, nI_add, oi1, up2_ss, up2_n, up2_sn, ur_s, ur_n, Nat.reduceMul, Nat.reduceAdd, Nat.add_zero, pk_sub, pk_m1, Nat.add_sub_cancel, hn0, m0, g0, g1, g5, g6, mc1]) | (simp (disch := omega) only [nI_clamp, pk_mul, nI_add, oi1, up2_ss, up2_n, up2_sn, ur_s, ur_n, Nat.reduceMul, Nat.reduceAdd, Nat.add_zero, pk_sub, pk_m1, Nat.add_sub_cancel, hn0, m0]) | skip)
            refine xr_istore (n := 166) dX8_runs_164 rfl rfl ?_
            simp only [xst, Nat.beq, List.filter, Bool.not_true, Bool.not_false]
            refine xr_goto (n := 73) dX8_runs_166 (by decide) ?_
            refine xX.drop 8 ?_
            simp only [xst, Nat.beq, List.filter, Bool.not_true, Bool.not_false]
            have h3 : P (fr d1).1 0 = 3 := by ((try simp (disch := omega) only [i_lt, i_le, i_eq, nt, i_m1, Int32.toInt_zero] at *); omega)
            exact ih fr (d1 + 1) _ 1 at_ δ t mk rd mo tl μ (by omega) (Or.inr rfl) hdp (RI_popL hI es h3) hR
    · obtain ⟨d1, rfl, hf1, hk, hst1, hlt1, hat9⟩ := hA1 rfl
      have hsn := stk_lt hW.1 hst1 hlt1
      refine xr_iload (n := 75) dX8_runs_73 rfl rfl ?_
      refine xr_if_eq (tgt := 498) (n := 78) dX8_runs_75 (by decide) rfl (fun h75 => by (exfalso; revert h75; decide)) (fun h75 => ?_)
      refine xr_iload (n := 80) dX8_runs_78 rfl rfl ?_
      refine xr_if_le (tgt := 169) (n := 83) dX8_runs_80 (by decide) rfl (fun h80 => by (exfalso; ((try simp (disch := omega) only [i_lt, i_le, i_eq, nt, i_m1, Int32.toInt_zero] at *); omega))) (fun h80 => ?_)
      refine xr_iload (n := 85) dX8_runs_83 rfl rfl ?_
      refine xr_if_ne (tgt := 169) (n := 88) dX8_runs_85 (by decide) rfl (fun h85 => ?_) (fun h85 => by (exfalso; revert h85; decide))
      refine xr_iload (n := 171) dX8_runs_169 rfl rfl ?_
      refine xr_aload_n (n := 172) dX8_runs_171 rfl rfl ?_
      refine xr_get (n := 175) dX8_runs_172 fl_X8_19 (by first | exact mput_0 _ _ _ | exact mput_r (by decide)) (by rfl) rfl ?_
      refine xr_iconst (v := nI 0) (n := 176) dX8_runs_175 (by decide) rfl ?_
      refine xr_iaload (n := 177) dX8_runs_176 (by first | exact mput_0 _ _ _ | exact mput_r (by decide)) (by first | exact vp_in_nI (by omega) (by omega)) rfl ?_
      (first | (simp (disch := omega) only [nI_clamp, pk_mul, nI_add, oi1, up2_ss, up2_n, up2_sn, ur_s, ur_n, Nat.reduceMul, Nat.reduceAdd, Nat.add_zero, pk_sub, pk_m1, Nat.add_sub_cancel, hn0, m0, g0, g1, g5, g6, mc1]) | (simp (disch := omega) only [nI_clamp, pk_mul, nI_add, oi1, up2_ss, up2_n, up2_sn, ur_s, ur_n, Nat.reduceMul, Nat.reduceAdd, Nat.add_zero, pk_sub, pk_m1, Nat.add_sub_cancel, hn0, m0]) | skip)
      refine xr_icmp_ne (tgt := 186) (n := 180) dX8_runs_177 (by decide) rfl (fun h177 => ?_) (fun h177 => by (exfalso; ((try simp (disch := omega) only [i_lt, i_le, i_eq, nt, i_m1, Int32.toInt_zero] at *); omega)))
      refine xr_aload_n (n := 187) dX8_runs_186 rfl rfl ?_
      refine xr_get (n := 190) dX8_runs_187 fl_X8_40 (by first | exact mput_0 _ _ _ | exact mput_r (by decide)) (by rfl) rfl ?_
      refine xr_bipush (v := nI 6) (n := 192) dX8_runs_190 (by decide) rfl ?_
      refine xr_iload_n (n := 193) dX8_runs_192 rfl rfl ?_
      refine xr_imul (n := 194) dX8_runs_193 rfl ?_
      (first | (simp (disch := omega) only [nI_clamp, pk_mul, nI_add, oi1, up2_ss, up2_n, up2_sn, ur_s, ur_n, Nat.reduceMul, Nat.reduceAdd, Nat.add_zero, pk_sub, pk_m1, Nat.add_sub_cancel, hn0, m0, g0, g1, g5, g6, mc1]) | (simp (disch := omega) only [nI_clamp, pk_mul, nI_add, oi1, up2_ss, up2_n, up2_sn, ur_s, ur_n, Nat.reduceMul, Nat.reduceAdd, Nat.add_zero, pk_sub, pk_m1, Nat.add_sub_cancel, hn0, m0]) | skip)
      refine xr_iaload (n := 195) dX8_runs_194 (by first | exact mput_0 _ _ _ | exact mput_r (by decide)) (by first | exact vp_in_nI (by omega) (by omega)) rfl ?_
      (first | (simp (disch := omega) only [nI_clamp, pk_mul, nI_add, oi1, up2_ss, up2_n, up2_sn, ur_s, ur_n, Nat.reduceMul, Nat.reduceAdd, Nat.add_zero, pk_sub, pk_m1, Nat.add_sub_cancel, hn0, m0, g0, g1, g5, g6, mc1]) | (simp (disch := omega) only [nI_clamp, pk_mul, nI_add, oi1, up2_ss, up2_n, up2_sn, ur_s, ur_n, Nat.reduceMul, Nat.reduceAdd, Nat.add_zero, pk_sub, pk_m1, Nat.add_sub_cancel, hn0, m0]) | skip)
      refine xr_sipush (v := nI 400) (n := 198) dX8_runs_195 (by decide) rfl ?_
      refine xr_icmp_ne (tgt := 219) (n := 201) dX8_runs_198 (by decide) rfl (fun h198 => ?_) (fun h198 => ?_)
      · have ht4 : t < 400 := by ((try simp (disch := omega) only [i_lt, i_le, i_eq, nt, i_m1, Int32.toInt_zero] at *); omega)
        obtain ⟨k0, k1, k2, k3, k4, k6, k5⟩ := hW.1.2 s hsn
        have g0 : μ 5 (1 + 7 * s) = nI (P s 0) := hPm.2 s 0 hsn (by omega)
        have g1 : μ 5 (1 + 7 * s + 1) = nI (P s 1) := hPm.2 s 1 hsn (by omega)
        have g5 : μ 5 (1 + 7 * s + 5) = nI (P s 5) := hPm.2 s 5 hsn (by omega)
        have g6 : μ 5 (1 + 7 * s + 6) = nI (P s 6) := hPm.2 s 6 hsn (by omega)
        have mc1 : μ 9 (6 * sd + P s 1) = δ 1 (P s 1) := mc _ k1
        have hRs := arun_step (P := P) (δ := δ) ht4 hsn
        rw [← hat9, hR] at hRs
        refine xr_aload_n (n := 220) dX8_runs_219 rfl rfl ?_
        refine xr_get (n := 223) dX8_runs_220 fl_X8_40 (by first | exact mput_0 _ _ _ | exact mput_r (by decide)) (by rfl) rfl ?_
        refine xr_bipush (v := nI 6) (n := 225) dX8_runs_223 (by decide) rfl ?_
        refine xr_iload_n (n := 226) dX8_runs_225 rfl rfl ?_
        refine xr_imul (n := 227) dX8_runs_226 rfl ?_
        (first | (simp (disch := omega) only [nI_clamp, pk_mul, nI_add, oi1, up2_ss, up2_n, up2_sn, ur_s, ur_n, Nat.reduceMul, Nat.reduceAdd, Nat.add_zero, pk_sub, pk_m1, Nat.add_sub_cancel, hn0, m0, g0, g1, g5, g6, mc1]) | (simp (disch := omega) only [nI_clamp, pk_mul, nI_add, oi1, up2_ss, up2_n, up2_sn, ur_s, ur_n, Nat.reduceMul, Nat.reduceAdd, Nat.add_zero, pk_sub, pk_m1, Nat.add_sub_cancel, hn0, m0]) | skip)
        refine xr_dup2 (n := 228) dX8_runs_227 rfl rfl rfl ?_
        refine xr_iaload (n := 229) dX8_runs_228 (by first | exact mput_0 _ _ _ | exact mput_r (by decide)) (by first | exact vp_in_nI (by omega) (by omega)) rfl ?_
        (first | (simp (disch := omega) only [nI_clamp, pk_mul, nI_add, oi1, up2_ss, up2_n, up2_sn, ur_s, ur_n, Nat.reduceMul, Nat.reduceAdd, Nat.add_zero, pk_sub, pk_m1, Nat.add_sub_cancel, hn0, m0, g0, g1, g5, g6, mc1]) | (simp (disch := omega) only [nI_clamp, pk_mul, nI_add, oi1, up2_ss, up2_n, up2_sn, ur_s, ur_n, Nat.reduceMul, Nat.reduceAdd, Nat.add_zero, pk_sub, pk_m1, Nat.add_sub_cancel, hn0, m0]) | skip)
        refine xr_iconst (v := nI 1) (n := 230) dX8_runs_229 (by decide) rfl ?_
        refine xr_iadd (n := 231) dX8_runs_230 rfl ?_
        (first | (simp (disch := omega) only [nI_clamp, pk_mul, nI_add, oi1, up2_ss, up2_n, up2_sn, ur_s, ur_n, Nat.reduceMul, Nat.reduceAdd, Nat.add_zero, pk_sub, pk_m1, Nat.add_sub_cancel, hn0, m0, g0, g1, g5, g6, mc1]) | (simp (disch := omega) only [nI_clamp, pk_mul, nI_add, oi1, up2_ss, up2_n, up2_sn, ur_s, ur_n, Nat.reduceMul, Nat.reduceAdd, Nat.add_zero, pk_sub, pk_m1, Nat.add_sub_cancel, hn0, m0]) | skip)
        refine xq_iastore (n := 232) dX8_runs_231 (by first | exact mput_0 _ _ _ | exact mput_r (by decide)) (by first | exact vp_in_nI (by omega) (by omega)) rfl ?_
        simp (disch := omega) only [nI_clamp, List.set, mw_0, mw_1, mw_2, mw_3, mw_4, mw_5, mw_6, mw_7, mw_8, mw_9, mw_10, mw_11, mw_12, mw_13, mw_14, mw_15, mw_16, mw_17, mw_18, mw_19]
        refine xr_aload_n (n := 233) dX8_runs_232 rfl rfl ?_
        refine xr_iload (n := 235) dX8_runs_233 rfl rfl ?_
        refine xr_iconst (v := nI 0) (n := 236) dX8_runs_235 (by decide) rfl ?_
        refine xr_callV (y2 := mX8_of) (As := [_, _]) (n := 239) dX8_runs_236 lm_X8_124 pm_X8_of pi_X8_of (by first | exact mput_0 _ _ _ | exact mput_r (by decide)) rfl rfl rfl (by simp [Value.category]) rfl ⟨Nat.le_refl _, Nat.le_refl _⟩ ?_
        refine s_X8_of (by omega) (by omega) ?_
        dsimp only [xK, xps]
        (first | (simp (disch := omega) only [nI_clamp, pk_mul, nI_add, oi1, up2_ss, up2_n, up2_sn, ur_s, ur_n, Nat.reduceMul, Nat.reduceAdd, Nat.add_zero, pk_sub, pk_m1, Nat.add_sub_cancel, hn0, m0, g0, g1, g5, g6, mc1]) | (simp (disch := omega) only [nI_clamp, pk_mul, nI_add, oi1, up2_ss, up2_n, up2_sn, ur_s, ur_n, Nat.reduceMul, Nat.reduceAdd, Nat.add_zero, pk_sub, pk_m1, Nat.add_sub_cancel, hn0, m0]) | skip)
        refine xr_istore (n := 241) dX8_runs_239 rfl rfl ?_
        simp only [xst, Nat.beq, List.filter, Bool.not_true, Bool.not_false]
        refine xr_iload (n := 243) dX8_runs_241 rfl rfl ?_
        refine xr_iconst (v := nI 3) (n := 244) dX8_runs_243 (by decide) rfl ?_
        refine xr_icmp_lt (tgt := 271) (n := 247) dX8_runs_244 (by decide) rfl (fun h244 => by (exfalso; ((try simp (disch := omega) only [i_lt, i_le, i_eq, nt, i_m1, Int32.toInt_zero] at *); omega))) (fun h244 => ?_)
        refine xr_aload_n (n := 248) dX8_runs_247 rfl rfl ?_
        refine xr_get (n := 251) dX8_runs_248 fl_X8_28 (by first | exact mput_0 _ _ _ | exact mput_r (by decide)) (by rfl) rfl ?_
        refine xr_bipush (v := nI 6) (n := 253) dX8_runs_251 (by decide) rfl ?_
        refine xr_iload_n (n := 254) dX8_runs_253 rfl rfl ?_
        refine xr_imul (n := 255) dX8_runs_254 rfl ?_
        (first | (simp (disch := omega) only [nI_clamp, pk_mul, nI_add, oi1, up2_ss, up2_n, up2_sn, ur_s, ur_n, Nat.reduceMul, Nat.reduceAdd, Nat.add_zero, pk_sub, pk_m1, Nat.add_sub_cancel, g0, g1, g5, g6, mc1, m0, hn0]) | skip)
        refine xr_aload_n (n := 256) dX8_runs_255 rfl rfl ?_
        refine xr_iload (n := 258) dX8_runs_256 rfl rfl ?_
        refine xr_iconst (v := nI 1) (n := 259) dX8_runs_258 (by decide) rfl ?_
        refine xr_callV (y2 := mX8_of) (As := [_, _]) (n := 262) dX8_runs_259 lm_X8_124 pm_X8_of pi_X8_of (by first | exact mput_0 _ _ _ | exact mput_r (by decide)) rfl rfl rfl (by simp [Value.category]) rfl ⟨Nat.le_refl _, Nat.le_refl _⟩ ?_
        refine s_X8_of (by omega) (by omega) ?_
        dsimp only [xK, xps]
        (first | (simp (disch := omega) only [nI_clamp, pk_mul, nI_add, oi1, up2_ss, up2_n, up2_sn, ur_s, ur_n, Nat.reduceMul, Nat.reduceAdd, Nat.add_zero, pk_sub, pk_m1, Nat.add_sub_cancel, g0, g1, g5, g6, mc1, m0, hn0]) | skip)
        refine xr_iadd (n := 263) dX8_runs_262 rfl ?_
        (first | (simp (disch := omega) only [nI_clamp, pk_mul, nI_add, oi1, up2_ss, up2_n, up2_sn, ur_s, ur_n, Nat.reduceMul, Nat.reduceAdd, Nat.add_zero, pk_sub, pk_m1, Nat.add_sub_cancel, g0, g1, g5, g6, mc1, m0, hn0]) | skip)
        refine xr_iaload (n := 264) dX8_runs_263 (by first | exact mput_0 _ _ _ | exact mput_r (by decide)) (by first | exact vp_in_nI (by omega) (by omega)) rfl ?_
        (first | (simp (disch := omega) only [nI_clamp, pk_mul, nI_add, oi1, up2_ss, up2_n, up2_sn, ur_s, ur_n, Nat.reduceMul, Nat.reduceAdd, Nat.add_zero, pk_sub, pk_m1, Nat.add_sub_cancel, g0, g1, g5, g6, mc1, m0, hn0]) | skip)
        refine xr_if_le (tgt := 271) (n := 267) dX8_runs_264 (by decide) rfl (fun h264 => ?_) (fun h264 => ?_)
        · have hcp : ¬ 0 < δ 1 (P s 1) := by ((try simp (disch := omega) only [i_lt, i_le, i_eq, nt, i_m1, Int32.toInt_zero] at *); omega)
          refine xr_iconst (v := nI 0) (n := 272) dX8_runs_271 (by decide) rfl ?_
          refine xr_istore (n := 274) dX8_runs_272 rfl rfl ?_
          simp only [xst, Nat.beq, List.filter, Bool.not_true, Bool.not_false]
          refine xr_iload (n := 276) dX8_runs_274 rfl rfl ?_
          refine xr_iconst (v := nI 3) (n := 277) dX8_runs_276 (by decide) rfl ?_
          refine xr_icmp_ne (tgt := 408) (n := 280) dX8_runs_277 (by decide) rfl (fun h277 => by (exfalso; ((try simp (disch := omega) only [i_lt, i_le, i_eq, nt, i_m1, Int32.toInt_zero] at *); omega))) (fun h277 => ?_)
          refine xr_iload (n := 282) dX8_runs_280 rfl rfl ?_
          refine xr_iload (n := 284) dX8_runs_282 rfl rfl ?_
          refine xr_if_eq (tgt := 296) (n := 287) dX8_runs_284 (by decide) rfl (fun h284 => ?_) (fun h284 => by (exfalso; revert h284; decide))
          refine xr_iload (n := 298) dX8_runs_296 rfl rfl ?_
          refine xr_if_ne (tgt := 310) (n := 301) dX8_runs_298 (by decide) rfl (fun h298 => by (exfalso; revert h298; decide)) (fun h298 => ?_)
          refine xr_iload (n := 303) dX8_runs_301 rfl rfl ?_
          refine xr_if_eq (tgt := 310) (n := 306) dX8_runs_303 (by decide) rfl (fun h303 => by (exfalso; revert h303; decide)) (fun h303 => ?_)
          refine xr_iconst (v := (-1)) (n := 307) dX8_runs_306 (by decide) rfl ?_
          refine xr_goto (n := 311) dX8_runs_307 (by decide) ?_
          refine xr_iadd (n := 312) dX8_runs_311 rfl ?_
          (first | (simp (disch := omega) only [nI_clamp, pk_mul, nI_add, oi1, up2_ss, up2_n, up2_sn, ur_s, ur_n, Nat.reduceMul, Nat.reduceAdd, Nat.add_zero, pk_sub, pk_m1, Nat.add_sub_cancel, g0, g1, g5, g6, mc1, m0, hn0]) | skip)
          refine xr_istore (n := 314) dX8_runs_312 rfl rfl ?_
          simp only [xst, Nat.beq, List.filter, Bool.not_true, Bool.not_false]
          refine xr_iload (n := 316) dX8_runs_314 rfl rfl ?_
          refine xr_if_eq (tgt := 383) (n := 319) dX8_runs_316 (by decide) rfl (fun h316 => ?_) (fun h316 => by (exfalso; revert h316; decide))
          refine xr_iload (n := 385) dX8_runs_383 rfl rfl ?_
          refine xr_if_eq (tgt := 395) (n := 388) dX8_runs_385 (by decide) rfl (fun h385 => ?_) (fun h385 => by (exfalso; revert h385; decide))
          refine xr_aload_n (n := 396) dX8_runs_395 rfl rfl ?_
          refine xr_iload (n := 398) dX8_runs_396 rfl rfl ?_
          refine xr_bipush (v := nI 6) (n := 400) dX8_runs_398 (by decide) rfl ?_
          refine xr_callV (y2 := mX8_of) (As := [_, _]) (n := 403) dX8_runs_400 lm_X8_124 pm_X8_of pi_X8_of (by first | exact mput_0 _ _ _ | exact mput_r (by decide)) rfl rfl rfl (by simp [Value.category]) rfl ⟨Nat.le_refl _, Nat.le_refl _⟩ ?_
          refine s_X8_of (by omega) (by omega) ?_
          dsimp only [xK, xps]
          (first | (simp (disch := omega) only [nI_clamp, pk_mul, nI_add, oi1, up2_ss, up2_n, up2_sn, ur_s, ur_n, Nat.reduceMul, Nat.reduceAdd, Nat.add_zero, pk_sub, pk_m1, Nat.add_sub_cancel, g0, g1, g5, g6, mc1, m0, hn0]) | skip)
          refine xr_istore (n := 405) dX8_runs_403 rfl rfl ?_
          simp only [xst, Nat.beq, List.filter, Bool.not_true, Bool.not_false]
          refine xr_goto (n := 492) dX8_runs_405 (by decide) ?_
          refine xr_iconst (v := nI 0) (n := 493) dX8_runs_492 (by decide) rfl ?_
          refine xr_istore (n := 495) dX8_runs_493 rfl rfl ?_
          simp only [xst, Nat.beq, List.filter, Bool.not_true, Bool.not_false]
          refine xr_goto (n := 73) dX8_runs_495 (by decide) ?_
          refine xX.drop 8 ?_
          refine xX.drop 9 ?_
          simp only [xst, Nat.beq, List.filter, Bool.not_true, Bool.not_false]
          exact ih fr d1 _ 0 _ _ _ _ _ _ _ _ (me_s hN ht4 (Nat.le_succ_of_le (Nat.le_succ _))) (Or.inl rfl) (Nat.le_of_succ_le hdp) (RI_out1 hW hI hcp ht4) (by rw [hat9] at hRs; exact hRs.symm)
        · have hcp : 0 < δ 1 (P s 1) := by ((try simp (disch := omega) only [i_lt, i_le, i_eq, nt, i_m1, Int32.toInt_zero] at *); omega)
          obtain ⟨x, hx, hx16, hx9⟩ := RI_in1 hW hI hcp ht4
          refine xr_iconst (v := nI 1) (n := 268) dX8_runs_267 (by decide) rfl ?_
          refine xr_goto (n := 272) dX8_runs_268 (by decide) ?_
          refine xr_istore (n := 274) dX8_runs_272 rfl rfl ?_
          simp only [xst, Nat.beq, List.filter, Bool.not_true, Bool.not_false]
          refine xr_iload (n := 276) dX8_runs_274 rfl rfl ?_
          refine xr_iconst (v := nI 3) (n := 277) dX8_runs_276 (by decide) rfl ?_
          refine xr_icmp_ne (tgt := 408) (n := 280) dX8_runs_277 (by decide) rfl (fun h277 => by (exfalso; ((try simp (disch := omega) only [i_lt, i_le, i_eq, nt, i_m1, Int32.toInt_zero] at *); omega))) (fun h277 => ?_)
          refine xr_iload (n := 282) dX8_runs_280 rfl rfl ?_
          refine xr_iload (n := 284) dX8_runs_282 rfl rfl ?_
          refine xr_if_eq (tgt := 296) (n := 287) dX8_runs_284 (by decide) rfl (fun h284 => by (exfalso; revert h284; decide)) (fun h284 => ?_)
          refine xr_iload (n := 289) dX8_runs_287 rfl rfl ?_
          refine xr_if_ne (tgt := 296) (n := 292) dX8_runs_289 (by decide) rfl (fun h289 => ?_) (fun h289 => by (exfalso; revert h289; decide))
          refine xr_iload (n := 298) dX8_runs_296 rfl rfl ?_
          refine xr_if_ne (tgt := 310) (n := 301) dX8_runs_298 (by decide) rfl (fun h298 => ?_) (fun h298 => by (exfalso; revert h298; decide))
          refine xr_iconst (v := nI 0) (n := 311) dX8_runs_310 (by decide) rfl ?_
          refine xr_iadd (n := 312) dX8_runs_311 rfl ?_
          (first | (simp (disch := omega) only [nI_clamp, pk_mul, nI_add, oi1, up2_ss, up2_n, up2_sn, ur_s, ur_n, Nat.reduceMul, Nat.reduceAdd, Nat.add_zero, pk_sub, pk_m1, Nat.add_sub_cancel, g0, g1, g5, g6, mc1, m0, hn0]) | skip)
          refine xr_istore (n := 314) dX8_runs_312 rfl rfl ?_
          simp only [xst, Nat.beq, List.filter, Bool.not_true, Bool.not_false]
          refine xr_iload (n := 316) dX8_runs_314 rfl rfl ?_
          refine xr_if_eq (tgt := 383) (n := 319) dX8_runs_316 (by decide) rfl (fun h316 => by (exfalso; revert h316; decide)) (fun h316 => ?_)
          refine xr_aload_n (n := 320) dX8_runs_319 rfl rfl ?_
          refine xr_get (n := 323) dX8_runs_320 fl_X8_49 (by first | exact mput_0 _ _ _ | exact mput_r (by decide)) (by rfl) rfl ?_
          refine xr_iload (n := 325) dX8_runs_323 rfl rfl ?_
          refine xr_iconst (v := nI 1) (n := 326) dX8_runs_325 (by decide) rfl ?_
          refine xr_isub (n := 327) dX8_runs_326 rfl ?_
          (first | (simp (disch := omega) only [nI_clamp, pk_mul, nI_add, oi1, up2_ss, up2_n, up2_sn, ur_s, ur_n, Nat.reduceMul, Nat.reduceAdd, Nat.add_zero, pk_sub, pk_m1, Nat.add_sub_cancel, g0, g1, g5, g6, mc1, m0, hn0]) | skip)
          refine xr_iload (n := 329) dX8_runs_327 rfl rfl ?_
          refine xr_if_eq (tgt := 344) (n := 332) dX8_runs_329 (by decide) rfl (fun h329 => by (exfalso; revert h329; decide)) (fun h329 => ?_)
          refine xr_aload_n (n := 333) dX8_runs_332 rfl rfl ?_
          refine xr_get (n := 336) dX8_runs_333 fl_X8_49 (by first | exact mput_0 _ _ _ | exact mput_r (by decide)) (by rfl) rfl ?_
          refine xr_iload (n := 338) dX8_runs_336 rfl rfl ?_
          refine xr_iconst (v := nI 1) (n := 339) dX8_runs_338 (by decide) rfl ?_
          refine xr_isub (n := 340) dX8_runs_339 rfl ?_
          (first | (simp (disch := omega) only [nI_clamp, pk_mul, nI_add, oi1, up2_ss, up2_n, up2_sn, ur_s, ur_n, Nat.reduceMul, Nat.reduceAdd, Nat.add_zero, pk_sub, pk_m1, Nat.add_sub_cancel, g0, g1, g5, g6, mc1, m0, hn0]) | skip)
          refine xr_iaload (n := 341) dX8_runs_340 (by first | exact mput_0 _ _ _ | exact mput_r (by decide)) (by first | exact vp_in_nI (by omega) (by omega)) rfl ?_
          rw [nI_clamp (by omega)]
          simp (disch := omega) only [up2_n, hx16]
          refine xr_goto (n := 345) dX8_runs_341 (by decide) ?_
          refine xq_iastore (n := 346) dX8_runs_345 (by first | exact mput_0 _ _ _ | exact mput_r (by decide)) (by first | exact vp_in_nI (by omega) (by omega)) rfl ?_
          simp (disch := omega) only [nI_clamp, List.set, mw_0, mw_1, mw_2, mw_3, mw_4, mw_5, mw_6, mw_7, mw_8, mw_9, mw_10, mw_11, mw_12, mw_13, mw_14, mw_15, mw_16, mw_17, mw_18, mw_19]
          refine xr_aload_n (n := 347) dX8_runs_346 rfl rfl ?_
          refine xr_get (n := 350) dX8_runs_347 fl_X8_43 (by first | exact mput_0 _ _ _ | exact mput_r (by decide)) (by rfl) rfl ?_
          refine xr_iload (n := 352) dX8_runs_350 rfl rfl ?_
          refine xr_iconst (v := nI 1) (n := 353) dX8_runs_352 (by decide) rfl ?_
          refine xr_isub (n := 354) dX8_runs_353 rfl ?_
          (first | (simp (disch := omega) only [nI_clamp, pk_mul, nI_add, oi1, up2_ss, up2_n, up2_sn, ur_s, ur_n, Nat.reduceMul, Nat.reduceAdd, Nat.add_zero, pk_sub, pk_m1, Nat.add_sub_cancel, g0, g1, g5, g6, mc1, m0, hn0]) | skip)
          refine xr_iload (n := 356) dX8_runs_354 rfl rfl ?_
          refine xq_iastore (n := 357) dX8_runs_356 (by first | exact mput_0 _ _ _ | exact mput_r (by decide)) (by first | exact vp_in_nI (by omega) (by omega)) rfl ?_
          simp (disch := omega) only [nI_clamp, List.set, mw_0, mw_1, mw_2, mw_3, mw_4, mw_5, mw_6, mw_7, mw_8, mw_9, mw_10, mw_11, mw_12, mw_13, mw_14, mw_15, mw_16, mw_17, mw_18, mw_19]
          refine xr_aload_n (n := 358) dX8_runs_357 rfl rfl ?_
          refine xr_get (n := 361) dX8_runs_358 fl_X8_46 (by first | exact mput_0 _ _ _ | exact mput_r (by decide)) (by rfl) rfl ?_
          refine xr_iload (n := 363) dX8_runs_361 rfl rfl ?_
          refine xr_iconst (v := nI 1) (n := 364) dX8_runs_363 (by decide) rfl ?_
          refine xr_isub (n := 365) dX8_runs_364 rfl ?_
          (first | (simp (disch := omega) only [nI_clamp, pk_mul, nI_add, oi1, up2_ss, up2_n, up2_sn, ur_s, ur_n, Nat.reduceMul, Nat.reduceAdd, Nat.add_zero, pk_sub, pk_m1, Nat.add_sub_cancel, g0, g1, g5, g6, mc1, m0, hn0]) | skip)
          refine xr_aload_n (n := 366) dX8_runs_365 rfl rfl ?_
          refine xr_iload (n := 368) dX8_runs_366 rfl rfl ?_
          refine xr_bipush (v := nI 6) (n := 370) dX8_runs_368 (by decide) rfl ?_
          refine xr_callV (y2 := mX8_of) (As := [_, _]) (n := 373) dX8_runs_370 lm_X8_124 pm_X8_of pi_X8_of (by first | exact mput_0 _ _ _ | exact mput_r (by decide)) rfl rfl rfl (by simp [Value.category]) rfl ⟨Nat.le_refl _, Nat.le_refl _⟩ ?_
          refine s_X8_of (by omega) (by omega) ?_
          dsimp only [xK, xps]
          (first | (simp (disch := omega) only [nI_clamp, pk_mul, nI_add, oi1, up2_ss, up2_n, up2_sn, ur_s, ur_n, Nat.reduceMul, Nat.reduceAdd, Nat.add_zero, pk_sub, pk_m1, Nat.add_sub_cancel, g0, g1, g5, g6, mc1, m0, hn0]) | skip)
          refine xq_iastore (n := 374) dX8_runs_373 (by first | exact mput_0 _ _ _ | exact mput_r (by decide)) (by first | exact vp_in_nI (by omega) (by omega)) rfl ?_
          simp (disch := omega) only [nI_clamp, List.set, mw_0, mw_1, mw_2, mw_3, mw_4, mw_5, mw_6, mw_7, mw_8, mw_9, mw_10, mw_11, mw_12, mw_13, mw_14, mw_15, mw_16, mw_17, mw_18, mw_19]
          refine xr_aload_n (n := 375) dX8_runs_374 rfl rfl ?_
          refine xr_iload_n (n := 376) dX8_runs_375 rfl rfl ?_
          refine xr_iload (n := 378) dX8_runs_376 rfl rfl ?_
          refine xr_iconst (v := nI 1) (n := 379) dX8_runs_378 (by decide) rfl ?_
          refine xr_isub (n := 380) dX8_runs_379 rfl ?_
          (first | (simp (disch := omega) only [nI_clamp, pk_mul, nI_add, oi1, up2_ss, up2_n, up2_sn, ur_s, ur_n, Nat.reduceMul, Nat.reduceAdd, Nat.add_zero, pk_sub, pk_m1, Nat.add_sub_cancel, g0, g1, g5, g6, mc1, m0, hn0]) | skip)
          refine xr_callV (y2 := mX8_roundOf) (As := [_, _]) (n := 383) dX8_runs_380 lm_X8_152 pm_X8_roundOf pi_X8_roundOf (by first | exact mput_0 _ _ _ | exact mput_r (by decide)) rfl rfl rfl (by simp [Value.category]) rfl ⟨Nat.le_refl _, Nat.le_refl _⟩ ?_
          refine s_X8_roundOf (a := x) (b := rd) (e := mo) hsd (by omega) (by first | assumption | (simp (disch := omega) only [up2_ss, up2_n, up2_sn]; first | done | assumption)) (by first | assumption | rfl | (simp (disch := omega) only [up2_ss, up2_n, up2_sn]; first | done | assumption | rfl)) (by first | assumption | rfl | (simp (disch := omega) only [up2_ss, up2_n, up2_sn]; first | done | assumption | rfl)) (by omega) (by omega) (by omega) ?_
          dsimp only [xK, xps]
          refine xr_iload (n := 385) dX8_runs_383 rfl rfl ?_
          refine xr_if_eq (tgt := 395) (n := 388) dX8_runs_385 (by decide) rfl (fun h385 => by (exfalso; revert h385; decide)) (fun h385 => ?_)
          refine xr_iload (n := 390) dX8_runs_388 rfl rfl ?_
          refine xr_iconst (v := nI 1) (n := 391) dX8_runs_390 (by decide) rfl ?_
          refine xr_iadd (n := 392) dX8_runs_391 rfl ?_
          (first | (simp (disch := omega) only [nI_clamp, pk_mul, nI_add, oi1, up2_ss, up2_n, up2_sn, ur_s, ur_n, Nat.reduceMul, Nat.reduceAdd, Nat.add_zero, pk_sub, pk_m1, Nat.add_sub_cancel, g0, g1, g5, g6, mc1, m0, hn0]) | skip)
          refine xr_goto (n := 403) dX8_runs_392 (by decide) ?_
          refine xr_istore (n := 405) dX8_runs_403 rfl rfl ?_
          simp only [xst, Nat.beq, List.filter, Bool.not_true, Bool.not_false]
          refine xr_goto (n := 492) dX8_runs_405 (by decide) ?_
          refine xr_iconst (v := nI 0) (n := 493) dX8_runs_492 (by decide) rfl ?_
          refine xr_istore (n := 495) dX8_runs_493 rfl rfl ?_
          simp only [xst, Nat.beq, List.filter, Bool.not_true, Bool.not_false]
          refine xr_goto (n := 73) dX8_runs_495 (by decide) ?_
          refine xX.drop 8 ?_
          refine xX.drop 9 ?_
          simp only [xst, Nat.beq, List.filter, Bool.not_true, Bool.not_false]
          exact ih fr (d1 + 1) _ 0 _ _ _ _ _ _ _ _ (me_s hN ht4 (Nat.le_succ _)) (Or.inl rfl) hdp hx9 (by rw [hat9] at hRs; exact hRs.symm)
      · refine xr_aload_n (n := 202) dX8_runs_201 rfl rfl ?_
        refine xr_get (n := 205) dX8_runs_202 fl_X8_40 (by first | exact mput_0 _ _ _ | exact mput_r (by decide)) (by rfl) rfl ?_
        refine xr_bipush (v := nI 6) (n := 207) dX8_runs_205 (by decide) rfl ?_
        refine xr_iload_n (n := 208) dX8_runs_207 rfl rfl ?_
        refine xr_imul (n := 209) dX8_runs_208 rfl ?_
        (first | (simp (disch := omega) only [nI_clamp, pk_mul, nI_add, oi1, up2_ss, up2_n, up2_sn, ur_s, ur_n, Nat.reduceMul, Nat.reduceAdd, Nat.add_zero, pk_sub, pk_m1, Nat.add_sub_cancel, hn0, m0, g0, g1, g5, g6, mc1]) | (simp (disch := omega) only [nI_clamp, pk_mul, nI_add, oi1, up2_ss, up2_n, up2_sn, ur_s, ur_n, Nat.reduceMul, Nat.reduceAdd, Nat.add_zero, pk_sub, pk_m1, Nat.add_sub_cancel, hn0, m0]) | skip)
        refine xr_iconst (v := nI 1) (n := 210) dX8_runs_209 (by decide) rfl ?_
        refine xr_iadd (n := 211) dX8_runs_210 rfl ?_
        (first | (simp (disch := omega) only [nI_clamp, pk_mul, nI_add, oi1, up2_ss, up2_n, up2_sn, ur_s, ur_n, Nat.reduceMul, Nat.reduceAdd, Nat.add_zero, pk_sub, pk_m1, Nat.add_sub_cancel, hn0, m0, g0, g1, g5, g6, mc1]) | (simp (disch := omega) only [nI_clamp, pk_mul, nI_add, oi1, up2_ss, up2_n, up2_sn, ur_s, ur_n, Nat.reduceMul, Nat.reduceAdd, Nat.add_zero, pk_sub, pk_m1, Nat.add_sub_cancel, hn0, m0]) | skip)
        refine xr_iconst (v := nI 1) (n := 212) dX8_runs_211 (by decide) rfl ?_
        refine xq_iastore (n := 213) dX8_runs_212 (by first | exact mput_0 _ _ _ | exact mput_r (by decide)) (by first | exact vp_in_nI (by omega) (by omega)) rfl ?_
        simp (disch := omega) only [nI_clamp, List.set, mw_0, mw_1, mw_2, mw_3, mw_4, mw_5, mw_6, mw_7, mw_8, mw_9, mw_10, mw_11, mw_12, mw_13, mw_14, mw_15, mw_16, mw_17, mw_18, mw_19]
        refine xr_iconst (v := nI 0) (n := 214) dX8_runs_213 (by decide) rfl ?_
        refine xr_istore (n := 216) dX8_runs_214 rfl rfl ?_
        simp only [xst, Nat.beq, List.filter, Bool.not_true, Bool.not_false]
        refine xr_goto (n := 73) dX8_runs_216 (by decide) ?_
        refine xr_iload (n := 75) dX8_runs_73 rfl rfl ?_
        refine xr_if_eq (tgt := 498) (n := 78) dX8_runs_75 (by decide) rfl (fun h75 => ?_) (fun h75 => by (exfalso; revert h75; decide))
        refine xr_return dX8_runs_498 rfl rfl ?_
        refine hq _ (oth13 (k := 1) hT (by omega)) ?_
        have et : t = 400 := by ((try simp (disch := omega) only [i_lt, i_le, i_eq, nt, i_m1, Int32.toInt_zero] at *); omega)
        subst et
        have e9s : at_ = e9 ∧ δ = δ9 := by
          have hR : (at_, δ) = (e9, δ9) := hR
          exact ⟨congrArg Prod.fst hR, congrArg Prod.snd hR⟩
        obtain ⟨rfl, rfl⟩ := e9s
        refine ⟨_, mk, rd, mo, tl, μ, hI.1, hM, ?_⟩
        rw [if_pos (by omega)]

theorem s_X8_runs {G : xG} {d : Nat} {f : Nat → xC} {r : Nat × Nat} {Q : Option Value → xM → Prop} {m : Nat} {μ : xS} {sd n : Nat} {P : Nat → Nat → Nat} {a b : Int32} (hsd : sd ≤ 1) (hP : isPg (μ 5) n P) (hW : wfP n P) (hq : ∀ ν, othS μ ν sd → simF ν sd n (runD n P a b).1 (runD n P a b).2 → Q none (mput f m ν, r)) : xMet G (d + 3) mX8_runs [.ref m, .int (nI sd), .int a, .int b] (mput f m μ, r) r Q := by
  refine xMet_0 (by decide +kernel) rfl (Nat.le_of_ble_eq_true rfl) ?_
  show xX G (d + 3) mX8_runs r r (xΦ G r r Q) 0 [(0, .ref m), (1, .int (nI sd)), (2, .int a), (3, .int b)] [] (mput f m μ, r)
  refine xr_iconst (v := nI 0) (n := 1) dX8_runs_0 (by decide) rfl ?_
  refine xr_istore (n := 3) dX8_runs_1 rfl rfl ?_
  simp only [xst, Nat.beq, List.filter, Bool.not_true, Bool.not_false]
  rw [show mput f m μ = mput f m (minit μ sd a b 0) from by rw [minit_0]]
  refine nat_down (P := fun k => xX G (d + 3) mX8_runs r r (xΦ G r r Q) 3 [(0, .ref m), (1, .int (nI sd)), (2, .int a), (3, .int b), (4, .int (nI k))] [] (mput f m (minit μ sd a b k), r)) (N := 6) ?_ ?_ 0 (by omega)
  · refine xr_iload (n := 5) dX8_runs_3 rfl rfl ?_
    refine xr_bipush (v := nI 6) (n := 7) dX8_runs_5 (by decide) rfl ?_
    refine xr_icmp_ge (tgt := 61) (n := 10) dX8_runs_7 (by decide) rfl (fun h7 => ?_) (fun h7 => by (exfalso; ((try simp (disch := omega) only [i_lt, i_le, i_eq, nt, i_m1, Int32.toInt_zero] at *); omega)))
    refine xr_iconst (v := nI 0) (n := 62) dX8_runs_61 (by decide) rfl ?_
    refine xr_istore (n := 64) dX8_runs_62 rfl rfl ?_
    simp only [xst, Nat.beq, List.filter, Bool.not_true, Bool.not_false]
    refine xr_iconst (v := nI 0) (n := 65) dX8_runs_64 (by decide) rfl ?_
    refine xr_istore (n := 67) dX8_runs_65 rfl rfl ?_
    simp only [xst, Nat.beq, List.filter, Bool.not_true, Bool.not_false]
    refine xr_iconst (v := nI 0) (n := 68) dX8_runs_67 (by decide) rfl ?_
    refine xr_istore (n := 70) dX8_runs_68 rfl rfl ?_
    simp only [xst, Nat.beq, List.filter, Bool.not_true, Bool.not_false]
    refine xr_iconst (v := nI 1) (n := 71) dX8_runs_70 (by decide) rfl ?_
    refine xr_istore (n := 73) dX8_runs_71 rfl rfl ?_
    simp only [xst, Nat.beq, List.filter, Bool.not_true, Bool.not_false]
    exact s_X8_runs_l hsd hP hW hq 10000 _ 0 0 0 0 (d0 a b) 0 0 0 0 0 _ (by omega) (Or.inl rfl) (by omega) (minit_RI μ a b) rfl
  · intro k hk ih
    refine xr_iload (n := 5) dX8_runs_3 rfl rfl ?_
    refine xr_bipush (v := nI 6) (n := 7) dX8_runs_5 (by decide) rfl ?_
    refine xr_icmp_ge (tgt := 61) (n := 10) dX8_runs_7 (by decide) rfl (fun h7 => by (exfalso; ((try simp (disch := omega) only [i_lt, i_le, i_eq, nt, i_m1, Int32.toInt_zero] at *); omega))) (fun h7 => ?_)
    refine xr_aload_n (n := 11) dX8_runs_10 rfl rfl ?_
    refine xr_get (n := 14) dX8_runs_11 fl_X8_40 (by first | exact mput_0 _ _ _ | exact mput_r (by decide)) (by rfl) rfl ?_
    refine xr_bipush (v := nI 6) (n := 16) dX8_runs_14 (by decide) rfl ?_
    refine xr_iload_n (n := 17) dX8_runs_16 rfl rfl ?_
    refine xr_imul (n := 18) dX8_runs_17 rfl ?_
    (first | (simp (disch := omega) only [nI_clamp, pk_mul, nI_add, oi1, up2_ss, up2_n, up2_sn, ur_s, ur_n, Nat.reduceMul, Nat.reduceAdd, Nat.add_zero, pk_sub, pk_m1, Nat.add_sub_cancel]) | skip)
    refine xr_iload (n := 20) dX8_runs_18 rfl rfl ?_
    refine xr_iadd (n := 21) dX8_runs_20 rfl ?_
    (first | (simp (disch := omega) only [nI_clamp, pk_mul, nI_add, oi1, up2_ss, up2_n, up2_sn, ur_s, ur_n, Nat.reduceMul, Nat.reduceAdd, Nat.add_zero, pk_sub, pk_m1, Nat.add_sub_cancel]) | skip)
    refine xr_iconst (v := nI 0) (n := 22) dX8_runs_21 (by decide) rfl ?_
    refine xq_iastore (n := 23) dX8_runs_22 (by first | exact mput_0 _ _ _ | exact mput_r (by decide)) (by first | exact vp_in_nI (by omega) (by omega)) rfl ?_
    simp (disch := omega) only [nI_clamp, List.set, mw_0, mw_1, mw_2, mw_3, mw_4, mw_5, mw_6, mw_7, mw_8, mw_9, mw_10, mw_11, mw_12, mw_13, mw_14, mw_15, mw_16, mw_17, mw_18, mw_19]
    refine xr_aload_n (n := 24) dX8_runs_23 rfl rfl ?_
    refine xr_get (n := 27) dX8_runs_24 fl_X8_28 (by first | exact mput_0 _ _ _ | exact mput_r (by decide)) (by rfl) rfl ?_
    refine xr_bipush (v := nI 6) (n := 29) dX8_runs_27 (by decide) rfl ?_
    refine xr_iload_n (n := 30) dX8_runs_29 rfl rfl ?_
    refine xr_imul (n := 31) dX8_runs_30 rfl ?_
    (first | (simp (disch := omega) only [nI_clamp, pk_mul, nI_add, oi1, up2_ss, up2_n, up2_sn, ur_s, ur_n, Nat.reduceMul, Nat.reduceAdd, Nat.add_zero, pk_sub, pk_m1, Nat.add_sub_cancel]) | skip)
    refine xr_iload (n := 33) dX8_runs_31 rfl rfl ?_
    refine xr_iadd (n := 34) dX8_runs_33 rfl ?_
    (first | (simp (disch := omega) only [nI_clamp, pk_mul, nI_add, oi1, up2_ss, up2_n, up2_sn, ur_s, ur_n, Nat.reduceMul, Nat.reduceAdd, Nat.add_zero, pk_sub, pk_m1, Nat.add_sub_cancel]) | skip)
    refine xr_iload (n := 36) dX8_runs_34 rfl rfl ?_
    refine xr_if_ne (tgt := 43) (n := 39) dX8_runs_36 (by decide) rfl (fun h36 => ?_) (fun h36 => ?_)
    · refine xr_iload (n := 45) dX8_runs_43 rfl rfl ?_
      refine xr_iconst (v := nI 1) (n := 46) dX8_runs_45 (by decide) rfl ?_
      refine xr_icmp_ne (tgt := 53) (n := 49) dX8_runs_46 (by decide) rfl (fun h46 => ?_) (fun h46 => ?_)
      · refine xr_iconst (v := nI 0) (n := 54) dX8_runs_53 (by decide) rfl ?_
        refine xq_iastore (n := 55) dX8_runs_54 (by first | exact mput_0 _ _ _ | exact mput_r (by decide)) (by first | exact vp_in_nI (by omega) (by omega)) rfl ?_
        simp (disch := omega) only [nI_clamp, List.set, mw_0, mw_1, mw_2, mw_3, mw_4, mw_5, mw_6, mw_7, mw_8, mw_9, mw_10, mw_11, mw_12, mw_13, mw_14, mw_15, mw_16, mw_17, mw_18, mw_19]
        refine xr_iinc (n := 58) dX8_runs_55 rfl rfl (rfl) rfl ?_
        simp only [xst, Nat.beq, List.filter, Bool.not_true, Bool.not_false]
        (first | (simp (disch := omega) only [nI_clamp, pk_mul, nI_add, oi1, up2_ss, up2_n, up2_sn, ur_s, ur_n, Nat.reduceMul, Nat.reduceAdd, Nat.add_zero, pk_sub, pk_m1, Nat.add_sub_cancel]) | skip)
        refine xr_goto (n := 3) dX8_runs_58 (by decide) ?_
        refine xX.eq rfl rfl rfl ?_ ih
        rw [← minit_s (v := gini a b k) rfl]
        first | (rw [show gini a b k = a from if_pos (by ((try simp (disch := omega) only [i_lt, i_le, i_eq, nt, i_m1, Int32.toInt_zero] at *); omega))]) | (rw [show gini a b k = b from by unfold gini; rw [if_neg (by ((try simp (disch := omega) only [i_lt, i_le, i_eq, nt, i_m1, Int32.toInt_zero] at *); omega)), if_pos (by ((try simp (disch := omega) only [i_lt, i_le, i_eq, nt, i_m1, Int32.toInt_zero] at *); omega))]]) | (rw [show gini a b k = nI 0 from by unfold gini; rw [if_neg (by ((try simp (disch := omega) only [i_lt, i_le, i_eq, nt, i_m1, Int32.toInt_zero] at *); omega)), if_neg (by ((try simp (disch := omega) only [i_lt, i_le, i_eq, nt, i_m1, Int32.toInt_zero] at *); omega))]])
      · refine xr_iload_n (n := 50) dX8_runs_49 rfl rfl ?_
        refine xr_goto (n := 54) dX8_runs_50 (by decide) ?_
        refine xq_iastore (n := 55) dX8_runs_54 (by first | exact mput_0 _ _ _ | exact mput_r (by decide)) (by first | exact vp_in_nI (by omega) (by omega)) rfl ?_
        simp (disch := omega) only [nI_clamp, List.set, mw_0, mw_1, mw_2, mw_3, mw_4, mw_5, mw_6, mw_7, mw_8, mw_9, mw_10, mw_11, mw_12, mw_13, mw_14, mw_15, mw_16, mw_17, mw_18, mw_19]
        refine xr_iinc (n := 58) dX8_runs_55 rfl rfl (rfl) rfl ?_
        simp only [xst, Nat.beq, List.filter, Bool.not_true, Bool.not_false]
        (first | (simp (disch := omega) only [nI_clamp, pk_mul, nI_add, oi1, up2_ss, up2_n, up2_sn, ur_s, ur_n, Nat.reduceMul, Nat.reduceAdd, Nat.add_zero, pk_sub, pk_m1, Nat.add_sub_cancel]) | skip)
        refine xr_goto (n := 3) dX8_runs_58 (by decide) ?_
        refine xX.eq rfl rfl rfl ?_ ih
        rw [← minit_s (v := gini a b k) rfl]
        first | (rw [show gini a b k = a from if_pos (by ((try simp (disch := omega) only [i_lt, i_le, i_eq, nt, i_m1, Int32.toInt_zero] at *); omega))]) | (rw [show gini a b k = b from by unfold gini; rw [if_neg (by ((try simp (disch := omega) only [i_lt, i_le, i_eq, nt, i_m1, Int32.toInt_zero] at *); omega)), if_pos (by ((try simp (disch := omega) only [i_lt, i_le, i_eq, nt, i_m1, Int32.toInt_zero] at *); omega))]]) | (rw [show gini a b k = nI 0 from by unfold gini; rw [if_neg (by ((try simp (disch := omega) only [i_lt, i_le, i_eq, nt, i_m1, Int32.toInt_zero] at *); omega)), if_neg (by ((try simp (disch := omega) only [i_lt, i_le, i_eq, nt, i_m1, Int32.toInt_zero] at *); omega))]])
    · refine xr_iload_n (n := 40) dX8_runs_39 rfl rfl ?_
      refine xr_goto (n := 54) dX8_runs_40 (by decide) ?_
      refine xq_iastore (n := 55) dX8_runs_54 (by first | exact mput_0 _ _ _ | exact mput_r (by decide)) (by first | exact vp_in_nI (by omega) (by omega)) rfl ?_
      simp (disch := omega) only [nI_clamp, List.set, mw_0, mw_1, mw_2, mw_3, mw_4, mw_5, mw_6, mw_7, mw_8, mw_9, mw_10, mw_11, mw_12, mw_13, mw_14, mw_15, mw_16, mw_17, mw_18, mw_19]
      refine xr_iinc (n := 58) dX8_runs_55 rfl rfl (rfl) rfl ?_
      simp only [xst, Nat.beq, List.filter, Bool.not_true, Bool.not_false]
      (first | (simp (disch := omega) only [nI_clamp, pk_mul, nI_add, oi1, up2_ss, up2_n, up2_sn, ur_s, ur_n, Nat.reduceMul, Nat.reduceAdd, Nat.add_zero, pk_sub, pk_m1, Nat.add_sub_cancel]) | skip)
      refine xr_goto (n := 3) dX8_runs_58 (by decide) ?_
      refine xX.eq rfl rfl rfl ?_ ih
      rw [← minit_s (v := gini a b k) rfl]
      first | (rw [show gini a b k = a from if_pos (by ((try simp (disch := omega) only [i_lt, i_le, i_eq, nt, i_m1, Int32.toInt_zero] at *); omega))]) | (rw [show gini a b k = b from by unfold gini; rw [if_neg (by ((try simp (disch := omega) only [i_lt, i_le, i_eq, nt, i_m1, Int32.toInt_zero] at *); omega)), if_pos (by ((try simp (disch := omega) only [i_lt, i_le, i_eq, nt, i_m1, Int32.toInt_zero] at *); omega))]]) | (rw [show gini a b k = nI 0 from by unfold gini; rw [if_neg (by ((try simp (disch := omega) only [i_lt, i_le, i_eq, nt, i_m1, Int32.toInt_zero] at *); omega)), if_neg (by ((try simp (disch := omega) only [i_lt, i_le, i_eq, nt, i_m1, Int32.toInt_zero] at *); omega))]])
