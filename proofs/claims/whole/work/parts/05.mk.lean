/-! the reference's questions about runs -/
def frm (μ ν : xS) : Prop := ∀ w, w ≤ 4 → ν w = μ w
theorem frm.rfl {μ : xS} : frm μ μ := fun _ _ => Eq.refl _
theorem frm.tr {μ ν κ : xS} (h : frm μ ν) (h2 : frm ν κ) : frm μ κ := fun w hw => (h2 w hw).trans (h w hw)
theorem mtk_a {μ : xS} {p w j : Nat} : mtake μ p w j = if w = 5 then (if j < 421 then μ 0 (421 * p + j) else μ 5 j) else μ w j := by
  unfold mtake
  rw [ur_a]
  by_cases h : w = 5
  · rw [if_pos h, if_pos h, fo_a]
    simp only [Nat.zero_le, true_and, Nat.zero_add, Nat.sub_zero]
  · rw [if_neg h, if_neg h]
theorem mtk_r {μ : xS} {p w : Nat} (h : w ≠ 5) : mtake μ p w = μ w := by
  funext j
  rw [mtk_a, if_neg h]
theorem frm_tk {μ : xS} {p : Nat} : frm μ (mtake μ p) := fun w hw => mtk_r (by omega)
theorem frm_oth {μ ν : xS} {sd : Nat} (h : othS μ ν sd) : frm μ ν := fun w hw => h.1 w (by omega)
theorem isPg.ofr {μ ν : xS} {p n : Nat} {P : Nat → Nat → Nat} (h : frm μ ν) (hn : n ≤ 60) (hP : isPg (mtake μ p 5) n P) : isPg (mtake ν p 5) n P := by
  have h0 := h 0 (by omega)
  refine ⟨?_, fun s w hs hw => ?_⟩
  · have := hP.1
    rw [mtk_a, if_pos rfl, if_pos (by omega)] at this ⊢
    rw [h0]; exact this
  · have := hP.2 s w hs hw
    rw [mtk_a, if_pos rfl, if_pos (by omega)] at this ⊢
    rw [h0]; exact this
def cutD (n : Nat) (A : Nat × xS) : Int32 := if A.1 < n then nI 1 else nI 0
def finN (μ : xS) (sd n : Nat) (A : Nat × xS) (t mk rd mo tl : Nat) : Prop := adC A.2 t mk rd mo tl ∧ (μ 13 (6 * sd) = nI t ∧ μ 13 (6 * sd + 1) = cutD n A ∧ μ 13 (6 * sd + 2) = nI tl ∧ μ 13 (6 * sd + 3) = nI mk ∧ μ 13 (6 * sd + 4) = nI rd ∧ μ 13 (6 * sd + 5) = nI mo) ∧ (∀ i, i < 6 → μ 9 (6 * sd + i) = A.2 1 i) ∧ (∀ i, i < tl → i < 40 → μ 10 (40 * sd + i) = A.2 0 i) ∧ ∀ i, i < mk → i < 40 → μ 11 (40 * sd + i) = A.2 3 i ∧ ∀ c, c < 6 → μ 12 (240 * sd + 6 * i + c) = A.2 2 (6 * i + c)
theorem fin_of {μ δ : xS} {sd n e : Nat} (h : simF μ sd n e δ) : ∃ t mk rd mo tl, finN μ sd n (e, δ) t mk rd mo tl := by
  obtain ⟨t, mk, rd, mo, tl, μ1, hC, ⟨⟨m0, m1, m2, m3, m4, m5⟩, mc, mt, mm⟩, rfl⟩ := h
  refine ⟨t, mk, rd, mo, tl, hC, ?_⟩
  unfold cutD
  by_cases he : e < n
  · simp only [if_pos he]
    refine ⟨⟨?_, ?_, ?_, ?_, ?_, ?_⟩, fun i hi => ?_, fun i h1 h2 => ?_, fun i h1 h2 => ⟨?_, fun c hc => ?_⟩⟩
    · rw [up2_sn _ _ _ (by omega)]; exact m0
    · rw [up2_ss]
    · rw [up2_sn _ _ _ (by omega)]; exact m2
    · rw [up2_sn _ _ _ (by omega)]; exact m3
    · rw [up2_sn _ _ _ (by omega)]; exact m4
    · rw [up2_sn _ _ _ (by omega)]; exact m5
    · rw [up2_n _ _ _ (by omega)]; exact mc i hi
    · rw [up2_n _ _ _ (by omega)]; exact mt i h1 h2
    · rw [up2_n _ _ _ (by omega)]; exact (mm i h1 h2).1
    · rw [up2_n _ _ _ (by omega)]; exact (mm i h1 h2).2 c hc
  · simp only [if_neg he]
    exact ⟨⟨m0, m1, m2, m3, m4, m5⟩, mc, mt, mm⟩
theorem fin_oth {μ ν : xS} {sd od n : Nat} {A : Nat × xS} {t mk rd mo tl : Nat} (h : othS μ ν sd) (ho : od ≤ 1) (hn : od ≠ sd) (hf : finN μ od n A t mk rd mo tl) : finN ν od n A t mk rd mo tl := by
  obtain ⟨hC, ⟨m0, m1, m2, m3, m4, m5⟩, mc, mt, mm⟩ := hf
  obtain ⟨o9, o10, o11, o12, o13⟩ := h.2 od ho hn
  refine ⟨hC, ⟨?_, ?_, ?_, ?_, ?_, ?_⟩, fun i hi => ?_, fun i h1 h2 => ?_, fun i h1 h2 => ⟨?_, fun c hc => ?_⟩⟩
  · rw [show 6 * od = 6 * od + 0 from rfl, o13 0 (by omega)]; exact m0
  · rw [o13 1 (by omega)]; exact m1
  · rw [o13 2 (by omega)]; exact m2
  · rw [o13 3 (by omega)]; exact m3
  · rw [o13 4 (by omega)]; exact m4
  · rw [o13 5 (by omega)]; exact m5
  · rw [o9 i hi]; exact mc i hi
  · rw [o10 i h2]; exact mt i h1 h2
  · rw [o11 i h2]; exact (mm i h1 h2).1
  · rw [show 240 * od + 6 * i + c = 240 * od + (6 * i + c) from by omega, o12 (6 * i + c) (by omega), show 240 * od + (6 * i + c) = 240 * od + 6 * i + c from by omega]; exact (mm i h1 h2).2 c hc
theorem fin_eq {μ ν : xS} {sd n : Nat} {A : Nat × xS} {t mk rd mo tl : Nat} (h : ∀ w, 9 ≤ w → ν w = μ w) (hf : finN μ sd n A t mk rd mo tl) : finN ν sd n A t mk rd mo tl := by
  obtain ⟨hC, hm, mc, mt, mm⟩ := hf
  refine ⟨hC, ?_, fun i hi => ?_, fun i h1 h2 => ?_, fun i h1 h2 => ⟨?_, fun c hc => ?_⟩⟩
  · rw [h 13 (by omega)]; exact hm
  · rw [h 9 (by omega)]; exact mc i hi
  · rw [h 10 (by omega)]; exact mt i h1 h2
  · rw [h 11 (by omega)]; exact (mm i h1 h2).1
  · rw [h 12 (by omega)]; exact (mm i h1 h2).2 c hc
def runV (n : Nat) (A : Nat × xS) (w : Nat) : Int32 := if w = 0 then A.2 5 0 else if w = 1 then cutD n A else if w = 2 then A.2 9 0 else if w = 3 then A.2 6 0 else if w = 4 then A.2 7 0 else A.2 8 0
def valA (A : Nat × xS) (k : Nat) : Int32 := if k < 40 ∧ k < ix (A.2 9 0) then A.2 0 k else (-10009)
def celA (A : Nat × xS) (k c : Nat) : Int32 := if k < 40 ∧ k < ix (A.2 6 0) then A.2 2 (6 * k + c) else (-10009)
theorem fin_run {μ : xS} {sd n : Nat} {A : Nat × xS} {t mk rd mo tl : Nat} (h : finN μ sd n A t mk rd mo tl) {w : Nat} (hw : w < 6) : μ 13 (6 * sd + w) = runV n A w := by
  obtain ⟨hC, ⟨m0, m1, m2, m3, m4, m5⟩, -⟩ := h
  obtain ⟨c5, c6, c7, c8, c9, -⟩ := hC
  unfold runV
  have hw6 : w = 0 ∨ w = 1 ∨ w = 2 ∨ w = 3 ∨ w = 4 ∨ w = 5 := by omega
  rcases hw6 with rfl | rfl | rfl | rfl | rfl | rfl
  · simp only [if_pos]; rw [c5]; exact m0
  · exact m1
  · exact m2.trans c9.symm
  · exact m3.trans c6.symm
  · exact m4.trans c7.symm
  · exact m5.trans c8.symm
theorem ine (a b : Int32) : (a = b) = (a.toInt = b.toInt) := propext (i_eq a b)
theorem k_of {v : Int32} (h : 0 ≤ v.toInt) : ∃ k : Nat, k < 2 ^ 31 ∧ v = nI k := ⟨v.toInt.toNat, by have := i_rng v; omega, i_of (by omega)⟩
theorem ls40 {x : Nat} (h : x ≤ 400) : (if nI 40 < nI x then nI 40 else nI x) = nI (if 40 < x then 40 else x) := by
  by_cases e : 40 < x
  · rw [if_pos e, if_pos ((i_lt _ _).mpr (by rw [nt _ (by omega), nt _ (by omega)]; omega))]
  · rw [if_neg e, if_neg (fun q => e (by have := (i_lt _ _).mp q; rw [nt _ (by omega), nt _ (by omega)] at this; omega))]
theorem le40 {x k : Nat} (h : x ≤ 400) (hk : k < 2 ^ 31) : nI (if 40 < x then 40 else x) ≤ nI k ↔ ¬ (k < 40 ∧ k < x) := by
  rw [i_le, nt _ hk, nt _ (by split <;> omega)]
  split <;> omega
theorem lsnn {x y : Nat} (h : x ≤ 400) (h2 : y ≤ 400) : (if nI x < nI y then nI x else nI y) = nI (if x < y then x else y) := by
  by_cases e : x < y
  · rw [if_pos e, if_pos ((i_lt _ _).mpr (by rw [nt _ (by omega), nt _ (by omega)]; omega))]
  · rw [if_neg e, if_neg (fun q => e (by have := (i_lt _ _).mp q; rw [nt _ (by omega), nt _ (by omega)] at this; omega))]
theorem s_X8_runsOne {G : xG} {d : Nat} {f : Nat → xC} {r : Nat × Nat} {Q : Option Value → xM → Prop} {m : Nat} {μ : xS} {sd n : Nat} {P : Nat → Nat → Nat} {a b : Int32} (hsd : sd ≤ 1) (hP : isPg (mtake μ sd 5) n P) (hW : wfP n P) (hq : ∀ ν t mk rd mo tl, othS (mtake μ sd) ν sd → finN ν sd n (runD n P a b) t mk rd mo tl → Q none (mput f m ν, r)) : xMet G (d + 4) mX8_runsOne [.ref m, .int (nI sd), .int a, .int b] (mput f m μ, r) r Q := by
  refine xMet_0 (by decide +kernel) rfl (Nat.le_of_ble_eq_true rfl) ?_
  show xX G (d + 4) mX8_runsOne r r (xΦ G r r Q) 0 [(0, .ref m), (1, .int (nI sd)), (2, .int a), (3, .int b)] [] (mput f m μ, r)
  refine xr_aload_n (n := 1) dX8_runsOne_0 rfl rfl ?_
  refine xr_iload_n (n := 2) dX8_runsOne_1 rfl rfl ?_
  refine xr_callV (y2 := mX8_takes) (As := [_]) (n := 5) dX8_runsOne_2 lm_X8_121 pm_X8_takes pi_X8_takes (by first | exact mput_0 _ _ _ | exact mput_r (by decide)) rfl rfl rfl (by simp [Value.category]) rfl ⟨Nat.le_refl _, Nat.le_refl _⟩ ?_
  refine s_X8_takes (by omega) ?_
  dsimp only [xK, xps]
  refine xr_aload_n (n := 6) dX8_runsOne_5 rfl rfl ?_
  refine xr_iload_n (n := 7) dX8_runsOne_6 rfl rfl ?_
  refine xr_iload_n (n := 8) dX8_runsOne_7 rfl rfl ?_
  refine xr_iload_n (n := 9) dX8_runsOne_8 rfl rfl ?_
  refine xr_callV (y2 := mX8_runs) (As := [_, _, _]) (n := 12) dX8_runsOne_9 lm_X8_168 pm_X8_runs pi_X8_runs (by first | exact mput_0 _ _ _ | exact mput_r (by decide)) rfl rfl rfl (by simp [Value.category]) rfl ⟨Nat.le_refl _, Nat.le_refl _⟩ ?_
  refine s_X8_runs hsd hP hW (fun ν ho hf => ?_)
  obtain ⟨t, mk, rd, mo, tl, hN⟩ := fin_of hf
  dsimp only [xK, xps]
  refine xr_return dX8_runsOne_12 rfl rfl ?_
  exact hq ν t mk rd mo tl ho hN

theorem s_X8_runsBoth {G : xG} {d : Nat} {f : Nat → xC} {r : Nat × Nat} {Q : Option Value → xM → Prop} {m : Nat} {μ : xS} {n0 n1 : Nat} {P0 P1 : Nat → Nat → Nat} {a b : Int32} (hP0 : isPg (mtake μ 0 5) n0 P0) (hW0 : wfP n0 P0) (hP1 : isPg (mtake μ 1 5) n1 P1) (hW1 : wfP n1 P1) (hq : ∀ ν t mk rd mo tl t1 mk1 rd1 mo1 tl1, frm μ ν → finN ν 0 n0 (runD n0 P0 a b) t mk rd mo tl → finN ν 1 n1 (runD n1 P1 a b) t1 mk1 rd1 mo1 tl1 → Q none (mput f m ν, r)) : xMet G (d + 5) mX8_runsBoth [.ref m, .int a, .int b] (mput f m μ, r) r Q := by
  refine xMet_0 (by decide +kernel) rfl (Nat.le_of_ble_eq_true rfl) ?_
  show xX G (d + 5) mX8_runsBoth r r (xΦ G r r Q) 0 [(0, .ref m), (1, .int a), (2, .int b)] [] (mput f m μ, r)
  refine xr_aload_n (n := 1) dX8_runsBoth_0 rfl rfl ?_
  refine xr_iconst (v := nI 0) (n := 2) dX8_runsBoth_1 (by decide) rfl ?_
  refine xr_iload_n (n := 3) dX8_runsBoth_2 rfl rfl ?_
  refine xr_iload_n (n := 4) dX8_runsBoth_3 rfl rfl ?_
  refine xr_callV (y2 := mX8_runsOne) (As := [_, _, _]) (n := 7) dX8_runsBoth_4 lm_X8_174 pm_X8_runsOne pi_X8_runsOne (by first | exact mput_0 _ _ _ | exact mput_r (by decide)) rfl rfl rfl (by simp [Value.category]) rfl ⟨Nat.le_refl _, Nat.le_refl _⟩ ?_
  refine s_X8_runsOne (by omega) hP0 hW0 (fun ν t mk rd mo tl ho hN => ?_)
  dsimp only [xK, xps]
  refine xr_aload_n (n := 8) dX8_runsBoth_7 rfl rfl ?_
  refine xr_iconst (v := nI 1) (n := 9) dX8_runsBoth_8 (by decide) rfl ?_
  refine xr_iload_n (n := 10) dX8_runsBoth_9 rfl rfl ?_
  refine xr_iload_n (n := 11) dX8_runsBoth_10 rfl rfl ?_
  refine xr_callV (y2 := mX8_runsOne) (As := [_, _, _]) (n := 14) dX8_runsBoth_11 lm_X8_174 pm_X8_runsOne pi_X8_runsOne (by first | exact mput_0 _ _ _ | exact mput_r (by decide)) rfl rfl rfl (by simp [Value.category]) rfl ⟨Nat.le_refl _, Nat.le_refl _⟩ ?_
  have hf1 := frm_tk.tr (frm_oth ho)
  refine s_X8_runsOne (by omega) (hP1.ofr hf1 hW1.1.1) hW1 (fun ν1 t1 mk1 rd1 mo1 tl1 ho1 hN1 => ?_)
  dsimp only [xK, xps]
  refine xr_return dX8_runsBoth_14 rfl rfl ?_
  exact hq ν1 t mk rd mo tl t1 mk1 rd1 mo1 tl1 (hf1.tr (frm_tk.tr (frm_oth ho1))) (fin_oth ho1 (by omega) (by omega) (fin_eq (fun w hw => mtk_r (by omega)) hN)) hN1

theorem s_X8_run {G : xG} {d : Nat} {f : Nat → xC} {r : Nat × Nat} {Q : Option Value → xM → Prop} {m : Nat} {μ : xS} {p a b w : Int32} {N : Nat → Nat} {P : Nat → Nat → Nat → Nat} (hN : ∀ q, q ≤ 1 → isPg (mtake μ q 5) (N q) (P q) ∧ wfP (N q) (P q)) (hq0 : ¬ ((0 ≤ p.toInt ∧ p.toInt ≤ 1) ∧ ((-999 ≤ a.toInt ∧ a.toInt ≤ 999) ∧ (-999 ≤ b.toInt ∧ b.toInt ≤ 999)) ∧ (0 ≤ w.toInt ∧ w.toInt ≤ 5)) → Q (some (.int (-10001))) (mput f m μ, r)) (hq : ∀ (pn wn : Nat) (ν : xS), pn ≤ 1 → wn ≤ 5 → p = nI pn → w = nI wn → ((-999 ≤ a.toInt ∧ a.toInt ≤ 999) ∧ (-999 ≤ b.toInt ∧ b.toInt ≤ 999)) → frm μ ν → Q (some (.int (runV (N pn) (runD (N pn) (P pn) a b) wn))) (mput f m ν, r)) : xMet G (d + 5) mX8_run [.ref m, .int p, .int a, .int b, .int w] (mput f m μ, r) r Q := by
  refine xMet_0 (by decide +kernel) rfl (Nat.le_of_ble_eq_true rfl) ?_
  show xX G (d + 5) mX8_run r r (xΦ G r r Q) 0 [(0, .ref m), (1, .int p), (2, .int a), (3, .int b), (4, .int w)] [] (mput f m μ, r)
  refine xr_iload_n (n := 1) dX8_run_0 rfl rfl ?_
  refine xr_callS (y2 := mX8_isProgram) (As := [_]) (n := 4) dX8_run_1 lm_X8_107 pm_X8_isProgram kp_static_yX8_isProgram rfl rfl (by simp [Value.category]) rfl ⟨Nat.le_refl _, Nat.le_refl _⟩ ?_
  refine s_X8_isProgram ?_
  dsimp only [xK, xps]
  refine xr_beq (tgt := 25) (n := 7) dX8_run_4 (by decide) rfl (fun h4 => ?_) (fun h4 => ?_)
  · refine xr_sipush (v := (-10001)) (n := 28) dX8_run_25 (by decide) rfl ?_
    refine xr_ireturn dX8_run_28 rfl rfl rfl ?_
    first | exact hq0 (fun q => h4 q.1) | exact hq0 (fun q => h12 q.2.1) | exact hq0 (fun q => h22 q.2.2)
  · refine xr_iload_n (n := 8) dX8_run_7 rfl rfl ?_
    refine xr_iload_n (n := 9) dX8_run_8 rfl rfl ?_
    refine xr_callS (y2 := mX8_isInput) (As := [_, _]) (n := 12) dX8_run_9 lm_X8_171 pm_X8_isInput kp_static_yX8_isInput rfl rfl (by simp [Value.category]) rfl ⟨Nat.le_refl _, Nat.le_refl _⟩ ?_
    refine s_X8_isInput ?_
    dsimp only [xK, xps]
    refine xr_beq (tgt := 25) (n := 15) dX8_run_12 (by decide) rfl (fun h12 => ?_) (fun h12 => ?_)
    · refine xr_sipush (v := (-10001)) (n := 28) dX8_run_25 (by decide) rfl ?_
      refine xr_ireturn dX8_run_28 rfl rfl rfl ?_
      first | exact hq0 (fun q => h4 q.1) | exact hq0 (fun q => h12 q.2.1) | exact hq0 (fun q => h22 q.2.2)
    · skip
      refine xr_iload (n := 17) dX8_run_15 rfl rfl ?_
      refine xr_iconst (v := nI 0) (n := 18) dX8_run_17 (by decide) rfl ?_
      refine xr_iconst (v := nI 5) (n := 19) dX8_run_18 (by decide) rfl ?_
      refine xr_callS (y2 := mX8_within) (As := [_, _, _]) (n := 22) dX8_run_19 lm_X8_61 pm_X8_within kp_static_yX8_within rfl rfl (by simp [Value.category]) rfl ⟨Nat.le_refl _, Nat.le_refl _⟩ ?_
      refine s_X8_within ?_
      dsimp only [xK, xps]
      refine xr_bne (tgt := 29) (n := 25) dX8_run_22 (by decide) rfl (fun h22 => ?_) (fun h22 => ?_)
      · obtain ⟨pn, hpn, rfl⟩ := p_of h4
        obtain ⟨hP1, hW1⟩ := hN pn hpn
        obtain ⟨wn, hwn, rfl⟩ := k_of h22.1
        have hw6 : wn ≤ 5 := by ((try simp (disch := omega) only [i_lt, i_le, i_eq, nt, i_m1, Int32.toInt_zero] at *); omega)
        refine xr_aload_n (n := 30) dX8_run_29 rfl rfl ?_
        refine xr_iload_n (n := 31) dX8_run_30 rfl rfl ?_
        refine xr_iload_n (n := 32) dX8_run_31 rfl rfl ?_
        refine xr_iload_n (n := 33) dX8_run_32 rfl rfl ?_
        refine xr_callV (y2 := mX8_runsOne) (As := [_, _, _]) (n := 36) dX8_run_33 lm_X8_174 pm_X8_runsOne pi_X8_runsOne (by first | exact mput_0 _ _ _ | exact mput_r (by decide)) rfl rfl rfl (by simp [Value.category]) rfl ⟨Nat.le_refl _, Nat.le_refl _⟩ ?_
        refine s_X8_runsOne (by omega) hP1 hW1 (fun ν t mk rd mo tl ho hN => ?_)
        dsimp only [xK, xps]
        refine xr_aload_n (n := 37) dX8_run_36 rfl rfl ?_
        refine xr_get (n := 40) dX8_run_37 fl_X8_40 (by first | exact mput_0 _ _ _ | exact mput_r (by decide)) (by rfl) rfl ?_
        refine xr_bipush (v := nI 6) (n := 42) dX8_run_40 (by decide) rfl ?_
        refine xr_iload_n (n := 43) dX8_run_42 rfl rfl ?_
        refine xr_imul (n := 44) dX8_run_43 rfl ?_
        try simp (disch := omega) only [nI_clamp, pk_mul, nI_add, oi1, up2_a, ur_a, Nat.reduceEqDiff, Nat.reduceMul, Nat.reduceAdd, reduceIte, if_pos, if_neg]
        refine xr_iload (n := 46) dX8_run_44 rfl rfl ?_
        refine xr_iadd (n := 47) dX8_run_46 rfl ?_
        try simp (disch := omega) only [nI_clamp, pk_mul, nI_add, oi1, up2_a, ur_a, Nat.reduceEqDiff, Nat.reduceMul, Nat.reduceAdd, reduceIte, if_pos, if_neg]
        refine xr_iaload (n := 48) dX8_run_47 (by first | exact mput_0 _ _ _ | exact mput_r (by decide)) (by first | exact vp_in_nI (by omega) (by omega)) rfl ?_
        try simp (disch := omega) only [nI_clamp, pk_mul, nI_add, oi1, up2_a, ur_a, Nat.reduceEqDiff, Nat.reduceMul, Nat.reduceAdd, reduceIte, if_pos, if_neg]
        rw [fin_run hN (by omega)]
        refine xr_ireturn dX8_run_48 rfl rfl rfl ?_
        exact hq pn wn ν hpn hw6 rfl rfl h12 (frm_tk.tr (frm_oth ho))
      · refine xr_sipush (v := (-10001)) (n := 28) dX8_run_25 (by decide) rfl ?_
        refine xr_ireturn dX8_run_28 rfl rfl rfl ?_
        first | exact hq0 (fun q => h4 q.1) | exact hq0 (fun q => h12 q.2.1) | exact hq0 (fun q => h22 q.2.2)

theorem s_X8_told {G : xG} {d : Nat} {f : Nat → xC} {r : Nat × Nat} {Q : Option Value → xM → Prop} {m : Nat} {μ : xS} {p a b w : Int32} {N : Nat → Nat} {P : Nat → Nat → Nat → Nat} (hN : ∀ q, q ≤ 1 → isPg (mtake μ q 5) (N q) (P q) ∧ wfP (N q) (P q)) (hq0 : ¬ ((0 ≤ p.toInt ∧ p.toInt ≤ 1) ∧ ((-999 ≤ a.toInt ∧ a.toInt ≤ 999) ∧ (-999 ≤ b.toInt ∧ b.toInt ≤ 999)) ∧ 0 ≤ w.toInt) → Q (some (.int (-10001))) (mput f m μ, r)) (hq : ∀ (pn wn : Nat) (ν : xS), pn ≤ 1 → p = nI pn → w = nI wn → wn < 2 ^ 31 → ((-999 ≤ a.toInt ∧ a.toInt ≤ 999) ∧ (-999 ≤ b.toInt ∧ b.toInt ≤ 999)) → frm μ ν → Q (some (.int (valA (runD (N pn) (P pn) a b) wn))) (mput f m ν, r)) : xMet G (d + 5) mX8_told [.ref m, .int p, .int a, .int b, .int w] (mput f m μ, r) r Q := by
  refine xMet_0 (by decide +kernel) rfl (Nat.le_of_ble_eq_true rfl) ?_
  show xX G (d + 5) mX8_told r r (xΦ G r r Q) 0 [(0, .ref m), (1, .int p), (2, .int a), (3, .int b), (4, .int w)] [] (mput f m μ, r)
  refine xr_iload_n (n := 1) dX8_told_0 rfl rfl ?_
  refine xr_callS (y2 := mX8_isProgram) (As := [_]) (n := 4) dX8_told_1 lm_X8_107 pm_X8_isProgram kp_static_yX8_isProgram rfl rfl (by simp [Value.category]) rfl ⟨Nat.le_refl _, Nat.le_refl _⟩ ?_
  refine s_X8_isProgram ?_
  dsimp only [xK, xps]
  refine xr_beq (tgt := 20) (n := 7) dX8_told_4 (by decide) rfl (fun h4 => ?_) (fun h4 => ?_)
  · refine xr_sipush (v := (-10001)) (n := 23) dX8_told_20 (by decide) rfl ?_
    refine xr_ireturn dX8_told_23 rfl rfl rfl ?_
    first | exact hq0 (fun q => h4 q.1) | exact hq0 (fun q => h12 q.2.1) | exact hq0 (fun q => by (have := q.2.2; ((try simp (disch := omega) only [i_lt, i_le, i_eq, nt, i_m1, Int32.toInt_zero] at *); omega)))
  · refine xr_iload_n (n := 8) dX8_told_7 rfl rfl ?_
    refine xr_iload_n (n := 9) dX8_told_8 rfl rfl ?_
    refine xr_callS (y2 := mX8_isInput) (As := [_, _]) (n := 12) dX8_told_9 lm_X8_171 pm_X8_isInput kp_static_yX8_isInput rfl rfl (by simp [Value.category]) rfl ⟨Nat.le_refl _, Nat.le_refl _⟩ ?_
    refine s_X8_isInput ?_
    dsimp only [xK, xps]
    refine xr_beq (tgt := 20) (n := 15) dX8_told_12 (by decide) rfl (fun h12 => ?_) (fun h12 => ?_)
    · refine xr_sipush (v := (-10001)) (n := 23) dX8_told_20 (by decide) rfl ?_
      refine xr_ireturn dX8_told_23 rfl rfl rfl ?_
      first | exact hq0 (fun q => h4 q.1) | exact hq0 (fun q => h12 q.2.1) | exact hq0 (fun q => by (have := q.2.2; ((try simp (disch := omega) only [i_lt, i_le, i_eq, nt, i_m1, Int32.toInt_zero] at *); omega)))
    · refine xr_iload (n := 17) dX8_told_15 rfl rfl ?_
      refine xr_if_ge (tgt := 24) (n := 20) dX8_told_17 (by decide) rfl (fun h17 => ?_) (fun h17 => ?_)
      · obtain ⟨pn, hpn, rfl⟩ := p_of h4
        obtain ⟨hP1, hW1⟩ := hN pn hpn
        have h17b : 0 ≤ w.toInt := by ((try simp (disch := omega) only [i_lt, i_le, i_eq, nt, i_m1, Int32.toInt_zero] at *); omega)
        obtain ⟨wn, hwn, rfl⟩ := k_of h17b
        refine xr_aload_n (n := 25) dX8_told_24 rfl rfl ?_
        refine xr_iload_n (n := 26) dX8_told_25 rfl rfl ?_
        refine xr_iload_n (n := 27) dX8_told_26 rfl rfl ?_
        refine xr_iload_n (n := 28) dX8_told_27 rfl rfl ?_
        refine xr_callV (y2 := mX8_runsOne) (As := [_, _, _]) (n := 31) dX8_told_28 lm_X8_174 pm_X8_runsOne pi_X8_runsOne (by first | exact mput_0 _ _ _ | exact mput_r (by decide)) rfl rfl rfl (by simp [Value.category]) rfl ⟨Nat.le_refl _, Nat.le_refl _⟩ ?_
        refine s_X8_runsOne (by omega) hP1 hW1 (fun ν t mk rd mo tl ho hN => ?_)
        dsimp only [xK, xps]
        refine xr_iload (n := 33) dX8_told_31 rfl rfl ?_
        skip
        refine xr_bipush (v := nI 40) (n := 35) dX8_told_33 (by decide) rfl ?_
        refine xr_aload_n (n := 36) dX8_told_35 rfl rfl ?_
        refine xr_get (n := 39) dX8_told_36 fl_X8_40 (by first | exact mput_0 _ _ _ | exact mput_r (by decide)) (by rfl) rfl ?_
        refine xr_bipush (v := nI 6) (n := 41) dX8_told_39 (by decide) rfl ?_
        refine xr_iload_n (n := 42) dX8_told_41 rfl rfl ?_
        refine xr_imul (n := 43) dX8_told_42 rfl ?_
        try simp (disch := omega) only [nI_clamp, pk_mul, nI_add, oi1, up2_a, ur_a, Nat.reduceEqDiff, Nat.reduceMul, Nat.reduceAdd, reduceIte, if_pos, if_neg]
        refine xr_iconst (v := nI 2) (n := 44) dX8_told_43 (by decide) rfl ?_
        refine xr_iadd (n := 45) dX8_told_44 rfl ?_
        try simp (disch := omega) only [nI_clamp, pk_mul, nI_add, oi1, up2_a, ur_a, Nat.reduceEqDiff, Nat.reduceMul, Nat.reduceAdd, reduceIte, if_pos, if_neg]
        refine xr_iaload (n := 46) dX8_told_45 (by first | exact mput_0 _ _ _ | exact mput_r (by decide)) (by first | exact vp_in_nI (by omega) (by omega)) rfl ?_
        try simp (disch := omega) only [nI_clamp, pk_mul, nI_add, oi1, up2_a, ur_a, Nat.reduceEqDiff, Nat.reduceMul, Nat.reduceAdd, reduceIte, if_pos, if_neg]
        obtain ⟨⟨-, -, -, -, c9, -, -, -, b9, bt, -⟩, ⟨-, -, m2, -⟩, -, mt, -⟩ := id hN
        rw [m2]
        refine xr_callS (y2 := mX8_least) (As := [_, _]) (n := 49) dX8_told_46 lm_X8_177 pm_X8_least kp_static_yX8_least rfl rfl (by simp [Value.category]) rfl ⟨Nat.le_refl _, Nat.le_refl _⟩ ?_
        refine s_X8_least ?_
        dsimp only [xK, xps]
        rw [ls40 (by omega)]
        refine xr_icmp_ge (tgt := 67) (n := 52) dX8_told_49 (by decide) rfl (fun h49 => ?_) (fun h49 => ?_)
        · have hlt : ¬ (wn < 40 ∧ wn < tl) := (le40 (by omega) hwn).mp h49
          refine xr_sipush (v := (-10009)) (n := 70) dX8_told_67 (by decide) rfl ?_
          refine xr_ireturn dX8_told_70 rfl rfl rfl ?_
          have hq := hq pn wn ν hpn rfl rfl hwn h12 (frm_tk.tr (frm_oth ho))
          unfold valA at hq
          rw [c9, ix_n (by omega)] at hq
          first | (rw [if_neg hlt] at hq; exact hq) | (rw [if_pos hlt] at hq; rw [mt wn hlt.2 hlt.1]; exact hq)
        · have hlt : wn < 40 ∧ wn < tl := Decidable.not_not.mp (fun q => h49 ((le40 (by omega) hwn).mpr q))
          refine xr_aload_n (n := 53) dX8_told_52 rfl rfl ?_
          refine xr_get (n := 56) dX8_told_53 fl_X8_31 (by first | exact mput_0 _ _ _ | exact mput_r (by decide)) (by rfl) rfl ?_
          refine xr_bipush (v := nI 40) (n := 58) dX8_told_56 (by decide) rfl ?_
          refine xr_iload_n (n := 59) dX8_told_58 rfl rfl ?_
          refine xr_imul (n := 60) dX8_told_59 rfl ?_
          try simp (disch := omega) only [nI_clamp, pk_mul, nI_add, oi1, up2_a, ur_a, Nat.reduceEqDiff, Nat.reduceMul, Nat.reduceAdd, reduceIte, if_pos, if_neg]
          refine xr_iload (n := 62) dX8_told_60 rfl rfl ?_
          refine xr_iadd (n := 63) dX8_told_62 rfl ?_
          try simp (disch := omega) only [nI_clamp, pk_mul, nI_add, oi1, up2_a, ur_a, Nat.reduceEqDiff, Nat.reduceMul, Nat.reduceAdd, reduceIte, if_pos, if_neg]
          refine xr_iaload (n := 64) dX8_told_63 (by first | exact mput_0 _ _ _ | exact mput_r (by decide)) (by first | exact vp_in_nI (by omega) (by omega)) rfl ?_
          try simp (disch := omega) only [nI_clamp, pk_mul, nI_add, oi1, up2_a, ur_a, Nat.reduceEqDiff, Nat.reduceMul, Nat.reduceAdd, reduceIte, if_pos, if_neg]
          refine xr_goto (n := 70) dX8_told_64 (by decide) ?_
          refine xr_ireturn dX8_told_70 rfl rfl rfl ?_
          have hq := hq pn wn ν hpn rfl rfl hwn h12 (frm_tk.tr (frm_oth ho))
          unfold valA at hq
          rw [c9, ix_n (by omega)] at hq
          first | (rw [if_neg hlt] at hq; exact hq) | (rw [if_pos hlt] at hq; rw [mt wn hlt.2 hlt.1]; exact hq)
      · skip
        refine xr_sipush (v := (-10001)) (n := 23) dX8_told_20 (by decide) rfl ?_
        refine xr_ireturn dX8_told_23 rfl rfl rfl ?_
        first | exact hq0 (fun q => h4 q.1) | exact hq0 (fun q => h12 q.2.1) | exact hq0 (fun q => by (have := q.2.2; ((try simp (disch := omega) only [i_lt, i_le, i_eq, nt, i_m1, Int32.toInt_zero] at *); omega)))

theorem s_X8_cell {G : xG} {d : Nat} {f : Nat → xC} {r : Nat × Nat} {Q : Option Value → xM → Prop} {m : Nat} {μ : xS} {p a b w c : Int32} {N : Nat → Nat} {P : Nat → Nat → Nat → Nat} (hN : ∀ q, q ≤ 1 → isPg (mtake μ q 5) (N q) (P q) ∧ wfP (N q) (P q)) (hq0 : ¬ ((0 ≤ p.toInt ∧ p.toInt ≤ 1) ∧ ((-999 ≤ a.toInt ∧ a.toInt ≤ 999) ∧ (-999 ≤ b.toInt ∧ b.toInt ≤ 999)) ∧ -1 ≤ w.toInt ∧ (0 ≤ c.toInt ∧ c.toInt ≤ 5)) → Q (some (.int (-10001))) (mput f m μ, r)) (hq : ∀ (pn cn : Nat) (ν : xS), pn ≤ 1 → cn ≤ 5 → p = nI pn → c = nI cn → ((-999 ≤ a.toInt ∧ a.toInt ≤ 999) ∧ (-999 ≤ b.toInt ∧ b.toInt ≤ 999)) → frm μ ν → ((w.toInt = -1 → Q (some (.int ((runD (N pn) (P pn) a b).2 1 cn))) (mput f m ν, r)) ∧ ∀ wn : Nat, w = nI wn → wn < 2 ^ 31 → Q (some (.int (celA (runD (N pn) (P pn) a b) wn cn))) (mput f m ν, r))) : xMet G (d + 5) mX8_cell [.ref m, .int p, .int a, .int b, .int w, .int c] (mput f m μ, r) r Q := by
  refine xMet_0 (by decide +kernel) rfl (Nat.le_of_ble_eq_true rfl) ?_
  show xX G (d + 5) mX8_cell r r (xΦ G r r Q) 0 [(0, .ref m), (1, .int p), (2, .int a), (3, .int b), (4, .int w), (5, .int c)] [] (mput f m μ, r)
  refine xr_iload_n (n := 1) dX8_cell_0 rfl rfl ?_
  refine xr_callS (y2 := mX8_isProgram) (As := [_]) (n := 4) dX8_cell_1 lm_X8_107 pm_X8_isProgram kp_static_yX8_isProgram rfl rfl (by simp [Value.category]) rfl ⟨Nat.le_refl _, Nat.le_refl _⟩ ?_
  refine s_X8_isProgram ?_
  dsimp only [xK, xps]
  refine xr_beq (tgt := 29) (n := 7) dX8_cell_4 (by decide) rfl (fun h4 => ?_) (fun h4 => ?_)
  · refine xr_sipush (v := (-10001)) (n := 32) dX8_cell_29 (by decide) rfl ?_
    refine xr_ireturn dX8_cell_32 rfl rfl rfl ?_
    first | exact hq0 (fun q => h4 q.1) | exact hq0 (fun q => h12 q.2.1) | exact hq0 (fun q => h26 q.2.2.2) | exact hq0 (fun q => by (have := q.2.2.1; ((try simp (disch := omega) only [i_lt, i_le, i_eq, nt, i_m1, Int32.toInt_zero] at *); omega)))
  · refine xr_iload_n (n := 8) dX8_cell_7 rfl rfl ?_
    refine xr_iload_n (n := 9) dX8_cell_8 rfl rfl ?_
    refine xr_callS (y2 := mX8_isInput) (As := [_, _]) (n := 12) dX8_cell_9 lm_X8_171 pm_X8_isInput kp_static_yX8_isInput rfl rfl (by simp [Value.category]) rfl ⟨Nat.le_refl _, Nat.le_refl _⟩ ?_
    refine s_X8_isInput ?_
    dsimp only [xK, xps]
    refine xr_beq (tgt := 29) (n := 15) dX8_cell_12 (by decide) rfl (fun h12 => ?_) (fun h12 => ?_)
    · refine xr_sipush (v := (-10001)) (n := 32) dX8_cell_29 (by decide) rfl ?_
      refine xr_ireturn dX8_cell_32 rfl rfl rfl ?_
      first | exact hq0 (fun q => h4 q.1) | exact hq0 (fun q => h12 q.2.1) | exact hq0 (fun q => h26 q.2.2.2) | exact hq0 (fun q => by (have := q.2.2.1; ((try simp (disch := omega) only [i_lt, i_le, i_eq, nt, i_m1, Int32.toInt_zero] at *); omega)))
    · refine xr_iload (n := 17) dX8_cell_15 rfl rfl ?_
      refine xr_iconst (v := (-1)) (n := 18) dX8_cell_17 (by decide) rfl ?_
      refine xr_icmp_lt (tgt := 29) (n := 21) dX8_cell_18 (by decide) rfl (fun h18 => ?_) (fun h18 => ?_)
      · refine xr_sipush (v := (-10001)) (n := 32) dX8_cell_29 (by decide) rfl ?_
        refine xr_ireturn dX8_cell_32 rfl rfl rfl ?_
        first | exact hq0 (fun q => h4 q.1) | exact hq0 (fun q => h12 q.2.1) | exact hq0 (fun q => h26 q.2.2.2) | exact hq0 (fun q => by (have := q.2.2.1; ((try simp (disch := omega) only [i_lt, i_le, i_eq, nt, i_m1, Int32.toInt_zero] at *); omega)))
      · refine xr_iload (n := 23) dX8_cell_21 rfl rfl ?_
        refine xr_callS (y2 := mX8_isCell) (As := [_]) (n := 26) dX8_cell_23 lm_X8_180 pm_X8_isCell kp_static_yX8_isCell rfl rfl (by simp [Value.category]) rfl ⟨Nat.le_refl _, Nat.le_refl _⟩ ?_
        refine s_X8_isCell ?_
        dsimp only [xK, xps]
        refine xr_bne (tgt := 33) (n := 29) dX8_cell_26 (by decide) rfl (fun h26 => ?_) (fun h26 => ?_)
        · obtain ⟨pn, hpn, rfl⟩ := p_of h4
          obtain ⟨hP1, hW1⟩ := hN pn hpn
          obtain ⟨cn, hcn, rfl⟩ := k_of h26.1
          have hc6 : cn ≤ 5 := by ((try simp (disch := omega) only [i_lt, i_le, i_eq, nt, i_m1, Int32.toInt_zero] at *); omega)
          refine xr_aload_n (n := 34) dX8_cell_33 rfl rfl ?_
          refine xr_iload_n (n := 35) dX8_cell_34 rfl rfl ?_
          refine xr_iload_n (n := 36) dX8_cell_35 rfl rfl ?_
          refine xr_iload_n (n := 37) dX8_cell_36 rfl rfl ?_
          refine xr_callV (y2 := mX8_runsOne) (As := [_, _, _]) (n := 40) dX8_cell_37 lm_X8_174 pm_X8_runsOne pi_X8_runsOne (by first | exact mput_0 _ _ _ | exact mput_r (by decide)) rfl rfl rfl (by simp [Value.category]) rfl ⟨Nat.le_refl _, Nat.le_refl _⟩ ?_
          refine s_X8_runsOne (by omega) hP1 hW1 (fun ν t mk rd mo tl ho hN => ?_)
          dsimp only [xK, xps]
          refine xr_iload (n := 42) dX8_cell_40 rfl rfl ?_
          refine xr_iconst (v := (-1)) (n := 43) dX8_cell_42 (by decide) rfl ?_
          refine xr_icmp_ne (tgt := 59) (n := 46) dX8_cell_43 (by decide) rfl (fun h43 => ?_) (fun h43 => ?_)
          · have hw0 : 0 ≤ w.toInt := by ((try simp (disch := omega) only [i_lt, i_le, i_eq, nt, i_m1, Int32.toInt_zero] at *); omega)
            obtain ⟨wn, hwn, rfl⟩ := k_of hw0
            refine xr_iload (n := 61) dX8_cell_59 rfl rfl ?_
            refine xr_bipush (v := nI 40) (n := 63) dX8_cell_61 (by decide) rfl ?_
            refine xr_aload_n (n := 64) dX8_cell_63 rfl rfl ?_
            refine xr_get (n := 67) dX8_cell_64 fl_X8_40 (by first | exact mput_0 _ _ _ | exact mput_r (by decide)) (by rfl) rfl ?_
            refine xr_bipush (v := nI 6) (n := 69) dX8_cell_67 (by decide) rfl ?_
            refine xr_iload_n (n := 70) dX8_cell_69 rfl rfl ?_
            refine xr_imul (n := 71) dX8_cell_70 rfl ?_
            try simp (disch := omega) only [nI_clamp, pk_mul, nI_add, oi1, up2_a, ur_a, Nat.reduceEqDiff, Nat.reduceMul, Nat.reduceAdd, reduceIte, if_pos, if_neg]
            refine xr_iconst (v := nI 3) (n := 72) dX8_cell_71 (by decide) rfl ?_
            refine xr_iadd (n := 73) dX8_cell_72 rfl ?_
            try simp (disch := omega) only [nI_clamp, pk_mul, nI_add, oi1, up2_a, ur_a, Nat.reduceEqDiff, Nat.reduceMul, Nat.reduceAdd, reduceIte, if_pos, if_neg]
            refine xr_iaload (n := 74) dX8_cell_73 (by first | exact mput_0 _ _ _ | exact mput_r (by decide)) (by first | exact vp_in_nI (by omega) (by omega)) rfl ?_
            try simp (disch := omega) only [nI_clamp, pk_mul, nI_add, oi1, up2_a, ur_a, Nat.reduceEqDiff, Nat.reduceMul, Nat.reduceAdd, reduceIte, if_pos, if_neg]
            obtain ⟨⟨-, c6, -, -, -, b6, -, -, -, bt, -⟩, ⟨-, -, -, m3, -⟩, -, -, mm⟩ := id hN
            rw [m3]
            refine xr_callS (y2 := mX8_least) (As := [_, _]) (n := 77) dX8_cell_74 lm_X8_177 pm_X8_least kp_static_yX8_least rfl rfl (by simp [Value.category]) rfl ⟨Nat.le_refl _, Nat.le_refl _⟩ ?_
            refine s_X8_least ?_
            dsimp only [xK, xps]
            rw [ls40 (by omega)]
            refine xr_icmp_ge (tgt := 102) (n := 80) dX8_cell_77 (by decide) rfl (fun h77 => ?_) (fun h77 => ?_)
            · have hlt : ¬ (wn < 40 ∧ wn < mk) := (le40 (by omega) hwn).mp h77
              refine xr_sipush (v := (-10009)) (n := 105) dX8_cell_102 (by decide) rfl ?_
              refine xr_ireturn dX8_cell_105 rfl rfl rfl ?_
              have hq := (hq pn cn ν hpn hc6 rfl rfl h12 (frm_tk.tr (frm_oth ho))).2 wn rfl hwn
              unfold celA at hq
              rw [c6, ix_n (by omega)] at hq
              first | (rw [if_neg hlt] at hq; exact hq) | (rw [if_pos hlt] at hq; rw [(mm wn hlt.2 hlt.1).2 cn (by omega)]; exact hq)
            · have hlt : wn < 40 ∧ wn < mk := Decidable.not_not.mp (fun q => h77 ((le40 (by omega) hwn).mpr q))
              refine xr_aload_n (n := 81) dX8_cell_80 rfl rfl ?_
              refine xr_get (n := 84) dX8_cell_81 fl_X8_37 (by first | exact mput_0 _ _ _ | exact mput_r (by decide)) (by rfl) rfl ?_
              refine xr_sipush (v := nI 240) (n := 87) dX8_cell_84 (by decide) rfl ?_
              refine xr_iload_n (n := 88) dX8_cell_87 rfl rfl ?_
              refine xr_imul (n := 89) dX8_cell_88 rfl ?_
              try simp (disch := omega) only [nI_clamp, pk_mul, nI_add, oi1, up2_a, ur_a, Nat.reduceEqDiff, Nat.reduceMul, Nat.reduceAdd, reduceIte, if_pos, if_neg]
              refine xr_bipush (v := nI 6) (n := 91) dX8_cell_89 (by decide) rfl ?_
              refine xr_iload (n := 93) dX8_cell_91 rfl rfl ?_
              refine xr_imul (n := 94) dX8_cell_93 rfl ?_
              try simp (disch := omega) only [nI_clamp, pk_mul, nI_add, oi1, up2_a, ur_a, Nat.reduceEqDiff, Nat.reduceMul, Nat.reduceAdd, reduceIte, if_pos, if_neg]
              refine xr_iadd (n := 95) dX8_cell_94 rfl ?_
              try simp (disch := omega) only [nI_clamp, pk_mul, nI_add, oi1, up2_a, ur_a, Nat.reduceEqDiff, Nat.reduceMul, Nat.reduceAdd, reduceIte, if_pos, if_neg]
              refine xr_iload (n := 97) dX8_cell_95 rfl rfl ?_
              refine xr_iadd (n := 98) dX8_cell_97 rfl ?_
              try simp (disch := omega) only [nI_clamp, pk_mul, nI_add, oi1, up2_a, ur_a, Nat.reduceEqDiff, Nat.reduceMul, Nat.reduceAdd, reduceIte, if_pos, if_neg]
              refine xr_iaload (n := 99) dX8_cell_98 (by first | exact mput_0 _ _ _ | exact mput_r (by decide)) (by first | exact vp_in_nI (by omega) (by omega)) rfl ?_
              try simp (disch := omega) only [nI_clamp, pk_mul, nI_add, oi1, up2_a, ur_a, Nat.reduceEqDiff, Nat.reduceMul, Nat.reduceAdd, reduceIte, if_pos, if_neg]
              refine xr_goto (n := 105) dX8_cell_99 (by decide) ?_
              refine xr_ireturn dX8_cell_105 rfl rfl rfl ?_
              have hq := (hq pn cn ν hpn hc6 rfl rfl h12 (frm_tk.tr (frm_oth ho))).2 wn rfl hwn
              unfold celA at hq
              rw [c6, ix_n (by omega)] at hq
              first | (rw [if_neg hlt] at hq; exact hq) | (rw [if_pos hlt] at hq; rw [(mm wn hlt.2 hlt.1).2 cn (by omega)]; exact hq)
          · refine xr_aload_n (n := 47) dX8_cell_46 rfl rfl ?_
            refine xr_get (n := 50) dX8_cell_47 fl_X8_28 (by first | exact mput_0 _ _ _ | exact mput_r (by decide)) (by rfl) rfl ?_
            refine xr_bipush (v := nI 6) (n := 52) dX8_cell_50 (by decide) rfl ?_
            refine xr_iload_n (n := 53) dX8_cell_52 rfl rfl ?_
            refine xr_imul (n := 54) dX8_cell_53 rfl ?_
            try simp (disch := omega) only [nI_clamp, pk_mul, nI_add, oi1, up2_a, ur_a, Nat.reduceEqDiff, Nat.reduceMul, Nat.reduceAdd, reduceIte, if_pos, if_neg]
            refine xr_iload (n := 56) dX8_cell_54 rfl rfl ?_
            refine xr_iadd (n := 57) dX8_cell_56 rfl ?_
            try simp (disch := omega) only [nI_clamp, pk_mul, nI_add, oi1, up2_a, ur_a, Nat.reduceEqDiff, Nat.reduceMul, Nat.reduceAdd, reduceIte, if_pos, if_neg]
            refine xr_iaload (n := 58) dX8_cell_57 (by first | exact mput_0 _ _ _ | exact mput_r (by decide)) (by first | exact vp_in_nI (by omega) (by omega)) rfl ?_
            try simp (disch := omega) only [nI_clamp, pk_mul, nI_add, oi1, up2_a, ur_a, Nat.reduceEqDiff, Nat.reduceMul, Nat.reduceAdd, reduceIte, if_pos, if_neg]
            rw [hN.2.2.1 cn (by omega)]
            refine xr_ireturn dX8_cell_58 rfl rfl rfl ?_
            exact (hq pn cn ν hpn hc6 rfl rfl h12 (frm_tk.tr (frm_oth ho))).1 (by ((try simp (disch := omega) only [i_lt, i_le, i_eq, nt, i_m1, Int32.toInt_zero] at *); omega))
        · refine xr_sipush (v := (-10001)) (n := 32) dX8_cell_29 (by decide) rfl ?_
          refine xr_ireturn dX8_cell_32 rfl rfl rfl ?_
          first | exact hq0 (fun q => h4 q.1) | exact hq0 (fun q => h12 q.2.1) | exact hq0 (fun q => h26 q.2.2.2) | exact hq0 (fun q => by (have := q.2.2.1; ((try simp (disch := omega) only [i_lt, i_le, i_eq, nt, i_m1, Int32.toInt_zero] at *); omega)))
