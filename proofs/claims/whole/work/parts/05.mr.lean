/-! READING statements, the loop over the text -/
def ti (k : Nat) (w : Nat) : Nat := if w = 0 then k else 0
def tc (k c : Nat) (w : Nat) : Nat := if w = 0 then k else if w = 1 then c else 0
def stF (t : Nat → Int32) (n q kd : Nat) : rec3 := if kd = 0 then seF t n q else if kd = 2 then (decide (hr t n (q + 1) = nI 59), pas t n (q + 1) (nI 59), ti 2) else if (ceF t n (q + 1)).1 = true then (if kd = 1 then (decide (hr t n (ceF t n (q + 1)).2.1 = nI 59), pas t n (ceF t n (q + 1)).2.1 (nI 59), tc 1 (ceF t n (q + 1)).2.2) else (true, (ceF t n (q + 1)).2.1, tc kd (ceF t n (q + 1)).2.2)) else (false, (ceF t n (q + 1)).2.1, fun _ => 0)
abbrev ful (k kd dp : Nat) : Prop := k = 60 ∨ (3 ≤ kd ∧ dp = 5)
def stG (t : Nat → Int32) (n q kd k dp : Nat) : rec3 := if ful k kd dp then (false, q, fun _ => 0) else stF t n q kd
def padd (P : Nat → Nat → Nat) (k : Nat) (z : Nat → Nat) : Nat → Nat → Nat := fun j u => if j = k then z u else P j u
def sam8 (μ ν : xS) : Prop := ∀ w, w ≠ 5 → w ≠ 6 → w ≠ 7 → w ≠ 8 → ν w = μ w
theorem sam.to8 {μ ν : xS} (h : sam μ ν) : sam8 μ ν := fun w h5 h6 _ _ => h w h5 h6
/-- k statements, the one behind them with w fields cleared -/
def pz (P : Nat → Nat → Nat) (k w : Nat) : Nat → Nat → Nat := fun j u => if j = k ∧ u < w then 0 else P j u
theorem isPg.cn {row : Nat → Int32} {k : Nat} {P : Nat → Nat → Nat} (h : isPg row k P) (k' : Nat) (hk : k' ≤ k) : isPg (upd row 0 (nI k')) k' P := by
  refine ⟨by simp [upd], fun s w hs hw => ?_⟩
  have : upd row 0 (nI k') (1 + 7 * s + w) = row (1 + 7 * s + w) := by unfold upd; exact if_neg (by omega)
  rw [this]
  exact h.2 s w (by omega) hw
/-- a row whose first k statements are P's, and of the next the first w fields 0 -/
def half (row : Nat → Int32) (k w : Nat) (P : Nat → Nat → Nat) : Prop := row 0 = nI (k + 1) ∧ (∀ s u, s < k → u < 7 → row (1 + 7 * s + u) = nI (P s u)) ∧ ∀ u, u < w → row (1 + 7 * k + u) = nI 0
theorem half_0 {row : Nat → Int32} {k : Nat} {P : Nat → Nat → Nat} (h : isPg row k P) : half (upd row 0 (nI (k + 1))) k 0 P := by
  refine ⟨by simp [upd], fun s u hs hu => ?_, fun u hu => by omega⟩
  have : upd row 0 (nI (k + 1)) (1 + 7 * s + u) = row (1 + 7 * s + u) := by unfold upd; exact if_neg (by omega)
  rw [this]
  exact h.2 s u hs hu
theorem half_s {row : Nat → Int32} {k w : Nat} {P : Nat → Nat → Nat} (h : half row k w P) (hw : w < 7) : half (upd row (1 + 7 * k + w) (nI 0)) k (w + 1) P := by
  obtain ⟨h1, h2, h3⟩ := h
  refine ⟨?_, fun s u hs hu => ?_, fun u hu => ?_⟩
  · unfold upd; rw [if_neg (by omega)]; exact h1
  · unfold upd; rw [if_neg (by omega)]; exact h2 s u hs hu
  · unfold upd
    by_cases e : u = w
    · subst e; exact if_pos rfl
    · rw [if_neg (by omega)]; exact h3 u (by omega)
theorem half_e {row : Nat → Int32} {k : Nat} {P : Nat → Nat → Nat} (h : half row k 7 P) : isPg row (k + 1) (padd P k (fun _ => 0)) := by
  obtain ⟨h1, h2, h3⟩ := h
  refine ⟨h1, fun s w hs hw => ?_⟩
  unfold padd
  by_cases e : s = k
  · subst e; rw [if_pos rfl]; exact h3 w hw
  · rw [if_neg e]; exact h2 s w (by omega) hw
def stPost (μ ν : xS) (kd k dp : Nat) : Prop := if 3 ≤ kd then (ν 7 = upd (μ 7) dp (nI k) ∧ ν 8 = upd (μ 8) dp (nI (if kd = 3 then 93 else 58))) else (ν 7 = μ 7 ∧ ν 8 = μ 8)
theorem stPost_lt {μ ν : xS} {kd k dp : Nat} (h : kd < 3) (hs : sam μ ν) : stPost μ ν kd k dp := by
  unfold stPost
  rw [if_neg (by omega)]
  exact ⟨hs 7 (by omega) (by omega), hs 8 (by omega) (by omega)⟩
theorem up2_56 {ν : xS} {a b : Nat} {v u : Int32} : up2 (up2 ν 5 a v) 6 b u = up2 (up2 ν 6 b u) 5 a v := by
  funext i j
  by_cases h5 : i = 5
  · subst h5; simp [up2_a]
  · by_cases h6 : i = 6
    · subst h6; simp [up2_a]
    · simp [up2_a, h5, h6]
theorem tc_up {P : Nat → Nat → Nat} {k c kd j w : Nat} : (if j = k ∧ w = 1 then c else padd P k (ti kd) j w) = padd P k (tc kd c) j w := by
  unfold padd ti tc
  by_cases e : j = k
  · subst e
    by_cases w0 : w = 0
    · subst w0; simp
    · by_cases w1 : w = 1
      · subst w1; simp
      · simp [w0, w1]
  · simp [e]
theorem seF_0 (t : Nat → Int32) (n a : Nat) : (seF t n a).2.2 0 = 0 := by
  unfold seF sE2 sE3 sE4 sE5
  repeat' split
  all_goals rfl
theorem seq0 {t : Nat → Int32} {n q k : Nat} {P : Nat → Nat → Nat} {j : Nat} (w : Nat) : pset (padd P k (ti 0)) k (seF t n q).2.2 j w = padd P k (seF t n q).2.2 j w := by
  unfold pset padd ti
  by_cases e : j = k
  · subst e
    by_cases w0 : w = 0
    · subst w0; simp [seF_0]
    · have : 0 < w := by omega
      simp [this]
  · simp [e]
theorem s_X8_readsStatement {G : xG} {d : Nat} {f : Nat → xC} {r : Nat × Nat} {Q : Option Value → xM → Prop} {m : Nat} {μ : xS} {n q k kd dp : Nat} {P : Nat → Nat → Nat} (hp : pst μ n q) (hqn : q < n) (hP : isPg (μ 5) k P) (hk : k ≤ 60) (hkd : kd ≤ 4) (hdp : dp ≤ 5) (hq : ∀ ν, sam8 μ ν → pst ν n (stG (μ 3) n q kd k dp).2.1 → ((stG (μ 3) n q kd k dp).1 = true → isPg (ν 5) (k + 1) (padd P k (stG (μ 3) n q kd k dp).2.2) ∧ stPost μ ν kd k dp) → Q (some (.int (b2i ((stG (μ 3) n q kd k dp).1 = true)))) (mput f m ν, r)) : xMet G (d + 4) mX8_readsStatement [.ref m, .int (nI kd), .int (nI dp)] (mput f m μ, r) r Q := by
  refine xMet_0 (by decide +kernel) rfl (Nat.le_of_ble_eq_true rfl) ?_
  show xX G (d + 4) mX8_readsStatement r r (xΦ G r r Q) 0 [(0, .ref m), (1, .int (nI kd)), (2, .int (nI dp))] [] (mput f m μ, r)
  have hn0 := hP.1
  have hp4 := hp.2.2.2
  refine xr_aload_n (n := 1) dX8_readsStatement_0 rfl rfl ?_
  refine xr_get (n := 4) dX8_readsStatement_1 fl_X8_19 (by first | exact mput_0 _ _ _ | exact mput_r (by decide)) (by rfl) rfl ?_
  refine xr_iconst (v := nI 0) (n := 5) dX8_readsStatement_4 (by decide) rfl ?_
  refine xr_iaload (n := 6) dX8_readsStatement_5 (by first | exact mput_0 _ _ _ | exact mput_r (by decide)) (by first | exact vp_in_nI (by omega) (by omega)) rfl ?_
  (first | (simp (disch := omega) only [nI_clamp, pk_mul, nI_add, oi1, up2_ss, up2_n, up2_sn, Nat.reduceMul, Nat.reduceAdd, Nat.add_zero, hn0]) | skip)
  refine xq_istore_n 3 (n := 7) dX8_readsStatement_6 rfl rfl rfl ?_
  simp only [xst, Nat.beq, List.filter, Bool.not_true, Bool.not_false]
  refine xr_iload_n (n := 8) dX8_readsStatement_7 rfl rfl ?_
  refine xr_bipush (v := nI 60) (n := 10) dX8_readsStatement_8 (by decide) rfl ?_
  refine xr_icmp_eq (tgt := 23) (n := 13) dX8_readsStatement_10 (by decide) rfl (fun h10 => ?_) (fun h10 => ?_)
  · refine xr_iconst (v := nI 0) (n := 24) dX8_readsStatement_23 (by decide) rfl ?_
    refine xr_ireturn dX8_readsStatement_24 rfl (by first | exact b2i_nar | exact nar_1 | exact nar_0) rfl ?_
    have hG : stG (μ 3) n q kd k dp = (false, q, fun _ => 0) := if_pos (by first | exact Or.inl (by ((try simp (disch := omega) only [i_lt, i_le, i_eq, nt, i_m1, Int32.toInt_zero] at *); omega)) | exact Or.inr ⟨by ((try simp (disch := omega) only [i_lt, i_le, i_eq, nt, i_m1, Int32.toInt_zero] at *); omega), by ((try simp (disch := omega) only [i_lt, i_le, i_eq, nt, i_m1, Int32.toInt_zero] at *); omega)⟩)
    refine qi (hq μ (fun _ _ _ _ _ => rfl) ?_ (fun z => ?_)) ?_
    · rw [hG]; exact hp
    · rw [hG] at z; cases z
    · rw [hG]; rfl
  · refine xr_iload_n (n := 14) dX8_readsStatement_13 rfl rfl ?_
    refine xr_iconst (v := nI 3) (n := 15) dX8_readsStatement_14 (by decide) rfl ?_
    refine xr_icmp_lt (tgt := 25) (n := 18) dX8_readsStatement_15 (by decide) rfl (fun h15 => ?_) (fun h15 => ?_)
    · have hnf : ¬ ful k kd dp := fun z => by (have h10 := h10; have h15 := h15; unfold ful at z; ((try simp (disch := omega) only [i_lt, i_le, i_eq, nt, i_m1, Int32.toInt_zero] at *); omega))
      refine xr_aload_n (n := 26) dX8_readsStatement_25 rfl rfl ?_
      refine xr_get (n := 29) dX8_readsStatement_26 fl_X8_19 (by first | exact mput_0 _ _ _ | exact mput_r (by decide)) (by rfl) rfl ?_
      refine xr_iconst (v := nI 0) (n := 30) dX8_readsStatement_29 (by decide) rfl ?_
      refine xr_dup2 (n := 31) dX8_readsStatement_30 rfl rfl rfl ?_
      refine xr_iaload (n := 32) dX8_readsStatement_31 (by first | exact mput_0 _ _ _ | exact mput_r (by decide)) (by first | exact vp_in_nI (by omega) (by omega)) rfl ?_
      (first | (simp (disch := omega) only [nI_clamp, pk_mul, nI_add, oi1, up2_ss, up2_n, up2_sn, Nat.reduceMul, Nat.reduceAdd, Nat.add_zero, hn0]) | skip)
      refine xr_iconst (v := nI 1) (n := 33) dX8_readsStatement_32 (by decide) rfl ?_
      refine xr_iadd (n := 34) dX8_readsStatement_33 rfl ?_
      (first | (simp (disch := omega) only [nI_clamp, pk_mul, nI_add, oi1, up2_ss, up2_n, up2_sn, Nat.reduceMul, Nat.reduceAdd, Nat.add_zero, hn0]) | skip)
      refine xq_iastore (n := 35) dX8_readsStatement_34 (by first | exact mput_0 _ _ _ | exact mput_r (by decide)) (by first | exact vp_in_nI (by omega) (by omega)) rfl ?_
      simp (disch := omega) only [nI_clamp, List.set, mw_0, mw_1, mw_2, mw_3, mw_4, mw_5, mw_6, mw_7, mw_8, mw_9, mw_10, mw_11, mw_12, mw_13, mw_14, mw_15, mw_16, mw_17, mw_18, mw_19]
      refine xr_iconst (v := nI 0) (n := 36) dX8_readsStatement_35 (by decide) rfl ?_
      refine xr_istore (n := 38) dX8_readsStatement_36 rfl rfl ?_
      simp only [xst, Nat.beq, List.filter, Bool.not_true, Bool.not_false]
      have key : ∀ w, w ≤ 7 → ∀ ν, sam μ ν → ν 6 = μ 6 → half (ν 5) k w P → xX G (d + 4) mX8_readsStatement r r (xΦ G r r Q) 38 [(0, .ref m), (1, .int (nI kd)), (2, .int (nI dp)), (3, .int (nI k)), (4, .int (nI w))] [] (mput f m ν, r) := by
        refine nat_down (P := fun w => ∀ ν, sam μ ν → ν 6 = μ 6 → half (ν 5) k w P → xX G (d + 4) mX8_readsStatement r r (xΦ G r r Q) 38 [(0, .ref m), (1, .int (nI kd)), (2, .int (nI dp)), (3, .int (nI k)), (4, .int (nI w))] [] (mput f m ν, r)) (N := 7) ?_ ?_
        · intro ν hsm h6 hhf
          have e0 := half_e hhf
          have ep : pst ν n q := ⟨by rw [hsm 4 (by omega) (by omega)]; exact hp.1, by rw [h6]; exact hp.2.1, hp.2.2⟩
          have hp6 : ν 6 0 = nI q := ep.2.1
          have et : ν 3 = μ 3 := hsm 3 (by omega) (by omega)
          have hG : stG (μ 3) n q kd k dp = stF (μ 3) n q kd := if_neg hnf
          refine xr_iload (n := 40) dX8_readsStatement_38 rfl rfl ?_
          refine xr_bipush (v := nI 7) (n := 42) dX8_readsStatement_40 (by decide) rfl ?_
          refine xr_icmp_ge (tgt := 59) (n := 45) dX8_readsStatement_42 (by decide) rfl (fun h42 => ?_) (fun h42 => by (exfalso; ((try simp (disch := omega) only [i_lt, i_le, i_eq, nt, i_m1, Int32.toInt_zero] at *); omega)))
          refine xr_aload_n (n := 60) dX8_readsStatement_59 rfl rfl ?_
          refine xr_iload_n (n := 61) dX8_readsStatement_60 rfl rfl ?_
          refine xr_iconst (v := nI 0) (n := 62) dX8_readsStatement_61 (by decide) rfl ?_
          refine xr_iload_n (n := 63) dX8_readsStatement_62 rfl rfl ?_
          refine xr_callV (y2 := mX8_put) (As := [_, _, _]) (n := 66) dX8_readsStatement_63 lm_X8_83 pm_X8_put pi_X8_put (by first | exact mput_0 _ _ _ | exact mput_r (by decide)) rfl rfl rfl (by simp [Value.category]) rfl ⟨Nat.le_refl _, Nat.le_refl _⟩ ?_
          refine s_X8_put (w := 0) (by omega) (by omega) ?_
          have e1 : isPg (up2 ν 5 (1 + 7 * k + 0) (nI kd) 5) (k + 1) (padd P k (ti kd)) := by rw [up2_s]; exact (e0.up (s := k) (w := 0) (v := kd) (by omega)).congr (fun j w hj hw => by unfold padd ti; by_cases e : j = k <;> by_cases w0 : w = 0 <;> simp [e, w0])
          dsimp only [xK, xps]
          skip
          refine xr_iload_n (n := 67) dX8_readsStatement_66 rfl rfl ?_
          refine xr_if_ne (tgt := 76) (n := 70) dX8_readsStatement_67 (by decide) rfl (fun h67 => ?_) (fun h67 => ?_)
          · have hk0 : ¬ kd = 0 := by ((try simp (disch := omega) only [i_lt, i_le, i_eq, nt, i_m1, Int32.toInt_zero] at *); omega)
            have hP1 := ep.at (b := q + 1) (by omega)
            refine xr_aload_n (n := 77) dX8_readsStatement_76 rfl rfl ?_
            refine xr_dup (n := 78) dX8_readsStatement_77 rfl rfl ?_
            refine xr_get (n := 81) dX8_readsStatement_78 fl_X8_72 (by first | exact mput_0 _ _ _ | exact mput_r (by decide)) (by rfl) rfl ?_
            (first | (simp (disch := omega) only [nI_clamp, pk_mul, nI_add, oi1, up2_ss, up2_n, up2_sn, Nat.reduceMul, Nat.reduceAdd, Nat.add_zero, hp6]) | (simp (disch := omega) only [nI_clamp, pk_mul, nI_add, oi1, up2_ss, up2_n, up2_sn, Nat.reduceMul, Nat.reduceAdd, Nat.add_zero]) | skip)
            refine xr_iconst (v := nI 1) (n := 82) dX8_readsStatement_81 (by decide) rfl ?_
            refine xr_iadd (n := 83) dX8_readsStatement_82 rfl ?_
            (first | (simp (disch := omega) only [nI_clamp, pk_mul, nI_add, oi1, up2_ss, up2_n, up2_sn, Nat.reduceMul, Nat.reduceAdd, Nat.add_zero, hp6]) | (simp (disch := omega) only [nI_clamp, pk_mul, nI_add, oi1, up2_ss, up2_n, up2_sn, Nat.reduceMul, Nat.reduceAdd, Nat.add_zero]) | skip)
            refine xq_put (n := 86) dX8_readsStatement_83 fl_X8_72 rfl (by first | exact mput_0 _ _ _ | exact mput_r (by decide)) (by rfl) (by rfl) (by rfl) rfl ?_
            simp (disch := omega) only [nI_clamp, List.set, mw_0, mw_1, mw_2, mw_3, mw_4, mw_5, mw_6, mw_7, mw_8, mw_9, mw_10, mw_11, mw_12, mw_13, mw_14, mw_15, mw_16, mw_17, mw_18, mw_19]
            refine xr_iload_n (n := 87) dX8_readsStatement_86 rfl rfl ?_
            refine xr_iconst (v := nI 2) (n := 88) dX8_readsStatement_87 (by decide) rfl ?_
            refine xr_icmp_ne (tgt := 98) (n := 91) dX8_readsStatement_88 (by decide) rfl (fun h88 => ?_) (fun h88 => ?_)
            · have hk2 : ¬ kd = 2 := by ((try simp (disch := omega) only [i_lt, i_le, i_eq, nt, i_m1, Int32.toInt_zero] at *); omega)
              refine xr_aload_n (n := 99) dX8_readsStatement_98 rfl rfl ?_
              refine xr_iload_n (n := 100) dX8_readsStatement_99 rfl rfl ?_
              refine xr_callV (y2 := mX8_readsCell) (As := [_]) (n := 103) dX8_readsStatement_100 lm_X8_87 pm_X8_readsCell pi_X8_readsCell (by first | exact mput_0 _ _ _ | exact mput_r (by decide)) rfl rfl rfl (by simp [Value.category]) rfl ⟨Nat.le_refl _, Nat.le_refl _⟩ ?_
              have p1 := (hP1.u5 (j := 1 + 7 * k + 0) (v := nI kd))
              refine s_X8_readsCell (a := q + 1) (by rw [up2_56]; exact p1) (by omega) (fun ν2 hr2 => ?_)
              rw [up2_n _ _ _ (show 3 ≠ 6 by omega), up2_n _ _ _ (show 3 ≠ 5 by omega), et] at hr2
              rw [up2_n _ _ _ (show 3 ≠ 6 by omega), up2_n _ _ _ (show 3 ≠ 5 by omega), et]
              obtain ⟨r2, p2, t1, f1⟩ := hr2
              have s2 : sam μ ν2 := (sam.u6 (sam.u5 hsm)).tr r2
              have et2 : ν2 3 = μ 3 := s2 3 (by omega) (by omega)
              dsimp only [xK, xps]
              refine xr_bne (tgt := 108) (n := 106) dX8_readsStatement_103 (by decide) rfl (fun h103 => ?_) (fun h103 => ?_)
              · have hS : stF (μ 3) n q kd = _ := (if_neg hk0).trans ((if_neg hk2).trans (if_pos h103))
                have t1 := t1 h103
                refine xr_iload_n (n := 109) dX8_readsStatement_108 rfl rfl ?_
                refine xr_iconst (v := nI 1) (n := 110) dX8_readsStatement_109 (by decide) rfl ?_
                refine xr_icmp_ne (tgt := 120) (n := 113) dX8_readsStatement_110 (by decide) rfl (fun h110 => ?_) (fun h110 => ?_)
                · have hk1 : ¬ kd = 1 := by ((try simp (disch := omega) only [i_lt, i_le, i_eq, nt, i_m1, Int32.toInt_zero] at *); omega)
                  have hS2 : stF (μ 3) n q kd = _ := hS.trans (if_neg hk1)
                  refine xr_aload_n (n := 121) dX8_readsStatement_120 rfl rfl ?_
                  refine xr_get (n := 124) dX8_readsStatement_121 fl_X8_22 (by first | exact mput_0 _ _ _ | exact mput_r (by decide)) (by rfl) rfl ?_
                  refine xr_iload_n (n := 125) dX8_readsStatement_124 rfl rfl ?_
                  refine xr_iload_n (n := 126) dX8_readsStatement_125 rfl rfl ?_
                  refine xq_iastore (n := 127) dX8_readsStatement_126 (by first | exact mput_0 _ _ _ | exact mput_r (by decide)) (by first | exact vp_in_nI (by omega) (by omega)) rfl ?_
                  simp (disch := omega) only [nI_clamp, List.set, mw_0, mw_1, mw_2, mw_3, mw_4, mw_5, mw_6, mw_7, mw_8, mw_9, mw_10, mw_11, mw_12, mw_13, mw_14, mw_15, mw_16, mw_17, mw_18, mw_19]
                  refine xr_aload_n (n := 128) dX8_readsStatement_127 rfl rfl ?_
                  refine xr_get (n := 131) dX8_readsStatement_128 fl_X8_25 (by first | exact mput_0 _ _ _ | exact mput_r (by decide)) (by rfl) rfl ?_
                  refine xr_iload_n (n := 132) dX8_readsStatement_131 rfl rfl ?_
                  refine xr_iload_n (n := 133) dX8_readsStatement_132 rfl rfl ?_
                  refine xr_iconst (v := nI 3) (n := 134) dX8_readsStatement_133 (by decide) rfl ?_
                  refine xr_icmp_ne (tgt := 142) (n := 137) dX8_readsStatement_134 (by decide) rfl (fun h134 => ?_) (fun h134 => ?_)
                  · have hk3 : kd = 4 := by ((try simp (disch := omega) only [i_lt, i_le, i_eq, nt, i_m1, Int32.toInt_zero] at *); omega)
                    subst hk3
                    refine xr_bipush (v := nI 58) (n := 144) dX8_readsStatement_142 (by decide) rfl ?_
                    refine xq_iastore (n := 145) dX8_readsStatement_144 (by first | exact mput_0 _ _ _ | exact mput_r (by decide)) (by first | exact vp_in_nI (by omega) (by omega)) rfl ?_
                    simp (disch := omega) only [nI_clamp, List.set, mw_0, mw_1, mw_2, mw_3, mw_4, mw_5, mw_6, mw_7, mw_8, mw_9, mw_10, mw_11, mw_12, mw_13, mw_14, mw_15, mw_16, mw_17, mw_18, mw_19]
                    refine xr_iconst (v := nI 1) (n := 146) dX8_readsStatement_145 (by decide) rfl ?_
                    refine xr_ireturn dX8_readsStatement_146 rfl (by first | exact b2i_nar | exact nar_1 | exact nar_0) rfl ?_
                    refine qi (hq _ (fun w h5 h6 h7 h8 => by rw [up2_n _ _ _ h8, up2_n _ _ _ h7]; exact s2 w h5 h6) ?_ (fun z => ⟨?_, ?_⟩)) ?_
                    · rw [hG, hS2]; exact ⟨by rw [up2_n _ _ _ (by omega), up2_n _ _ _ (by omega)]; exact p2.1, by rw [up2_n _ _ _ (by omega), up2_n _ _ _ (by omega)]; exact p2.2.1, p2.2.2⟩
                    · rw [hG, hS2, up2_n _ _ _ (by omega), up2_n _ _ _ (by omega), t1, up2_n _ _ _ (by omega)]
                      exact (e1.up (s := k) (w := 1) (by omega)).congr (fun j w hj hw => tc_up)
                    · refine (show _ = upd (μ 7) dp (nI k) ∧ _ = upd (μ 8) dp (nI _) from ⟨?_, ?_⟩)
                      · rw [up2_n _ _ _ (by omega), up2_s, s2 7 (by omega) (by omega)]
                      · rw [up2_s, up2_n _ _ _ (by omega), s2 8 (by omega) (by omega)]; rfl
                    · rw [hG, hS2]; rfl
                  · have hk3 : kd = 3 := by ((try simp (disch := omega) only [i_lt, i_le, i_eq, nt, i_m1, Int32.toInt_zero] at *); omega)
                    subst hk3
                    refine xr_bipush (v := nI 93) (n := 139) dX8_readsStatement_137 (by decide) rfl ?_
                    refine xr_goto (n := 144) dX8_readsStatement_139 (by decide) ?_
                    refine xq_iastore (n := 145) dX8_readsStatement_144 (by first | exact mput_0 _ _ _ | exact mput_r (by decide)) (by first | exact vp_in_nI (by omega) (by omega)) rfl ?_
                    simp (disch := omega) only [nI_clamp, List.set, mw_0, mw_1, mw_2, mw_3, mw_4, mw_5, mw_6, mw_7, mw_8, mw_9, mw_10, mw_11, mw_12, mw_13, mw_14, mw_15, mw_16, mw_17, mw_18, mw_19]
                    refine xr_iconst (v := nI 1) (n := 146) dX8_readsStatement_145 (by decide) rfl ?_
                    refine xr_ireturn dX8_readsStatement_146 rfl (by first | exact b2i_nar | exact nar_1 | exact nar_0) rfl ?_
                    refine qi (hq _ (fun w h5 h6 h7 h8 => by rw [up2_n _ _ _ h8, up2_n _ _ _ h7]; exact s2 w h5 h6) ?_ (fun z => ⟨?_, ?_⟩)) ?_
                    · rw [hG, hS2]; exact ⟨by rw [up2_n _ _ _ (by omega), up2_n _ _ _ (by omega)]; exact p2.1, by rw [up2_n _ _ _ (by omega), up2_n _ _ _ (by omega)]; exact p2.2.1, p2.2.2⟩
                    · rw [hG, hS2, up2_n _ _ _ (by omega), up2_n _ _ _ (by omega), t1, up2_n _ _ _ (by omega)]
                      exact (e1.up (s := k) (w := 1) (by omega)).congr (fun j w hj hw => tc_up)
                    · refine (show _ = upd (μ 7) dp (nI k) ∧ _ = upd (μ 8) dp (nI _) from ⟨?_, ?_⟩)
                      · rw [up2_n _ _ _ (by omega), up2_s, s2 7 (by omega) (by omega)]
                      · rw [up2_s, up2_n _ _ _ (by omega), s2 8 (by omega) (by omega)]; rfl
                    · rw [hG, hS2]; rfl
                · have hk1 : kd = 1 := by ((try simp (disch := omega) only [i_lt, i_le, i_eq, nt, i_m1, Int32.toInt_zero] at *); omega)
                  subst hk1
                  have hS2 : stF (μ 3) n q 1 = _ := hS.trans (if_pos rfl)
                  refine xr_aload_n (n := 114) dX8_readsStatement_113 rfl rfl ?_
                  refine xr_bipush (v := nI 59) (n := 116) dX8_readsStatement_114 (by decide) rfl ?_
                  refine xr_callV (y2 := mX8_passes) (As := [_]) (n := 119) dX8_readsStatement_116 lm_X8_90 pm_X8_passes pi_X8_passes (by first | exact mput_0 _ _ _ | exact mput_r (by decide)) rfl rfl rfl (by simp [Value.category]) rfl ⟨Nat.le_refl _, Nat.le_refl _⟩ ?_
                  refine s_X8_passes p2 (nz 59 (by omega) (by omega)) ?_
                  rw [et2]
                  dsimp only [xK, xps]
                  refine xr_ireturn dX8_readsStatement_119 rfl (by first | exact b2i_nar | exact nar_1 | exact nar_0) rfl ?_
                  refine qi (hq _ (sam.u6 s2).to8 ?_ (fun z => ⟨?_, ?_⟩)) ?_
                  · rw [hG, hS2]; exact p2.at (pas_le (t := μ 3) p2.2.2.1 (nz 59 (by omega) (by omega)))
                  · rw [hG, hS2, up2_n _ _ _ (by omega), t1, up2_n _ _ _ (by omega)]
                    exact (e1.up (s := k) (w := 1) (by omega)).congr (fun j w hj hw => tc_up)
                  · exact stPost_lt (by omega) (sam.u6 s2)
                  · rw [hG, hS2]
                    exact b2i_iff decide_eq_true_iff
              · have hS : stF (μ 3) n q kd = _ := (if_neg hk0).trans ((if_neg hk2).trans (if_neg h103))
                refine xr_iconst (v := nI 0) (n := 107) dX8_readsStatement_106 (by decide) rfl ?_
                refine xr_ireturn dX8_readsStatement_107 rfl (by first | exact b2i_nar | exact nar_1 | exact nar_0) rfl ?_
                refine qi (hq ν2 s2.to8 ?_ (fun z => ?_)) ?_
                · rw [hG, hS]; exact p2
                · rw [hG, hS] at z; cases z
                · rw [hG, hS]; rfl
            · have hk2 : kd = 2 := by ((try simp (disch := omega) only [i_lt, i_le, i_eq, nt, i_m1, Int32.toInt_zero] at *); omega)
              subst hk2
              refine xr_aload_n (n := 92) dX8_readsStatement_91 rfl rfl ?_
              refine xr_bipush (v := nI 59) (n := 94) dX8_readsStatement_92 (by decide) rfl ?_
              refine xr_callV (y2 := mX8_passes) (As := [_]) (n := 97) dX8_readsStatement_94 lm_X8_90 pm_X8_passes pi_X8_passes (by first | exact mput_0 _ _ _ | exact mput_r (by decide)) rfl rfl rfl (by simp [Value.category]) rfl ⟨Nat.le_refl _, Nat.le_refl _⟩ ?_
              have p1 := (hP1.u5 (j := 1 + 7 * k + 0) (v := nI 2))
              refine s_X8_passes (a := q + 1) (by rw [up2_56]; exact p1) (nz 59 (by omega) (by omega)) ?_
              rw [up2_n _ _ _ (show 3 ≠ 6 by omega), up2_n _ _ _ (show 3 ≠ 5 by omega), et]
              dsimp only [xK, xps]
              refine xr_ireturn dX8_readsStatement_97 rfl (by first | exact b2i_nar | exact nar_1 | exact nar_0) rfl ?_
              have hS : stF (μ 3) n q 2 = _ := (if_neg hk0).trans (if_pos rfl)
              refine qi (hq _ (sam.u6 (sam.u6 (sam.u5 hsm))).to8 ?_ (fun z => ⟨?_, ?_⟩)) ?_
              · rw [hG, hS, up2_56]; exact (hP1.u5 (j := 1 + 7 * k + 0) (v := nI 2)).at (pas_le (t := μ 3) hP1.2.2.1 (nz 59 (by omega) (by omega)))
              · rw [hG, hS, up2_n _ _ _ (by omega), up2_n _ _ _ (by omega)]
                exact e1
              · exact stPost_lt (by omega) (sam.u6 (sam.u6 (sam.u5 hsm)))
              · rw [hG, hS]
                exact b2i_iff decide_eq_true_iff
          · have hk0 : kd = 0 := by ((try simp (disch := omega) only [i_lt, i_le, i_eq, nt, i_m1, Int32.toInt_zero] at *); omega)
            subst hk0
            refine xr_aload_n (n := 71) dX8_readsStatement_70 rfl rfl ?_
            refine xr_iload_n (n := 72) dX8_readsStatement_71 rfl rfl ?_
            refine xr_callV (y2 := mX8_readsSetting) (As := [_]) (n := 75) dX8_readsStatement_72 lm_X8_97 pm_X8_readsSetting pi_X8_readsSetting (by first | exact mput_0 _ _ _ | exact mput_r (by decide)) rfl rfl rfl (by simp [Value.category]) rfl ⟨Nat.le_refl _, Nat.le_refl _⟩ ?_
            refine s_X8_readsSetting (k := k + 1) (P := padd P k (ti 0)) ep.u5 e1 (by omega) (by omega) (fun w hw hw7 => by unfold padd ti; rw [if_pos rfl]; exact if_neg (by omega)) (fun ν2 s2 p2 g2 => ?_)
            rw [up2_n ν _ _ (show 3 ≠ 5 by omega), et] at p2 g2
            rw [up2_n ν _ _ (show 3 ≠ 5 by omega), et]
            dsimp only [xK, xps]
            refine xr_ireturn dX8_readsStatement_75 rfl (by first | exact b2i_nar | exact nar_1 | exact nar_0) rfl ?_
            have hS : stF (μ 3) n q 0 = seF (μ 3) n q := if_pos rfl
            refine qi (hq ν2 ((sam.u5 hsm).tr s2).to8 ?_ (fun z => ⟨?_, ?_⟩)) ?_
            · rw [hG, hS]; exact p2
            · rw [hG, hS] at z ⊢
              exact (g2 z).congr (fun j w hj hw => seq0 w)
            · exact (by rw [((sam.u5 hsm).tr s2) 7 (by omega) (by omega), ((sam.u5 hsm).tr s2) 8 (by omega) (by omega)]; exact ⟨rfl, rfl⟩ : ν2 7 = μ 7 ∧ ν2 8 = μ 8)
            · rw [hG, hS]
        · intro w hw ih ν hsm h6 hhf
          refine xr_iload (n := 40) dX8_readsStatement_38 rfl rfl ?_
          refine xr_bipush (v := nI 7) (n := 42) dX8_readsStatement_40 (by decide) rfl ?_
          refine xr_icmp_ge (tgt := 59) (n := 45) dX8_readsStatement_42 (by decide) rfl (fun h42 => by (exfalso; ((try simp (disch := omega) only [i_lt, i_le, i_eq, nt, i_m1, Int32.toInt_zero] at *); omega))) (fun h42 => ?_)
          refine xr_aload_n (n := 46) dX8_readsStatement_45 rfl rfl ?_
          refine xr_iload_n (n := 47) dX8_readsStatement_46 rfl rfl ?_
          refine xr_iload (n := 49) dX8_readsStatement_47 rfl rfl ?_
          refine xr_iconst (v := nI 0) (n := 50) dX8_readsStatement_49 (by decide) rfl ?_
          refine xr_callV (y2 := mX8_put) (As := [_, _, _]) (n := 53) dX8_readsStatement_50 lm_X8_83 pm_X8_put pi_X8_put (by first | exact mput_0 _ _ _ | exact mput_r (by decide)) rfl rfl rfl (by simp [Value.category]) rfl ⟨Nat.le_refl _, Nat.le_refl _⟩ ?_
          refine s_X8_put (by omega) (by omega) ?_
          dsimp only [xK, xps]
          refine xr_iinc (n := 56) dX8_readsStatement_53 rfl rfl (rfl) rfl ?_
          simp only [xst, Nat.beq, List.filter, Bool.not_true, Bool.not_false]
          (first | (simp (disch := omega) only [nI_clamp, pk_mul, nI_add, oi1, up2_ss, up2_n, up2_sn, Nat.reduceMul, Nat.reduceAdd, Nat.add_zero, hp6]) | (simp (disch := omega) only [nI_clamp, pk_mul, nI_add, oi1, up2_ss, up2_n, up2_sn, Nat.reduceMul, Nat.reduceAdd, Nat.add_zero]) | skip)
          refine xr_goto (n := 38) dX8_readsStatement_56 (by decide) ?_
          exact ih _ (sam.u5 hsm) ((up2_n _ _ _ (by omega)).trans h6) (by rw [up2_s]; exact half_s hhf hw)
      exact key 0 (by omega) _ (sam.u5 (fun _ _ _ => rfl)) (up2_n _ _ _ (by omega)) (by rw [up2_s]; exact half_0 hP)
    · refine xr_iload_n (n := 19) dX8_readsStatement_18 rfl rfl ?_
      refine xr_iconst (v := nI 5) (n := 20) dX8_readsStatement_19 (by decide) rfl ?_
      refine xr_icmp_ne (tgt := 25) (n := 23) dX8_readsStatement_20 (by decide) rfl (fun h20 => ?_) (fun h20 => ?_)
      · have hnf : ¬ ful k kd dp := fun z => by (have h10 := h10; have h15 := h15; have h20 := h20; unfold ful at z; ((try simp (disch := omega) only [i_lt, i_le, i_eq, nt, i_m1, Int32.toInt_zero] at *); omega))
        refine xr_aload_n (n := 26) dX8_readsStatement_25 rfl rfl ?_
        refine xr_get (n := 29) dX8_readsStatement_26 fl_X8_19 (by first | exact mput_0 _ _ _ | exact mput_r (by decide)) (by rfl) rfl ?_
        refine xr_iconst (v := nI 0) (n := 30) dX8_readsStatement_29 (by decide) rfl ?_
        refine xr_dup2 (n := 31) dX8_readsStatement_30 rfl rfl rfl ?_
        refine xr_iaload (n := 32) dX8_readsStatement_31 (by first | exact mput_0 _ _ _ | exact mput_r (by decide)) (by first | exact vp_in_nI (by omega) (by omega)) rfl ?_
        (first | (simp (disch := omega) only [nI_clamp, pk_mul, nI_add, oi1, up2_ss, up2_n, up2_sn, Nat.reduceMul, Nat.reduceAdd, Nat.add_zero, hn0]) | skip)
        refine xr_iconst (v := nI 1) (n := 33) dX8_readsStatement_32 (by decide) rfl ?_
        refine xr_iadd (n := 34) dX8_readsStatement_33 rfl ?_
        (first | (simp (disch := omega) only [nI_clamp, pk_mul, nI_add, oi1, up2_ss, up2_n, up2_sn, Nat.reduceMul, Nat.reduceAdd, Nat.add_zero, hn0]) | skip)
        refine xq_iastore (n := 35) dX8_readsStatement_34 (by first | exact mput_0 _ _ _ | exact mput_r (by decide)) (by first | exact vp_in_nI (by omega) (by omega)) rfl ?_
        simp (disch := omega) only [nI_clamp, List.set, mw_0, mw_1, mw_2, mw_3, mw_4, mw_5, mw_6, mw_7, mw_8, mw_9, mw_10, mw_11, mw_12, mw_13, mw_14, mw_15, mw_16, mw_17, mw_18, mw_19]
        refine xr_iconst (v := nI 0) (n := 36) dX8_readsStatement_35 (by decide) rfl ?_
        refine xr_istore (n := 38) dX8_readsStatement_36 rfl rfl ?_
        simp only [xst, Nat.beq, List.filter, Bool.not_true, Bool.not_false]
        have key : ∀ w, w ≤ 7 → ∀ ν, sam μ ν → ν 6 = μ 6 → half (ν 5) k w P → xX G (d + 4) mX8_readsStatement r r (xΦ G r r Q) 38 [(0, .ref m), (1, .int (nI kd)), (2, .int (nI dp)), (3, .int (nI k)), (4, .int (nI w))] [] (mput f m ν, r) := by
          refine nat_down (P := fun w => ∀ ν, sam μ ν → ν 6 = μ 6 → half (ν 5) k w P → xX G (d + 4) mX8_readsStatement r r (xΦ G r r Q) 38 [(0, .ref m), (1, .int (nI kd)), (2, .int (nI dp)), (3, .int (nI k)), (4, .int (nI w))] [] (mput f m ν, r)) (N := 7) ?_ ?_
          · intro ν hsm h6 hhf
            have e0 := half_e hhf
            have ep : pst ν n q := ⟨by rw [hsm 4 (by omega) (by omega)]; exact hp.1, by rw [h6]; exact hp.2.1, hp.2.2⟩
            have hp6 : ν 6 0 = nI q := ep.2.1
            have et : ν 3 = μ 3 := hsm 3 (by omega) (by omega)
            have hG : stG (μ 3) n q kd k dp = stF (μ 3) n q kd := if_neg hnf
            refine xr_iload (n := 40) dX8_readsStatement_38 rfl rfl ?_
            refine xr_bipush (v := nI 7) (n := 42) dX8_readsStatement_40 (by decide) rfl ?_
            refine xr_icmp_ge (tgt := 59) (n := 45) dX8_readsStatement_42 (by decide) rfl (fun h42 => ?_) (fun h42 => by (exfalso; ((try simp (disch := omega) only [i_lt, i_le, i_eq, nt, i_m1, Int32.toInt_zero] at *); omega)))
            refine xr_aload_n (n := 60) dX8_readsStatement_59 rfl rfl ?_
            refine xr_iload_n (n := 61) dX8_readsStatement_60 rfl rfl ?_
            refine xr_iconst (v := nI 0) (n := 62) dX8_readsStatement_61 (by decide) rfl ?_
            refine xr_iload_n (n := 63) dX8_readsStatement_62 rfl rfl ?_
            refine xr_callV (y2 := mX8_put) (As := [_, _, _]) (n := 66) dX8_readsStatement_63 lm_X8_83 pm_X8_put pi_X8_put (by first | exact mput_0 _ _ _ | exact mput_r (by decide)) rfl rfl rfl (by simp [Value.category]) rfl ⟨Nat.le_refl _, Nat.le_refl _⟩ ?_
            refine s_X8_put (w := 0) (by omega) (by omega) ?_
            have e1 : isPg (up2 ν 5 (1 + 7 * k + 0) (nI kd) 5) (k + 1) (padd P k (ti kd)) := by rw [up2_s]; exact (e0.up (s := k) (w := 0) (v := kd) (by omega)).congr (fun j w hj hw => by unfold padd ti; by_cases e : j = k <;> by_cases w0 : w = 0 <;> simp [e, w0])
            dsimp only [xK, xps]
            skip
            refine xr_iload_n (n := 67) dX8_readsStatement_66 rfl rfl ?_
            refine xr_if_ne (tgt := 76) (n := 70) dX8_readsStatement_67 (by decide) rfl (fun h67 => ?_) (fun h67 => ?_)
            · have hk0 : ¬ kd = 0 := by ((try simp (disch := omega) only [i_lt, i_le, i_eq, nt, i_m1, Int32.toInt_zero] at *); omega)
              have hP1 := ep.at (b := q + 1) (by omega)
              refine xr_aload_n (n := 77) dX8_readsStatement_76 rfl rfl ?_
              refine xr_dup (n := 78) dX8_readsStatement_77 rfl rfl ?_
              refine xr_get (n := 81) dX8_readsStatement_78 fl_X8_72 (by first | exact mput_0 _ _ _ | exact mput_r (by decide)) (by rfl) rfl ?_
              (first | (simp (disch := omega) only [nI_clamp, pk_mul, nI_add, oi1, up2_ss, up2_n, up2_sn, Nat.reduceMul, Nat.reduceAdd, Nat.add_zero, hp6]) | (simp (disch := omega) only [nI_clamp, pk_mul, nI_add, oi1, up2_ss, up2_n, up2_sn, Nat.reduceMul, Nat.reduceAdd, Nat.add_zero]) | skip)
              refine xr_iconst (v := nI 1) (n := 82) dX8_readsStatement_81 (by decide) rfl ?_
              refine xr_iadd (n := 83) dX8_readsStatement_82 rfl ?_
              (first | (simp (disch := omega) only [nI_clamp, pk_mul, nI_add, oi1, up2_ss, up2_n, up2_sn, Nat.reduceMul, Nat.reduceAdd, Nat.add_zero, hp6]) | (simp (disch := omega) only [nI_clamp, pk_mul, nI_add, oi1, up2_ss, up2_n, up2_sn, Nat.reduceMul, Nat.reduceAdd, Nat.add_zero]) | skip)
              refine xq_put (n := 86) dX8_readsStatement_83 fl_X8_72 rfl (by first | exact mput_0 _ _ _ | exact mput_r (by decide)) (by rfl) (by rfl) (by rfl) rfl ?_
              simp (disch := omega) only [nI_clamp, List.set, mw_0, mw_1, mw_2, mw_3, mw_4, mw_5, mw_6, mw_7, mw_8, mw_9, mw_10, mw_11, mw_12, mw_13, mw_14, mw_15, mw_16, mw_17, mw_18, mw_19]
              refine xr_iload_n (n := 87) dX8_readsStatement_86 rfl rfl ?_
              refine xr_iconst (v := nI 2) (n := 88) dX8_readsStatement_87 (by decide) rfl ?_
              refine xr_icmp_ne (tgt := 98) (n := 91) dX8_readsStatement_88 (by decide) rfl (fun h88 => ?_) (fun h88 => ?_)
              · have hk2 : ¬ kd = 2 := by ((try simp (disch := omega) only [i_lt, i_le, i_eq, nt, i_m1, Int32.toInt_zero] at *); omega)
                refine xr_aload_n (n := 99) dX8_readsStatement_98 rfl rfl ?_
                refine xr_iload_n (n := 100) dX8_readsStatement_99 rfl rfl ?_
                refine xr_callV (y2 := mX8_readsCell) (As := [_]) (n := 103) dX8_readsStatement_100 lm_X8_87 pm_X8_readsCell pi_X8_readsCell (by first | exact mput_0 _ _ _ | exact mput_r (by decide)) rfl rfl rfl (by simp [Value.category]) rfl ⟨Nat.le_refl _, Nat.le_refl _⟩ ?_
                have p1 := (hP1.u5 (j := 1 + 7 * k + 0) (v := nI kd))
                refine s_X8_readsCell (a := q + 1) (by rw [up2_56]; exact p1) (by omega) (fun ν2 hr2 => ?_)
                rw [up2_n _ _ _ (show 3 ≠ 6 by omega), up2_n _ _ _ (show 3 ≠ 5 by omega), et] at hr2
                rw [up2_n _ _ _ (show 3 ≠ 6 by omega), up2_n _ _ _ (show 3 ≠ 5 by omega), et]
                obtain ⟨r2, p2, t1, f1⟩ := hr2
                have s2 : sam μ ν2 := (sam.u6 (sam.u5 hsm)).tr r2
                have et2 : ν2 3 = μ 3 := s2 3 (by omega) (by omega)
                dsimp only [xK, xps]
                refine xr_bne (tgt := 108) (n := 106) dX8_readsStatement_103 (by decide) rfl (fun h103 => ?_) (fun h103 => ?_)
                · have hS : stF (μ 3) n q kd = _ := (if_neg hk0).trans ((if_neg hk2).trans (if_pos h103))
                  have t1 := t1 h103
                  refine xr_iload_n (n := 109) dX8_readsStatement_108 rfl rfl ?_
                  refine xr_iconst (v := nI 1) (n := 110) dX8_readsStatement_109 (by decide) rfl ?_
                  refine xr_icmp_ne (tgt := 120) (n := 113) dX8_readsStatement_110 (by decide) rfl (fun h110 => ?_) (fun h110 => ?_)
                  · have hk1 : ¬ kd = 1 := by ((try simp (disch := omega) only [i_lt, i_le, i_eq, nt, i_m1, Int32.toInt_zero] at *); omega)
                    have hS2 : stF (μ 3) n q kd = _ := hS.trans (if_neg hk1)
                    refine xr_aload_n (n := 121) dX8_readsStatement_120 rfl rfl ?_
                    refine xr_get (n := 124) dX8_readsStatement_121 fl_X8_22 (by first | exact mput_0 _ _ _ | exact mput_r (by decide)) (by rfl) rfl ?_
                    refine xr_iload_n (n := 125) dX8_readsStatement_124 rfl rfl ?_
                    refine xr_iload_n (n := 126) dX8_readsStatement_125 rfl rfl ?_
                    refine xq_iastore (n := 127) dX8_readsStatement_126 (by first | exact mput_0 _ _ _ | exact mput_r (by decide)) (by first | exact vp_in_nI (by omega) (by omega)) rfl ?_
                    simp (disch := omega) only [nI_clamp, List.set, mw_0, mw_1, mw_2, mw_3, mw_4, mw_5, mw_6, mw_7, mw_8, mw_9, mw_10, mw_11, mw_12, mw_13, mw_14, mw_15, mw_16, mw_17, mw_18, mw_19]
                    refine xr_aload_n (n := 128) dX8_readsStatement_127 rfl rfl ?_
                    refine xr_get (n := 131) dX8_readsStatement_128 fl_X8_25 (by first | exact mput_0 _ _ _ | exact mput_r (by decide)) (by rfl) rfl ?_
                    refine xr_iload_n (n := 132) dX8_readsStatement_131 rfl rfl ?_
                    refine xr_iload_n (n := 133) dX8_readsStatement_132 rfl rfl ?_
                    refine xr_iconst (v := nI 3) (n := 134) dX8_readsStatement_133 (by decide) rfl ?_
                    refine xr_icmp_ne (tgt := 142) (n := 137) dX8_readsStatement_134 (by decide) rfl (fun h134 => ?_) (fun h134 => ?_)
                    · have hk3 : kd = 4 := by ((try simp (disch := omega) only [i_lt, i_le, i_eq, nt, i_m1, Int32.toInt_zero] at *); omega)
                      subst hk3
                      refine xr_bipush (v := nI 58) (n := 144) dX8_readsStatement_142 (by decide) rfl ?_
                      refine xq_iastore (n := 145) dX8_readsStatement_144 (by first | exact mput_0 _ _ _ | exact mput_r (by decide)) (by first | exact vp_in_nI (by omega) (by omega)) rfl ?_
                      simp (disch := omega) only [nI_clamp, List.set, mw_0, mw_1, mw_2, mw_3, mw_4, mw_5, mw_6, mw_7, mw_8, mw_9, mw_10, mw_11, mw_12, mw_13, mw_14, mw_15, mw_16, mw_17, mw_18, mw_19]
                      refine xr_iconst (v := nI 1) (n := 146) dX8_readsStatement_145 (by decide) rfl ?_
                      refine xr_ireturn dX8_readsStatement_146 rfl (by first | exact b2i_nar | exact nar_1 | exact nar_0) rfl ?_
                      refine qi (hq _ (fun w h5 h6 h7 h8 => by rw [up2_n _ _ _ h8, up2_n _ _ _ h7]; exact s2 w h5 h6) ?_ (fun z => ⟨?_, ?_⟩)) ?_
                      · rw [hG, hS2]; exact ⟨by rw [up2_n _ _ _ (by omega), up2_n _ _ _ (by omega)]; exact p2.1, by rw [up2_n _ _ _ (by omega), up2_n _ _ _ (by omega)]; exact p2.2.1, p2.2.2⟩
                      · rw [hG, hS2, up2_n _ _ _ (by omega), up2_n _ _ _ (by omega), t1, up2_n _ _ _ (by omega)]
                        exact (e1.up (s := k) (w := 1) (by omega)).congr (fun j w hj hw => tc_up)
                      · refine (show _ = upd (μ 7) dp (nI k) ∧ _ = upd (μ 8) dp (nI _) from ⟨?_, ?_⟩)
                        · rw [up2_n _ _ _ (by omega), up2_s, s2 7 (by omega) (by omega)]
                        · rw [up2_s, up2_n _ _ _ (by omega), s2 8 (by omega) (by omega)]; rfl
                      · rw [hG, hS2]; rfl
                    · have hk3 : kd = 3 := by ((try simp (disch := omega) only [i_lt, i_le, i_eq, nt, i_m1, Int32.toInt_zero] at *); omega)
                      subst hk3
                      refine xr_bipush (v := nI 93) (n := 139) dX8_readsStatement_137 (by decide) rfl ?_
                      refine xr_goto (n := 144) dX8_readsStatement_139 (by decide) ?_
                      refine xq_iastore (n := 145) dX8_readsStatement_144 (by first | exact mput_0 _ _ _ | exact mput_r (by decide)) (by first | exact vp_in_nI (by omega) (by omega)) rfl ?_
                      simp (disch := omega) only [nI_clamp, List.set, mw_0, mw_1, mw_2, mw_3, mw_4, mw_5, mw_6, mw_7, mw_8, mw_9, mw_10, mw_11, mw_12, mw_13, mw_14, mw_15, mw_16, mw_17, mw_18, mw_19]
                      refine xr_iconst (v := nI 1) (n := 146) dX8_readsStatement_145 (by decide) rfl ?_
                      refine xr_ireturn dX8_readsStatement_146 rfl (by first | exact b2i_nar | exact nar_1 | exact nar_0) rfl ?_
                      refine qi (hq _ (fun w h5 h6 h7 h8 => by rw [up2_n _ _ _ h8, up2_n _ _ _ h7]; exact s2 w h5 h6) ?_ (fun z => ⟨?_, ?_⟩)) ?_
                      · rw [hG, hS2]; exact ⟨by rw [up2_n _ _ _ (by omega), up2_n _ _ _ (by omega)]; exact p2.1, by rw [up2_n _ _ _ (by omega), up2_n _ _ _ (by omega)]; exact p2.2.1, p2.2.2⟩
                      · rw [hG, hS2, up2_n _ _ _ (by omega), up2_n _ _ _ (by omega), t1, up2_n _ _ _ (by omega)]
                        exact (e1.up (s := k) (w := 1) (by omega)).congr (fun j w hj hw => tc_up)
                      · refine (show _ = upd (μ 7) dp (nI k) ∧ _ = upd (μ 8) dp (nI _) from ⟨?_, ?_⟩)
                        · rw [up2_n _ _ _ (by omega), up2_s, s2 7 (by omega) (by omega)]
                        · rw [up2_s, up2_n _ _ _ (by omega), s2 8 (by omega) (by omega)]; rfl
                      · rw [hG, hS2]; rfl
                  · have hk1 : kd = 1 := by ((try simp (disch := omega) only [i_lt, i_le, i_eq, nt, i_m1, Int32.toInt_zero] at *); omega)
                    subst hk1
                    have hS2 : stF (μ 3) n q 1 = _ := hS.trans (if_pos rfl)
                    refine xr_aload_n (n := 114) dX8_readsStatement_113 rfl rfl ?_
                    refine xr_bipush (v := nI 59) (n := 116) dX8_readsStatement_114 (by decide) rfl ?_
                    refine xr_callV (y2 := mX8_passes) (As := [_]) (n := 119) dX8_readsStatement_116 lm_X8_90 pm_X8_passes pi_X8_passes (by first | exact mput_0 _ _ _ | exact mput_r (by decide)) rfl rfl rfl (by simp [Value.category]) rfl ⟨Nat.le_refl _, Nat.le_refl _⟩ ?_
                    refine s_X8_passes p2 (nz 59 (by omega) (by omega)) ?_
                    rw [et2]
                    dsimp only [xK, xps]
                    refine xr_ireturn dX8_readsStatement_119 rfl (by first | exact b2i_nar | exact nar_1 | exact nar_0) rfl ?_
                    refine qi (hq _ (sam.u6 s2).to8 ?_ (fun z => ⟨?_, ?_⟩)) ?_
                    · rw [hG, hS2]; exact p2.at (pas_le (t := μ 3) p2.2.2.1 (nz 59 (by omega) (by omega)))
                    · rw [hG, hS2, up2_n _ _ _ (by omega), t1, up2_n _ _ _ (by omega)]
                      exact (e1.up (s := k) (w := 1) (by omega)).congr (fun j w hj hw => tc_up)
                    · exact stPost_lt (by omega) (sam.u6 s2)
                    · rw [hG, hS2]
                      exact b2i_iff decide_eq_true_iff
                · have hS : stF (μ 3) n q kd = _ := (if_neg hk0).trans ((if_neg hk2).trans (if_neg h103))
                  refine xr_iconst (v := nI 0) (n := 107) dX8_readsStatement_106 (by decide) rfl ?_
                  refine xr_ireturn dX8_readsStatement_107 rfl (by first | exact b2i_nar | exact nar_1 | exact nar_0) rfl ?_
                  refine qi (hq ν2 s2.to8 ?_ (fun z => ?_)) ?_
                  · rw [hG, hS]; exact p2
                  · rw [hG, hS] at z; cases z
                  · rw [hG, hS]; rfl
              · have hk2 : kd = 2 := by ((try simp (disch := omega) only [i_lt, i_le, i_eq, nt, i_m1, Int32.toInt_zero] at *); omega)
                subst hk2
                refine xr_aload_n (n := 92) dX8_readsStatement_91 rfl rfl ?_
                refine xr_bipush (v := nI 59) (n := 94) dX8_readsStatement_92 (by decide) rfl ?_
                refine xr_callV (y2 := mX8_passes) (As := [_]) (n := 97) dX8_readsStatement_94 lm_X8_90 pm_X8_passes pi_X8_passes (by first | exact mput_0 _ _ _ | exact mput_r (by decide)) rfl rfl rfl (by simp [Value.category]) rfl ⟨Nat.le_refl _, Nat.le_refl _⟩ ?_
                have p1 := (hP1.u5 (j := 1 + 7 * k + 0) (v := nI 2))
                refine s_X8_passes (a := q + 1) (by rw [up2_56]; exact p1) (nz 59 (by omega) (by omega)) ?_
                rw [up2_n _ _ _ (show 3 ≠ 6 by omega), up2_n _ _ _ (show 3 ≠ 5 by omega), et]
                dsimp only [xK, xps]
                refine xr_ireturn dX8_readsStatement_97 rfl (by first | exact b2i_nar | exact nar_1 | exact nar_0) rfl ?_
                have hS : stF (μ 3) n q 2 = _ := (if_neg hk0).trans (if_pos rfl)
                refine qi (hq _ (sam.u6 (sam.u6 (sam.u5 hsm))).to8 ?_ (fun z => ⟨?_, ?_⟩)) ?_
                · rw [hG, hS, up2_56]; exact (hP1.u5 (j := 1 + 7 * k + 0) (v := nI 2)).at (pas_le (t := μ 3) hP1.2.2.1 (nz 59 (by omega) (by omega)))
                · rw [hG, hS, up2_n _ _ _ (by omega), up2_n _ _ _ (by omega)]
                  exact e1
                · exact stPost_lt (by omega) (sam.u6 (sam.u6 (sam.u5 hsm)))
                · rw [hG, hS]
                  exact b2i_iff decide_eq_true_iff
            · have hk0 : kd = 0 := by ((try simp (disch := omega) only [i_lt, i_le, i_eq, nt, i_m1, Int32.toInt_zero] at *); omega)
              subst hk0
              refine xr_aload_n (n := 71) dX8_readsStatement_70 rfl rfl ?_
              refine xr_iload_n (n := 72) dX8_readsStatement_71 rfl rfl ?_
              refine xr_callV (y2 := mX8_readsSetting) (As := [_]) (n := 75) dX8_readsStatement_72 lm_X8_97 pm_X8_readsSetting pi_X8_readsSetting (by first | exact mput_0 _ _ _ | exact mput_r (by decide)) rfl rfl rfl (by simp [Value.category]) rfl ⟨Nat.le_refl _, Nat.le_refl _⟩ ?_
              refine s_X8_readsSetting (k := k + 1) (P := padd P k (ti 0)) ep.u5 e1 (by omega) (by omega) (fun w hw hw7 => by unfold padd ti; rw [if_pos rfl]; exact if_neg (by omega)) (fun ν2 s2 p2 g2 => ?_)
              rw [up2_n ν _ _ (show 3 ≠ 5 by omega), et] at p2 g2
              rw [up2_n ν _ _ (show 3 ≠ 5 by omega), et]
              dsimp only [xK, xps]
              refine xr_ireturn dX8_readsStatement_75 rfl (by first | exact b2i_nar | exact nar_1 | exact nar_0) rfl ?_
              have hS : stF (μ 3) n q 0 = seF (μ 3) n q := if_pos rfl
              refine qi (hq ν2 ((sam.u5 hsm).tr s2).to8 ?_ (fun z => ⟨?_, ?_⟩)) ?_
              · rw [hG, hS]; exact p2
              · rw [hG, hS] at z ⊢
                exact (g2 z).congr (fun j w hj hw => seq0 w)
              · exact (by rw [((sam.u5 hsm).tr s2) 7 (by omega) (by omega), ((sam.u5 hsm).tr s2) 8 (by omega) (by omega)]; exact ⟨rfl, rfl⟩ : ν2 7 = μ 7 ∧ ν2 8 = μ 8)
              · rw [hG, hS]
          · intro w hw ih ν hsm h6 hhf
            refine xr_iload (n := 40) dX8_readsStatement_38 rfl rfl ?_
            refine xr_bipush (v := nI 7) (n := 42) dX8_readsStatement_40 (by decide) rfl ?_
            refine xr_icmp_ge (tgt := 59) (n := 45) dX8_readsStatement_42 (by decide) rfl (fun h42 => by (exfalso; ((try simp (disch := omega) only [i_lt, i_le, i_eq, nt, i_m1, Int32.toInt_zero] at *); omega))) (fun h42 => ?_)
            refine xr_aload_n (n := 46) dX8_readsStatement_45 rfl rfl ?_
            refine xr_iload_n (n := 47) dX8_readsStatement_46 rfl rfl ?_
            refine xr_iload (n := 49) dX8_readsStatement_47 rfl rfl ?_
            refine xr_iconst (v := nI 0) (n := 50) dX8_readsStatement_49 (by decide) rfl ?_
            refine xr_callV (y2 := mX8_put) (As := [_, _, _]) (n := 53) dX8_readsStatement_50 lm_X8_83 pm_X8_put pi_X8_put (by first | exact mput_0 _ _ _ | exact mput_r (by decide)) rfl rfl rfl (by simp [Value.category]) rfl ⟨Nat.le_refl _, Nat.le_refl _⟩ ?_
            refine s_X8_put (by omega) (by omega) ?_
            dsimp only [xK, xps]
            refine xr_iinc (n := 56) dX8_readsStatement_53 rfl rfl (rfl) rfl ?_
            simp only [xst, Nat.beq, List.filter, Bool.not_true, Bool.not_false]
            (first | (simp (disch := omega) only [nI_clamp, pk_mul, nI_add, oi1, up2_ss, up2_n, up2_sn, Nat.reduceMul, Nat.reduceAdd, Nat.add_zero, hp6]) | (simp (disch := omega) only [nI_clamp, pk_mul, nI_add, oi1, up2_ss, up2_n, up2_sn, Nat.reduceMul, Nat.reduceAdd, Nat.add_zero]) | skip)
            refine xr_goto (n := 38) dX8_readsStatement_56 (by decide) ?_
            exact ih _ (sam.u5 hsm) ((up2_n _ _ _ (by omega)).trans h6) (by rw [up2_s]; exact half_s hhf hw)
        exact key 0 (by omega) _ (sam.u5 (fun _ _ _ => rfl)) (up2_n _ _ _ (by omega)) (by rw [up2_s]; exact half_0 hP)
      · refine xr_iconst (v := nI 0) (n := 24) dX8_readsStatement_23 (by decide) rfl ?_
        refine xr_ireturn dX8_readsStatement_24 rfl (by first | exact b2i_nar | exact nar_1 | exact nar_0) rfl ?_
        have hG : stG (μ 3) n q kd k dp = (false, q, fun _ => 0) := if_pos (by first | exact Or.inl (by ((try simp (disch := omega) only [i_lt, i_le, i_eq, nt, i_m1, Int32.toInt_zero] at *); omega)) | exact Or.inr ⟨by ((try simp (disch := omega) only [i_lt, i_le, i_eq, nt, i_m1, Int32.toInt_zero] at *); omega), by ((try simp (disch := omega) only [i_lt, i_le, i_eq, nt, i_m1, Int32.toInt_zero] at *); omega)⟩)
        refine qi (hq μ (fun _ _ _ _ _ => rfl) ?_ (fun z => ?_)) ?_
        · rw [hG]; exact hp
        · rw [hG] at z; cases z
        · rw [hG]; rfl
