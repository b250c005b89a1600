/-! idle and cut of the reference -/
theorem fin_eq2 {μ ν : xS} {sd n : Nat} {A : Nat × xS} {t mk rd mo tl : Nat} (h : ∀ w, 9 ≤ w → w ≤ 13 → ν w = μ w) (hf : finN μ sd n A t mk rd mo tl) : finN ν sd n A t mk rd mo tl := by
  obtain ⟨hC, hm, mc, mt, mm⟩ := hf
  refine ⟨hC, ?_, fun i hi => ?_, fun i h1 h2 => ?_, fun i h1 h2 => ⟨?_, fun c hc => ?_⟩⟩
  · rw [h 13 (by omega) (by omega)]; exact hm
  · rw [h 9 (by omega) (by omega)]; exact mc i hi
  · rw [h 10 (by omega) (by omega)]; exact mt i h1 h2
  · rw [h 11 (by omega) (by omega)]; exact (mm i h1 h2).1
  · rw [h 12 (by omega) (by omega)]; exact (mm i h1 h2).2 c hc
theorem isPg.of0 {μ ν : xS} {p n : Nat} {P : Nat → Nat → Nat} (h0 : ν 0 = μ 0) (hn : n ≤ 60) (hP : isPg (mtake μ p 5) n P) : isPg (mtake ν p 5) n P := by
  refine ⟨?_, fun s w hs hw => ?_⟩
  · have := hP.1
    rw [mtk_a, if_pos rfl, if_pos (by omega)] at this ⊢
    rw [h0]; exact this
  · have := hP.2 s w hs hw
    rw [mtk_a, if_pos rfl, if_pos (by omega)] at this ⊢
    rw [h0]; exact this
theorem msave_w {μ : xS} {sv w : Nat} (h1 : w ≠ 1) (h2 : w ≠ 2) : msave μ sv w = μ w := by
  unfold msave mput1 mshift
  split
  · rw [up2_n _ _ _ h2, ur_n _ _ h1, up2_n _ _ _ h2, ur_n _ _ h1]
  · rw [up2_n _ _ _ h2, ur_n _ _ h1]
theorem frm_up {μ ν : xS} {w j : Nat} {v : Int32} (h : frm μ ν) (hw : 4 < w) : frm μ (up2 ν w j v) := fun u hu => by
  rw [up2_n _ _ _ (by omega)]; exact h u hu
theorem kp_17 {κ : xS} {n k i : Nat} {P : Nat → Nat → Nat} {v : Int32} (h : kpS κ n P k) : kpS (up2 κ 17 (40 * k + i) v) n P k := fun q hq => by
  obtain ⟨h1, h2, h3⟩ := h q hq
  refine ⟨?_, ?_, fun j hj hj2 => ?_⟩
  · rw [up2_n _ _ _ (by omega)]; exact h1
  · rw [up2_n _ _ _ (by omega)]; exact h2
  · rw [up2_sn _ _ _ (by omega)]; exact h3 j hj hj2
theorem kp_89 {κ : xS} {n k : Nat} {P : Nat → Nat → Nat} {v u : Int32} (h : kpS κ n P k) : kpS (up2 (up2 κ 18 k v) 19 k u) n P k := fun q hq => by
  obtain ⟨h1, h2, h3⟩ := h q hq
  refine ⟨?_, ?_, fun j hj hj2 => ?_⟩
  · rw [up2_n _ _ _ (by omega), up2_sn _ _ _ (by omega)]; exact h1
  · rw [up2_sn _ _ _ (by omega), up2_n _ _ _ (by omega)]; exact h2
  · rw [up2_n _ _ _ (by omega), up2_n _ _ _ (by omega)]; exact h3 j hj hj2
def kIn (μ κ : xS) (pn n : Nat) (P : Nat → Nat → Nat) (k i : Nat) (A : Nat × xS) (t mk rd mo tl : Nat) : Prop := frm μ κ ∧ kpS κ n P k ∧ κ 18 k = nI tl ∧ κ 19 k = cutD n A ∧ finN κ pn n A t mk rd mo tl ∧ ∀ j, j < i → κ 17 (40 * k + j) = A.2 0 j
theorem kIn_s {μ κ : xS} {pn n : Nat} {P : Nat → Nat → Nat} {k i : Nat} {A : Nat × xS} {t mk rd mo tl : Nat} {v : Int32} (h : kIn μ κ pn n P k i A t mk rd mo tl) (hv : v = A.2 0 i) : kIn μ (up2 κ 17 (40 * k + i) v) pn n P k (i + 1) A t mk rd mo tl := by
  obtain ⟨h1, h2, h3, h4, h5, h6⟩ := h
  refine ⟨frm_up h1 (by omega), kp_17 h2, ?_, ?_, fin_eq2 (fun w hw hw2 => up2_n _ _ _ (by omega)) h5, fun j hj => ?_⟩
  · rw [up2_n _ _ _ (by omega)]; exact h3
  · rw [up2_n _ _ _ (by omega)]; exact h4
  · by_cases e : j = i
    · subst e; rw [up2_ss]; exact hv
    · rw [up2_sn _ _ _ (by omega)]; exact h6 j (by omega)
theorem kIn_0 {μ κ : xS} {pn n : Nat} {P : Nat → Nat → Nat} {k : Nat} {A : Nat × xS} {t mk rd mo tl : Nat} (h1 : frm μ κ) (h2 : kpS κ n P k) (h5 : finN κ pn n A t mk rd mo tl) : kIn μ (up2 (up2 κ 18 k (nI tl)) 19 k (cutD n A)) pn n P k 0 A t mk rd mo tl := by
  refine ⟨frm_up (frm_up h1 (by omega)) (by omega), kp_89 h2, ?_, ?_, fin_eq2 (fun w hw hw2 => by rw [up2_n _ _ _ (by omega), up2_n _ _ _ (by omega)]) h5, fun j hj => by omega⟩
  · rw [up2_n _ _ _ (by omega), up2_ss]
  · rw [up2_ss]
theorem kIn_e {μ κ : xS} {pn n : Nat} {P : Nat → Nat → Nat} {k i t mk rd mo tl : Nat} (h : kIn μ κ pn n P k i (runD n P (nI (k / 4)) (nI (k % 4))) t mk rd mo tl) (hi : i = if 40 < tl then 40 else tl) : kpS κ n P (k + 1) := fun q hq => by
  obtain ⟨h1, h2, h3, h4, h5, h6⟩ := h
  by_cases e : q = k
  · subst e
    have c9 := h5.1.2.2.2.2.1
    have e9 := (fin_mk h5).2.1
    refine ⟨h3.trans c9.symm, h4, fun j hj hj2 => h6 j ?_⟩
    rw [e9] at hj2
    rw [hi]
    split <;> omega
  · exact h2 q (by omega)
def idF (n : Nat) (P : Nat → Nat → Nat) : Nat → Nat → Int32
  | 0, _ => (-10009)
  | g + 1, s => if idl n P s then nI s else idF n P g (s + 1)
def idV (n : Nat) (P : Nat → Nat → Nat) : Int32 := idF n P n 0
theorem idF_t {n s : Nat} {P : Nat → Nat → Nat} (hs : s < n) (h : idl n P s) : idF n P (n - s) s = nI s := by
  have e : n - s = (n - (s + 1)) + 1 := by omega
  rw [e]
  exact if_pos h
theorem idF_f {n s : Nat} {P : Nat → Nat → Nat} (hs : s < n) (h : ¬ idl n P s) : idF n P (n - s) s = idF n P (n - (s + 1)) (s + 1) := by
  have e : n - s = (n - (s + 1)) + 1 := by omega
  rw [e]
  exact if_neg h
theorem s_X8_keeps {G : xG} {d : Nat} {f : Nat → xC} {r : Nat × Nat} {Q : Option Value → xM → Prop} {m : Nat} {μ : xS} {pn n : Nat} {P : Nat → Nat → Nat} (hpn : pn ≤ 1) (hP : isPg (mtake μ pn 5) n P) (hW : wfP n P) (hq : ∀ ν, frm μ ν → kpS ν n P 16 → Q none (mput f m ν, r)) : xMet G (d + 5) mX8_keeps [.ref m, .int (nI pn)] (mput f m μ, r) r Q := by
  refine xMet_0 (by decide +kernel) rfl (Nat.le_of_ble_eq_true rfl) ?_
  show xX G (d + 5) mX8_keeps r r (xΦ G r r Q) 0 [(0, .ref m), (1, .int (nI pn))] [] (mput f m μ, r)
  refine xr_iconst (v := nI 0) (n := 1) dX8_keeps_0 (by decide) rfl ?_
  refine xq_istore_n 2 (n := 2) dX8_keeps_1 rfl rfl rfl ?_
  simp only [xst, Nat.beq, List.filter, Bool.not_true, Bool.not_false]
  have key : ∀ k, k ≤ 16 → ∀ ν, frm μ ν → kpS ν n P k → xX G (d + 5) mX8_keeps r r (xΦ G r r Q) 2 [(0, .ref m), (1, .int (nI pn)), (2, .int (nI k))] [] (mput f m ν, r) := by
    refine nat_down (P := fun k => ∀ ν, frm μ ν → kpS ν n P k → xX G (d + 5) mX8_keeps r r (xΦ G r r Q) 2 [(0, .ref m), (1, .int (nI pn)), (2, .int (nI k))] [] (mput f m ν, r)) (N := 16) ?_ ?_
    · intro ν hfr hkp
      refine xr_iload_n (n := 3) dX8_keeps_2 rfl rfl ?_
      refine xr_bipush (v := nI 16) (n := 5) dX8_keeps_3 (by decide) rfl ?_
      refine xr_icmp_ge (tgt := 104) (n := 8) dX8_keeps_5 (by decide) rfl (fun h5 => ?_) (fun h5 => by (exfalso; ((try simp (disch := omega) only [i_lt, i_le, i_eq, nt, i_m1, Int32.toInt_zero] at *); omega)))
      refine xr_return dX8_keeps_104 rfl rfl ?_
      exact hq ν hfr hkp
    · intro k hk ih ν hfr hkp
      refine xr_iload_n (n := 3) dX8_keeps_2 rfl rfl ?_
      refine xr_bipush (v := nI 16) (n := 5) dX8_keeps_3 (by decide) rfl ?_
      refine xr_icmp_ge (tgt := 104) (n := 8) dX8_keeps_5 (by decide) rfl (fun h5 => by (exfalso; ((try simp (disch := omega) only [i_lt, i_le, i_eq, nt, i_m1, Int32.toInt_zero] at *); omega))) (fun h5 => ?_)
      refine xr_aload_n (n := 9) dX8_keeps_8 rfl rfl ?_
      refine xr_iload_n (n := 10) dX8_keeps_9 rfl rfl ?_
      refine xr_iload_n (n := 11) dX8_keeps_10 rfl rfl ?_
      refine xr_iconst (v := nI 4) (n := 12) dX8_keeps_11 (by decide) rfl ?_
      refine xr_idiv (n := 13) dX8_keeps_12 (by decide) rfl ?_
      rw [(dv4 k hk).1]
      refine xr_iload_n (n := 14) dX8_keeps_13 rfl rfl ?_
      refine xr_iconst (v := nI 4) (n := 15) dX8_keeps_14 (by decide) rfl ?_
      refine xr_irem (n := 16) dX8_keeps_15 (by decide) rfl ?_
      rw [(dv4 k hk).2]
      refine xr_callV (y2 := mX8_runsOne) (As := [_, _, _]) (n := 19) dX8_keeps_16 lm_X8_174 pm_X8_runsOne pi_X8_runsOne (by first | exact mput_0 _ _ _ | exact mput_r (by decide)) rfl rfl rfl (by simp [Value.category]) rfl ⟨Nat.le_refl _, Nat.le_refl _⟩ ?_
      refine s_X8_runsOne hpn (hP.ofr hfr hW.1.1) hW (fun ν1 t mk rd mo tl ho hN => ?_)
      have hbt := (fin_mk hN).2.2.2
      dsimp only [xK, xps]
      refine xr_aload_n (n := 20) dX8_keeps_19 rfl rfl ?_
      refine xr_get (n := 23) dX8_keeps_20 fl_X8_55 (by first | exact mput_0 _ _ _ | exact mput_r (by decide)) (by rfl) rfl ?_
      refine xr_iload_n (n := 24) dX8_keeps_23 rfl rfl ?_
      refine xr_aload_n (n := 25) dX8_keeps_24 rfl rfl ?_
      refine xr_get (n := 28) dX8_keeps_25 fl_X8_40 (by first | exact mput_0 _ _ _ | exact mput_r (by decide)) (by rfl) rfl ?_
      refine xr_bipush (v := nI 6) (n := 30) dX8_keeps_28 (by decide) rfl ?_
      refine xr_iload_n (n := 31) dX8_keeps_30 rfl rfl ?_
      refine xr_imul (n := 32) dX8_keeps_31 rfl ?_
      try simp (disch := omega) only [nI_clamp, pk_mul, nI_add, oi1, up2_a, ur_a, Nat.reduceEqDiff, Nat.reduceMul, Nat.reduceAdd, reduceIte, if_pos, if_neg]
      refine xr_iconst (v := nI 2) (n := 33) dX8_keeps_32 (by decide) rfl ?_
      refine xr_iadd (n := 34) dX8_keeps_33 rfl ?_
      try simp (disch := omega) only [nI_clamp, pk_mul, nI_add, oi1, up2_a, ur_a, Nat.reduceEqDiff, Nat.reduceMul, Nat.reduceAdd, reduceIte, if_pos, if_neg]
      refine xr_iaload (n := 35) dX8_keeps_34 (by first | exact mput_0 _ _ _ | exact mput_r (by decide)) (by first | exact vp_in_nI (by omega) (by omega)) rfl ?_
      try simp (disch := omega) only [nI_clamp, pk_mul, nI_add, oi1, up2_a, ur_a, Nat.reduceEqDiff, Nat.reduceMul, Nat.reduceAdd, reduceIte, if_pos, if_neg]
      rw [hN.2.1.2.2.1]
      refine xq_iastore (n := 36) dX8_keeps_35 (by first | exact mput_0 _ _ _ | exact mput_r (by decide)) (by first | exact vp_in_nI (by omega) (by omega)) rfl ?_
      simp (disch := omega) only [nI_clamp, List.set, mw_0, mw_1, mw_2, mw_3, mw_4, mw_5, mw_6, mw_7, mw_8, mw_9, mw_10, mw_11, mw_12, mw_13, mw_14, mw_15, mw_16, mw_17, mw_18, mw_19]
      refine xr_aload_n (n := 37) dX8_keeps_36 rfl rfl ?_
      refine xr_get (n := 40) dX8_keeps_37 fl_X8_58 (by first | exact mput_0 _ _ _ | exact mput_r (by decide)) (by rfl) rfl ?_
      refine xr_iload_n (n := 41) dX8_keeps_40 rfl rfl ?_
      refine xr_aload_n (n := 42) dX8_keeps_41 rfl rfl ?_
      refine xr_get (n := 45) dX8_keeps_42 fl_X8_40 (by first | exact mput_0 _ _ _ | exact mput_r (by decide)) (by rfl) rfl ?_
      refine xr_bipush (v := nI 6) (n := 47) dX8_keeps_45 (by decide) rfl ?_
      refine xr_iload_n (n := 48) dX8_keeps_47 rfl rfl ?_
      refine xr_imul (n := 49) dX8_keeps_48 rfl ?_
      try simp (disch := omega) only [nI_clamp, pk_mul, nI_add, oi1, up2_a, ur_a, Nat.reduceEqDiff, Nat.reduceMul, Nat.reduceAdd, reduceIte, if_pos, if_neg]
      refine xr_iconst (v := nI 1) (n := 50) dX8_keeps_49 (by decide) rfl ?_
      refine xr_iadd (n := 51) dX8_keeps_50 rfl ?_
      try simp (disch := omega) only [nI_clamp, pk_mul, nI_add, oi1, up2_a, ur_a, Nat.reduceEqDiff, Nat.reduceMul, Nat.reduceAdd, reduceIte, if_pos, if_neg]
      refine xr_iaload (n := 52) dX8_keeps_51 (by first | exact mput_0 _ _ _ | exact mput_r (by decide)) (by first | exact vp_in_nI (by omega) (by omega)) rfl ?_
      try simp (disch := omega) only [nI_clamp, pk_mul, nI_add, oi1, up2_a, ur_a, Nat.reduceEqDiff, Nat.reduceMul, Nat.reduceAdd, reduceIte, if_pos, if_neg]
      rw [hN.2.1.2.1]
      refine xq_iastore (n := 53) dX8_keeps_52 (by first | exact mput_0 _ _ _ | exact mput_r (by decide)) (by first | exact vp_in_nI (by omega) (by omega)) rfl ?_
      simp (disch := omega) only [nI_clamp, List.set, mw_0, mw_1, mw_2, mw_3, mw_4, mw_5, mw_6, mw_7, mw_8, mw_9, mw_10, mw_11, mw_12, mw_13, mw_14, mw_15, mw_16, mw_17, mw_18, mw_19]
      refine xr_iconst (v := nI 0) (n := 54) dX8_keeps_53 (by decide) rfl ?_
      refine xq_istore_n 3 (n := 55) dX8_keeps_54 rfl rfl rfl ?_
      simp only [xst, Nat.beq, List.filter, Bool.not_true, Bool.not_false]
      have hf1 : frm μ ν1 := hfr.tr (frm_tk.tr (frm_oth ho))
      have hk0 := kIn_0 (k := k) (P := P) hf1 ((hkp.cg (fun w hw => mtk_r (by omega))).cg (fun w hw => ho.1 w (Or.inr hw))) hN
      revert hk0
      have key : ∀ i, i ≤ (if 40 < tl then 40 else tl) → ∀ κ, kIn μ κ pn n P k i (runD n P (nI (k / 4)) (nI (k % 4))) t mk rd mo tl → xX G (d + 5) mX8_keeps r r (xΦ G r r Q) 55 [(0, .ref m), (1, .int (nI pn)), (2, .int (nI k)), (3, .int (nI i))] [] (mput f m κ, r) := by
        refine nat_down (P := fun i => ∀ κ, kIn μ κ pn n P k i (runD n P (nI (k / 4)) (nI (k % 4))) t mk rd mo tl → xX G (d + 5) mX8_keeps r r (xΦ G r r Q) 55 [(0, .ref m), (1, .int (nI pn)), (2, .int (nI k)), (3, .int (nI i))] [] (mput f m κ, r)) (N := (if 40 < tl then 40 else tl)) ?_ ?_
        · intro κ hI
          refine xr_iload_n (n := 56) dX8_keeps_55 rfl rfl ?_
          refine xr_bipush (v := nI 40) (n := 58) dX8_keeps_56 (by decide) rfl ?_
          refine xr_aload_n (n := 59) dX8_keeps_58 rfl rfl ?_
          refine xr_get (n := 62) dX8_keeps_59 fl_X8_55 (by first | exact mput_0 _ _ _ | exact mput_r (by decide)) (by rfl) rfl ?_
          refine xr_iload_n (n := 63) dX8_keeps_62 rfl rfl ?_
          refine xr_iaload (n := 64) dX8_keeps_63 (by first | exact mput_0 _ _ _ | exact mput_r (by decide)) (by first | exact vp_in_nI (by omega) (by omega)) rfl ?_
          try simp (disch := omega) only [nI_clamp, pk_mul, nI_add, oi1, up2_a, ur_a, Nat.reduceEqDiff, Nat.reduceMul, Nat.reduceAdd, reduceIte, if_pos, if_neg]
          try simp (disch := omega) only [nI_clamp, pk_mul, nI_add, oi1, up2_a, ur_a, Nat.reduceEqDiff, Nat.reduceMul, Nat.reduceAdd, reduceIte, if_pos, if_neg]
          rw [hI.2.2.1]
          refine xr_callS (y2 := mX8_least) (As := [_, _]) (n := 67) dX8_keeps_64 lm_X8_177 pm_X8_least kp_static_yX8_least rfl rfl (by simp [Value.category]) rfl ⟨Nat.le_refl _, Nat.le_refl _⟩ ?_
          refine s_X8_least ?_
          dsimp only [xK, xps]
          rw [ls40 (by omega)]
          refine xr_icmp_ge (tgt := 98) (n := 70) dX8_keeps_67 (by decide) rfl (fun h67 => ?_) (fun h67 => by (exact absurd (i_le _ _ |>.mpr (Int.le_refl _)) h67))
          refine xr_iinc (n := 101) dX8_keeps_98 rfl rfl (rfl) rfl ?_
          simp only [xst, Nat.beq, List.filter, Bool.not_true, Bool.not_false]
          try simp (disch := omega) only [nI_clamp, pk_mul, nI_add, oi1, up2_a, ur_a, Nat.reduceEqDiff, Nat.reduceMul, Nat.reduceAdd, reduceIte, if_pos, if_neg]
          refine xr_goto (n := 2) dX8_keeps_101 (by decide) ?_
          refine xX.drop 3 ?_
          simp only [xst, Nat.beq, List.filter, Bool.not_true, Bool.not_false]
          exact ih κ hI.1 (kIn_e hI rfl)
        · intro i hi ih2 κ hI
          refine xr_iload_n (n := 56) dX8_keeps_55 rfl rfl ?_
          refine xr_bipush (v := nI 40) (n := 58) dX8_keeps_56 (by decide) rfl ?_
          refine xr_aload_n (n := 59) dX8_keeps_58 rfl rfl ?_
          refine xr_get (n := 62) dX8_keeps_59 fl_X8_55 (by first | exact mput_0 _ _ _ | exact mput_r (by decide)) (by rfl) rfl ?_
          refine xr_iload_n (n := 63) dX8_keeps_62 rfl rfl ?_
          refine xr_iaload (n := 64) dX8_keeps_63 (by first | exact mput_0 _ _ _ | exact mput_r (by decide)) (by first | exact vp_in_nI (by omega) (by omega)) rfl ?_
          try simp (disch := omega) only [nI_clamp, pk_mul, nI_add, oi1, up2_a, ur_a, Nat.reduceEqDiff, Nat.reduceMul, Nat.reduceAdd, reduceIte, if_pos, if_neg]
          try simp (disch := omega) only [nI_clamp, pk_mul, nI_add, oi1, up2_a, ur_a, Nat.reduceEqDiff, Nat.reduceMul, Nat.reduceAdd, reduceIte, if_pos, if_neg]
          rw [hI.2.2.1]
          refine xr_callS (y2 := mX8_least) (As := [_, _]) (n := 67) dX8_keeps_64 lm_X8_177 pm_X8_least kp_static_yX8_least rfl rfl (by simp [Value.category]) rfl ⟨Nat.le_refl _, Nat.le_refl _⟩ ?_
          refine s_X8_least ?_
          dsimp only [xK, xps]
          rw [ls40 (by omega)]
          refine xr_icmp_ge (tgt := 98) (n := 70) dX8_keeps_67 (by decide) rfl (fun h67 => by (have := (i_le _ _).mp h67; rw [nt _ (by split <;> omega), nt _ (by split at hi <;> omega)] at this; omega)) (fun h67 => ?_)
          have hi40 : i < 40 := by split at hi <;> omega
          refine xr_aload_n (n := 71) dX8_keeps_70 rfl rfl ?_
          refine xr_get (n := 74) dX8_keeps_71 fl_X8_52 (by first | exact mput_0 _ _ _ | exact mput_r (by decide)) (by rfl) rfl ?_
          refine xr_bipush (v := nI 40) (n := 76) dX8_keeps_74 (by decide) rfl ?_
          refine xr_iload_n (n := 77) dX8_keeps_76 rfl rfl ?_
          refine xr_imul (n := 78) dX8_keeps_77 rfl ?_
          try simp (disch := omega) only [nI_clamp, pk_mul, nI_add, oi1, up2_a, ur_a, Nat.reduceEqDiff, Nat.reduceMul, Nat.reduceAdd, reduceIte, if_pos, if_neg]
          refine xr_iload_n (n := 79) dX8_keeps_78 rfl rfl ?_
          refine xr_iadd (n := 80) dX8_keeps_79 rfl ?_
          try simp (disch := omega) only [nI_clamp, pk_mul, nI_add, oi1, up2_a, ur_a, Nat.reduceEqDiff, Nat.reduceMul, Nat.reduceAdd, reduceIte, if_pos, if_neg]
          refine xr_aload_n (n := 81) dX8_keeps_80 rfl rfl ?_
          refine xr_get (n := 84) dX8_keeps_81 fl_X8_31 (by first | exact mput_0 _ _ _ | exact mput_r (by decide)) (by rfl) rfl ?_
          refine xr_bipush (v := nI 40) (n := 86) dX8_keeps_84 (by decide) rfl ?_
          refine xr_iload_n (n := 87) dX8_keeps_86 rfl rfl ?_
          refine xr_imul (n := 88) dX8_keeps_87 rfl ?_
          try simp (disch := omega) only [nI_clamp, pk_mul, nI_add, oi1, up2_a, ur_a, Nat.reduceEqDiff, Nat.reduceMul, Nat.reduceAdd, reduceIte, if_pos, if_neg]
          refine xr_iload_n (n := 89) dX8_keeps_88 rfl rfl ?_
          refine xr_iadd (n := 90) dX8_keeps_89 rfl ?_
          try simp (disch := omega) only [nI_clamp, pk_mul, nI_add, oi1, up2_a, ur_a, Nat.reduceEqDiff, Nat.reduceMul, Nat.reduceAdd, reduceIte, if_pos, if_neg]
          refine xr_iaload (n := 91) dX8_keeps_90 (by first | exact mput_0 _ _ _ | exact mput_r (by decide)) (by first | exact vp_in_nI (by omega) (by omega)) rfl ?_
          try simp (disch := omega) only [nI_clamp, pk_mul, nI_add, oi1, up2_a, ur_a, Nat.reduceEqDiff, Nat.reduceMul, Nat.reduceAdd, reduceIte, if_pos, if_neg]
          rw [hI.2.2.2.2.1.2.2.2.1 i (by split at hi <;> omega) (by split at hi <;> omega)]
          refine xq_iastore (n := 92) dX8_keeps_91 (by first | exact mput_0 _ _ _ | exact mput_r (by decide)) (by first | exact vp_in_nI (by omega) (by omega)) rfl ?_
          simp (disch := omega) only [nI_clamp, List.set, mw_0, mw_1, mw_2, mw_3, mw_4, mw_5, mw_6, mw_7, mw_8, mw_9, mw_10, mw_11, mw_12, mw_13, mw_14, mw_15, mw_16, mw_17, mw_18, mw_19]
          refine xr_iinc (n := 95) dX8_keeps_92 rfl rfl (rfl) rfl ?_
          simp only [xst, Nat.beq, List.filter, Bool.not_true, Bool.not_false]
          try simp (disch := omega) only [nI_clamp, pk_mul, nI_add, oi1, up2_a, ur_a, Nat.reduceEqDiff, Nat.reduceMul, Nat.reduceAdd, reduceIte, if_pos, if_neg]
          refine xr_goto (n := 55) dX8_keeps_95 (by decide) ?_
          exact ih2 _ (kIn_s hI rfl)
      intro hk0
      exact key 0 (Nat.zero_le _) _ hk0
  exact key 0 (Nat.zero_le _) μ frm.rfl (fun k hk => by omega)

abbrev iE (n n' : Nat) (A B : Nat × xS) (i : Nat) : Prop := B.2 9 0 = A.2 9 0 ∧ cutD n' B = cutD n A ∧ ∀ j, j < i → A.2 0 j = B.2 0 j
theorem iE_s {n n' : Nat} {A B : Nat × xS} {i : Nat} : iE n n' A B (i + 1) ↔ iE n n' A B i ∧ A.2 0 i = B.2 0 i := ⟨fun h => ⟨⟨h.1, h.2.1, (all_s.mp h.2.2).1⟩, (all_s.mp h.2.2).2⟩, fun h => ⟨h.1.1, h.1.2.1, all_s.mpr ⟨h.1.2.2, h.2⟩⟩⟩
theorem iE_smo {n n' : Nat} {A B : Nat × xS} {tl : Nat} (h : ix (A.2 9 0) = tl) : iE n n' A B (if 40 < tl then 40 else tl) ↔ smo n A n' B := ⟨fun q => ⟨q.1, q.2.1, fun i h1 h2 => q.2.2 i (by rw [h] at h2; split <;> omega)⟩, fun q => ⟨q.1, q.2.1, fun i hi => q.2.2 i (by split at hi <;> omega) (by rw [h]; split at hi <;> omega)⟩⟩
theorem iE_no {n n' : Nat} {A B : Nat × xS} {tl i : Nat} (h : ix (A.2 9 0) = tl) (hi : i ≤ (if 40 < tl then 40 else tl)) (q : ¬ iE n n' A B i) : ¬ smo n A n' B := fun s => q (by
  have := (iE_smo h).mpr s
  exact ⟨this.1, this.2.1, fun j hj => this.2.2 j (by omega)⟩)
abbrev idk (n : Nat) (P : Nat → Nat → Nat) (s K : Nat) : Prop := ∀ k, k < K → smo n (runD n P (nI (k / 4)) (nI (k % 4))) (n - psz P s) (runD (n - psz P s) (pcut P s) (nI (k / 4)) (nI (k % 4)))
theorem oth_kp {μ ν : xS} {sd n : Nat} {P : Nat → Nat → Nat} {K : Nat} (h : othS μ ν sd) (hk : kpS μ n P K) : kpS ν n P K := hk.cg (fun w hw => h.1 w (Or.inr hw))
theorem adD (n : Nat) (P : Nat → Nat → Nat) (a b : Int32) : ∃ q, (runD n P a b).2 9 0 = nI q ∧ q ≤ 400 := by
  have key : ∀ g s (δ : xS) (q : Nat), δ 9 0 = nI q → ∃ q', (arun n P g s δ).2 9 0 = nI q' ∧ q' ≤ q + g := by
    intro g
    induction g with
    | zero => intro s δ q h; exact ⟨q, h, Nat.le_refl _⟩
    | succ g ih =>
      intro s δ q h
      unfold arun
      split
      · have h9 : ∃ q', ainc (adata P s δ) 9 0 = nI q' ∧ q' ≤ q + 1 := by
          unfold ainc
          rw [up2_n _ _ _ (by omega)]
          unfold adata
          split
          · unfold aset; rw [up2_n _ _ _ (by omega)]; exact ⟨q, h, by omega⟩
          · split
            · unfold atell; rw [up2_ss, h]; exact ⟨q + 1, nI_add q 1, by omega⟩
            · split
              · unfold amark
                rw [up2_n _ _ _ (by omega)]
                split
                · rw [ur_n _ _ (by omega), up2_n _ _ _ (by omega)]; exact ⟨q, h, by omega⟩
                · exact ⟨q, h, by omega⟩
              · split
                · split
                  · unfold alook; rw [up2_n _ _ _ (by omega), up2_n _ _ _ (by omega), up2_n _ _ _ (by omega)]; exact ⟨q, h, by omega⟩
                  · rw [up2_n _ _ _ (by omega)]; exact ⟨q, h, by omega⟩
                · exact ⟨q, h, by omega⟩
        obtain ⟨q1, h1, h2⟩ := h9
        obtain ⟨q2, h3, h4⟩ := ih _ _ q1 h1
        exact ⟨q2, h3, by omega⟩
      · exact ⟨q, h, by omega⟩
  obtain ⟨q, h1, h2⟩ := key 400 0 (d0 a b) 0 rfl
  exact ⟨q, h1, by omega⟩
theorem s_X8_isIdle {G : xG} {d : Nat} {f : Nat → xC} {r : Nat × Nat} {Q : Option Value → xM → Prop} {m : Nat} {μ : xS} {pn n s : Nat} {P : Nat → Nat → Nat} (hpn : pn ≤ 1) (hP : isPg (mtake μ pn 5) n P) (hW : wfP n P) (hs : s < n) (hwc : wfP (n - psz P s) (pcut P s)) (hK : kpS μ n P 16) (hq : ∀ ν, frm μ ν → kpS ν n P 16 → Q (some (.int (b2i (idl n P s)))) (mput f m ν, r)) : xMet G (d + 4) mX8_isIdle [.ref m, .int (nI pn), .int (nI s)] (mput f m μ, r) r Q := by
  refine xMet_0 (by decide +kernel) rfl (Nat.le_of_ble_eq_true rfl) ?_
  show xX G (d + 4) mX8_isIdle r r (xΦ G r r Q) 0 [(0, .ref m), (1, .int (nI pn)), (2, .int (nI s))] [] (mput f m μ, r)
  refine xr_iconst (v := nI 1) (n := 1) dX8_isIdle_0 (by decide) rfl ?_
  refine xq_istore_n 3 (n := 2) dX8_isIdle_1 rfl rfl rfl ?_
  simp only [xst, Nat.beq, List.filter, Bool.not_true, Bool.not_false]
  refine xr_iconst (v := nI 0) (n := 3) dX8_isIdle_2 (by decide) rfl ?_
  refine xr_istore (n := 5) dX8_isIdle_3 rfl rfl ?_
  simp only [xst, Nat.beq, List.filter, Bool.not_true, Bool.not_false]
  have hs60 := hW.1.1
  have key : ∀ k, k ≤ 16 → ∀ ν, frm μ ν → kpS ν n P 16 → xX G (d + 4) mX8_isIdle r r (xΦ G r r Q) 5 [(0, .ref m), (1, .int (nI pn)), (2, .int (nI s)), (3, .int (b2i (idk n P s k))), (4, .int (nI k))] [] (mput f m ν, r) := by
    refine nat_down (P := fun k => ∀ ν, frm μ ν → kpS ν n P 16 → xX G (d + 4) mX8_isIdle r r (xΦ G r r Q) 5 [(0, .ref m), (1, .int (nI pn)), (2, .int (nI s)), (3, .int (b2i (idk n P s k))), (4, .int (nI k))] [] (mput f m ν, r)) (N := 16) ?_ ?_
    · intro ν hfr hkp
      refine xr_iload (n := 7) dX8_isIdle_5 rfl rfl ?_
      refine xr_bipush (v := nI 16) (n := 9) dX8_isIdle_7 (by decide) rfl ?_
      refine xr_icmp_ge (tgt := 157) (n := 12) dX8_isIdle_9 (by decide) rfl (fun h9 => ?_) (fun h9 => by (exfalso; ((try simp (disch := omega) only [i_lt, i_le, i_eq, nt, i_m1, Int32.toInt_zero] at *); omega)))
      refine xr_iload_n (n := 158) dX8_isIdle_157 rfl rfl ?_
      refine xr_ireturn dX8_isIdle_158 rfl (by first | exact b2i_nar | exact nar_1 | exact nar_0) rfl ?_
      exact hq ν hfr hkp
    · intro k hk ih ν hfr hkp
      refine xr_iload (n := 7) dX8_isIdle_5 rfl rfl ?_
      refine xr_bipush (v := nI 16) (n := 9) dX8_isIdle_7 (by decide) rfl ?_
      refine xr_icmp_ge (tgt := 157) (n := 12) dX8_isIdle_9 (by decide) rfl (fun h9 => by (exfalso; ((try simp (disch := omega) only [i_lt, i_le, i_eq, nt, i_m1, Int32.toInt_zero] at *); omega))) (fun h9 => ?_)
      refine xr_iload_n (n := 13) dX8_isIdle_12 rfl rfl ?_
      refine xr_beq (tgt := 157) (n := 16) dX8_isIdle_13 (by decide) rfl (fun h13 => ?_) (fun h13 => ?_)
      · refine xr_iload_n (n := 158) dX8_isIdle_157 rfl rfl ?_
        refine xr_ireturn dX8_isIdle_158 rfl (by first | exact b2i_nar | exact nar_1 | exact nar_0) rfl ?_
        refine qi (hq ν hfr hkp) ?_
        rw [b2i_f (fun q => h13 (fun j hj => q j (by omega))), b2i_f h13]
      · refine xr_aload_n (n := 17) dX8_isIdle_16 rfl rfl ?_
        refine xr_iload_n (n := 18) dX8_isIdle_17 rfl rfl ?_
        refine xr_callV (y2 := mX8_takes) (As := [_]) (n := 21) dX8_isIdle_18 lm_X8_121 pm_X8_takes pi_X8_takes (by first | exact mput_0 _ _ _ | exact mput_r (by decide)) rfl rfl rfl (by simp [Value.category]) rfl ⟨Nat.le_refl _, Nat.le_refl _⟩ ?_
        refine s_X8_takes hpn ?_
        dsimp only [xK, xps]
        refine xr_aload_n (n := 22) dX8_isIdle_21 rfl rfl ?_
        refine xr_iload_n (n := 23) dX8_isIdle_22 rfl rfl ?_
        refine xr_callV (y2 := mX8_cuts) (As := [_]) (n := 26) dX8_isIdle_23 lm_X8_134 pm_X8_cuts pi_X8_cuts (by first | exact mput_0 _ _ _ | exact mput_r (by decide)) rfl rfl rfl (by simp [Value.category]) rfl ⟨Nat.le_refl _, Nat.le_refl _⟩ ?_
        refine s_X8_cuts (hP.ofr hfr hs60) hW.1 hW.2.1 hs (fun ν1 h15 hP1 => ?_)
        dsimp only [xK, xps]
        refine xr_aload_n (n := 27) dX8_isIdle_26 rfl rfl ?_
        refine xr_iload_n (n := 28) dX8_isIdle_27 rfl rfl ?_
        refine xr_iload (n := 30) dX8_isIdle_28 rfl rfl ?_
        refine xr_iconst (v := nI 4) (n := 31) dX8_isIdle_30 (by decide) rfl ?_
        refine xr_idiv (n := 32) dX8_isIdle_31 (by decide) rfl ?_
        rw [(dv4 k hk).1]
        refine xr_iload (n := 34) dX8_isIdle_32 rfl rfl ?_
        refine xr_iconst (v := nI 4) (n := 35) dX8_isIdle_34 (by decide) rfl ?_
        refine xr_irem (n := 36) dX8_isIdle_35 (by decide) rfl ?_
        rw [(dv4 k hk).2]
        refine xr_callV (y2 := mX8_runs) (As := [_, _, _]) (n := 39) dX8_isIdle_36 lm_X8_168 pm_X8_runs pi_X8_runs (by first | exact mput_0 _ _ _ | exact mput_r (by decide)) rfl rfl rfl (by simp [Value.category]) rfl ⟨Nat.le_refl _, Nat.le_refl _⟩ ?_
        refine s_X8_runs hpn hP1 hwc (fun ν2 ho hf => ?_)
        obtain ⟨t, mk, rd, mo, tl, hN⟩ := fin_of hf
        have hbt := (fin_mk hN).2.2.2
        have hf1 : frm μ ν2 := hfr.tr (frm_tk.tr (frm.tr (fun w hw => h15 w (by omega)) (frm_oth ho)))
        have hkp1 : kpS ν2 n P 16 := oth_kp ho ((hkp.cg (fun w hw => mtk_r (by omega))).cg (fun w hw => h15 w (by omega)))
        dsimp only [xK, xps]
        refine xr_aload_n (n := 40) dX8_isIdle_39 rfl rfl ?_
        refine xr_get (n := 43) dX8_isIdle_40 fl_X8_40 (by first | exact mput_0 _ _ _ | exact mput_r (by decide)) (by rfl) rfl ?_
        refine xr_bipush (v := nI 6) (n := 45) dX8_isIdle_43 (by decide) rfl ?_
        refine xr_iload_n (n := 46) dX8_isIdle_45 rfl rfl ?_
        refine xr_imul (n := 47) dX8_isIdle_46 rfl ?_
        try simp (disch := omega) only [nI_clamp, pk_mul, nI_add, oi1, up2_a, ur_a, Nat.reduceEqDiff, Nat.reduceMul, Nat.reduceAdd, reduceIte, if_pos, if_neg]
        refine xr_iconst (v := nI 2) (n := 48) dX8_isIdle_47 (by decide) rfl ?_
        refine xr_iadd (n := 49) dX8_isIdle_48 rfl ?_
        try simp (disch := omega) only [nI_clamp, pk_mul, nI_add, oi1, up2_a, ur_a, Nat.reduceEqDiff, Nat.reduceMul, Nat.reduceAdd, reduceIte, if_pos, if_neg]
        refine xr_iaload (n := 50) dX8_isIdle_49 (by first | exact mput_0 _ _ _ | exact mput_r (by decide)) (by first | exact vp_in_nI (by omega) (by omega)) rfl ?_
        try simp (disch := omega) only [nI_clamp, pk_mul, nI_add, oi1, up2_a, ur_a, Nat.reduceEqDiff, Nat.reduceMul, Nat.reduceAdd, reduceIte, if_pos, if_neg]
        rw [hN.2.1.2.2.1, ← hN.1.2.2.2.2.1]
        refine xr_aload_n (n := 51) dX8_isIdle_50 rfl rfl ?_
        refine xr_get (n := 54) dX8_isIdle_51 fl_X8_55 (by first | exact mput_0 _ _ _ | exact mput_r (by decide)) (by rfl) rfl ?_
        refine xr_iload (n := 56) dX8_isIdle_54 rfl rfl ?_
        refine xr_iaload (n := 57) dX8_isIdle_56 (by first | exact mput_0 _ _ _ | exact mput_r (by decide)) (by first | exact vp_in_nI (by omega) (by omega)) rfl ?_
        try simp (disch := omega) only [nI_clamp, pk_mul, nI_add, oi1, up2_a, ur_a, Nat.reduceEqDiff, Nat.reduceMul, Nat.reduceAdd, reduceIte, if_pos, if_neg]
        obtain ⟨hk2, hk1, hk0⟩ := hkp1 k (by omega)
        rw [hk2]
        refine xr_icmp_ne (tgt := 85) (n := 60) dX8_isIdle_57 (by decide) rfl (fun h57 => ?_) (fun h57 => ?_)
        · refine xr_iconst (v := nI 0) (n := 86) dX8_isIdle_85 (by decide) rfl ?_
          refine xq_istore_n 3 (n := 87) dX8_isIdle_86 rfl rfl rfl ?_
          simp only [xst, Nat.beq, List.filter, Bool.not_true, Bool.not_false]
          refine xr_iconst (v := nI 0) (n := 88) dX8_isIdle_87 (by decide) rfl ?_
          refine xr_istore (n := 90) dX8_isIdle_88 rfl rfl ?_
          simp only [xst, Nat.beq, List.filter, Bool.not_true, Bool.not_false]
          have hE : ¬ iE n (n - psz P s) (runD n P (nI (k / 4)) (nI (k % 4))) (runD (n - psz P s) (pcut P s) (nI (k / 4)) (nI (k % 4))) 0 := fun q => h57 q.1
          have hE2 := b2i_f hE
          have c9 : (runD n P (nI (k / 4)) (nI (k % 4))).2 9 0 = nI (ix ((runD n P (nI (k / 4)) (nI (k % 4))).2 9 0)) ∧ ix ((runD n P (nI (k / 4)) (nI (k % 4))).2 9 0) ≤ 400 := by obtain ⟨q, h1, h2⟩ := adD n P (nI (k / 4)) (nI (k % 4)); rw [h1, ix_n (by omega)]; exact ⟨rfl, h2⟩
          generalize htl : ix ((runD n P (nI (k / 4)) (nI (k % 4))).2 9 0) = ta at *
          have hk3 : ν2 18 k = nI ta := hk2.trans c9.1
          have key : ∀ i, i ≤ (if 40 < ta then 40 else ta) → xX G (d + 4) mX8_isIdle r r (xΦ G r r Q) 90 [(0, .ref m), (1, .int (nI pn)), (2, .int (nI s)), (3, .int (b2i (iE n (n - psz P s) (runD n P (nI (k / 4)) (nI (k % 4))) (runD (n - psz P s) (pcut P s) (nI (k / 4)) (nI (k % 4))) i))), (4, .int (nI k)), (5, .int (nI i))] [] (mput f m ν2, r) := by
            refine nat_down (P := fun i => xX G (d + 4) mX8_isIdle r r (xΦ G r r Q) 90 [(0, .ref m), (1, .int (nI pn)), (2, .int (nI s)), (3, .int (b2i (iE n (n - psz P s) (runD n P (nI (k / 4)) (nI (k % 4))) (runD (n - psz P s) (pcut P s) (nI (k / 4)) (nI (k % 4))) i))), (4, .int (nI k)), (5, .int (nI i))] [] (mput f m ν2, r)) (N := (if 40 < ta then 40 else ta)) ?_ ?_
            · skip
              refine xr_iload (n := 92) dX8_isIdle_90 rfl rfl ?_
              refine xr_bipush (v := nI 40) (n := 94) dX8_isIdle_92 (by decide) rfl ?_
              refine xr_aload_n (n := 95) dX8_isIdle_94 rfl rfl ?_
              refine xr_get (n := 98) dX8_isIdle_95 fl_X8_55 (by first | exact mput_0 _ _ _ | exact mput_r (by decide)) (by rfl) rfl ?_
              refine xr_iload (n := 100) dX8_isIdle_98 rfl rfl ?_
              refine xr_iaload (n := 101) dX8_isIdle_100 (by first | exact mput_0 _ _ _ | exact mput_r (by decide)) (by first | exact vp_in_nI (by omega) (by omega)) rfl ?_
              try simp (disch := omega) only [nI_clamp, pk_mul, nI_add, oi1, up2_a, ur_a, Nat.reduceEqDiff, Nat.reduceMul, Nat.reduceAdd, reduceIte, if_pos, if_neg]
              try simp (disch := omega) only [nI_clamp, pk_mul, nI_add, oi1, up2_a, ur_a, Nat.reduceEqDiff, Nat.reduceMul, Nat.reduceAdd, reduceIte, if_pos, if_neg]
              rw [hk3]
              refine xr_callS (y2 := mX8_least) (As := [_, _]) (n := 104) dX8_isIdle_101 lm_X8_177 pm_X8_least kp_static_yX8_least rfl rfl (by simp [Value.category]) rfl ⟨Nat.le_refl _, Nat.le_refl _⟩ ?_
              refine s_X8_least ?_
              dsimp only [xK, xps]
              rw [ls40 c9.2]
              refine xr_icmp_ge (tgt := 151) (n := 107) dX8_isIdle_104 (by decide) rfl (fun h104 => ?_) (fun h104 => by (exact absurd (i_le _ _ |>.mpr (Int.le_refl _)) h104))
              refine xr_iinc (n := 154) dX8_isIdle_151 rfl rfl (rfl) rfl ?_
              simp only [xst, Nat.beq, List.filter, Bool.not_true, Bool.not_false]
              try simp (disch := omega) only [nI_clamp, pk_mul, nI_add, oi1, up2_a, ur_a, Nat.reduceEqDiff, Nat.reduceMul, Nat.reduceAdd, reduceIte, if_pos, if_neg]
              refine xr_goto (n := 5) dX8_isIdle_154 (by decide) ?_
              refine xX.drop 5 ?_
              simp only [xst, Nat.beq, List.filter, Bool.not_true, Bool.not_false]
              refine xX.eq rfl ?_ rfl rfl (ih ν2 hf1 hkp1)
              rw [show b2i (idk n P s (k + 1)) = b2i (iE n (n - psz P s) (runD n P (nI (k / 4)) (nI (k % 4))) (runD (n - psz P s) (pcut P s) (nI (k / 4)) (nI (k % 4))) (if 40 < ta then 40 else ta)) from b2i_iff (all_s.trans ⟨fun q => (iE_smo htl).mpr q.2, fun q => ⟨h13, (iE_smo htl).mp q⟩⟩)]
            · intro i hi ih2
              refine xr_iload (n := 92) dX8_isIdle_90 rfl rfl ?_
              refine xr_bipush (v := nI 40) (n := 94) dX8_isIdle_92 (by decide) rfl ?_
              refine xr_aload_n (n := 95) dX8_isIdle_94 rfl rfl ?_
              refine xr_get (n := 98) dX8_isIdle_95 fl_X8_55 (by first | exact mput_0 _ _ _ | exact mput_r (by decide)) (by rfl) rfl ?_
              refine xr_iload (n := 100) dX8_isIdle_98 rfl rfl ?_
              refine xr_iaload (n := 101) dX8_isIdle_100 (by first | exact mput_0 _ _ _ | exact mput_r (by decide)) (by first | exact vp_in_nI (by omega) (by omega)) rfl ?_
              try simp (disch := omega) only [nI_clamp, pk_mul, nI_add, oi1, up2_a, ur_a, Nat.reduceEqDiff, Nat.reduceMul, Nat.reduceAdd, reduceIte, if_pos, if_neg]
              try simp (disch := omega) only [nI_clamp, pk_mul, nI_add, oi1, up2_a, ur_a, Nat.reduceEqDiff, Nat.reduceMul, Nat.reduceAdd, reduceIte, if_pos, if_neg]
              rw [hk3]
              refine xr_callS (y2 := mX8_least) (As := [_, _]) (n := 104) dX8_isIdle_101 lm_X8_177 pm_X8_least kp_static_yX8_least rfl rfl (by simp [Value.category]) rfl ⟨Nat.le_refl _, Nat.le_refl _⟩ ?_
              refine s_X8_least ?_
              dsimp only [xK, xps]
              rw [ls40 c9.2]
              refine xr_icmp_ge (tgt := 151) (n := 107) dX8_isIdle_104 (by decide) rfl (fun h104 => by (have := (i_le _ _).mp h104; rw [nt _ (by split <;> omega), nt _ (by split at hi <;> omega)] at this; omega)) (fun h104 => ?_)
              refine xr_iload_n (n := 108) dX8_isIdle_107 rfl rfl ?_
              refine xr_beq (tgt := 151) (n := 111) dX8_isIdle_108 (by decide) rfl (fun h108 => ?_) (fun h108 => ?_)
              · refine xr_iinc (n := 154) dX8_isIdle_151 rfl rfl (rfl) rfl ?_
                simp only [xst, Nat.beq, List.filter, Bool.not_true, Bool.not_false]
                try simp (disch := omega) only [nI_clamp, pk_mul, nI_add, oi1, up2_a, ur_a, Nat.reduceEqDiff, Nat.reduceMul, Nat.reduceAdd, reduceIte, if_pos, if_neg]
                refine xr_goto (n := 5) dX8_isIdle_154 (by decide) ?_
                refine xX.drop 5 ?_
                simp only [xst, Nat.beq, List.filter, Bool.not_true, Bool.not_false]
                refine xX.eq rfl ?_ rfl rfl (ih ν2 hf1 hkp1)
                rw [show b2i (idk n P s (k + 1)) = b2i (iE n (n - psz P s) (runD n P (nI (k / 4)) (nI (k % 4))) (runD (n - psz P s) (pcut P s) (nI (k / 4)) (nI (k % 4))) i) from b2i_iff ⟨fun q => absurd (all_s.mp q).2 (iE_no htl (Nat.le_of_lt hi) h108), fun q => absurd q h108⟩]
              · have hi40 : i < 40 ∧ i < ta := by split at hi <;> omega
                have hib : i < tl := by (have e1 := (fin_mk hN).2.1; have e2 := h108.1; rw [e2, htl] at e1; omega)
                refine xr_aload_n (n := 112) dX8_isIdle_111 rfl rfl ?_
                refine xr_get (n := 115) dX8_isIdle_112 fl_X8_52 (by first | exact mput_0 _ _ _ | exact mput_r (by decide)) (by rfl) rfl ?_
                refine xr_bipush (v := nI 40) (n := 117) dX8_isIdle_115 (by decide) rfl ?_
                refine xr_iload (n := 119) dX8_isIdle_117 rfl rfl ?_
                refine xr_imul (n := 120) dX8_isIdle_119 rfl ?_
                try simp (disch := omega) only [nI_clamp, pk_mul, nI_add, oi1, up2_a, ur_a, Nat.reduceEqDiff, Nat.reduceMul, Nat.reduceAdd, reduceIte, if_pos, if_neg]
                refine xr_iload (n := 122) dX8_isIdle_120 rfl rfl ?_
                refine xr_iadd (n := 123) dX8_isIdle_122 rfl ?_
                try simp (disch := omega) only [nI_clamp, pk_mul, nI_add, oi1, up2_a, ur_a, Nat.reduceEqDiff, Nat.reduceMul, Nat.reduceAdd, reduceIte, if_pos, if_neg]
                refine xr_iaload (n := 124) dX8_isIdle_123 (by first | exact mput_0 _ _ _ | exact mput_r (by decide)) (by first | exact vp_in_nI (by omega) (by omega)) rfl ?_
                try simp (disch := omega) only [nI_clamp, pk_mul, nI_add, oi1, up2_a, ur_a, Nat.reduceEqDiff, Nat.reduceMul, Nat.reduceAdd, reduceIte, if_pos, if_neg]
                rw [hk0 i (by omega) (by omega)]
                refine xr_aload_n (n := 125) dX8_isIdle_124 rfl rfl ?_
                refine xr_get (n := 128) dX8_isIdle_125 fl_X8_31 (by first | exact mput_0 _ _ _ | exact mput_r (by decide)) (by rfl) rfl ?_
                refine xr_bipush (v := nI 40) (n := 130) dX8_isIdle_128 (by decide) rfl ?_
                refine xr_iload_n (n := 131) dX8_isIdle_130 rfl rfl ?_
                refine xr_imul (n := 132) dX8_isIdle_131 rfl ?_
                try simp (disch := omega) only [nI_clamp, pk_mul, nI_add, oi1, up2_a, ur_a, Nat.reduceEqDiff, Nat.reduceMul, Nat.reduceAdd, reduceIte, if_pos, if_neg]
                refine xr_iload (n := 134) dX8_isIdle_132 rfl rfl ?_
                refine xr_iadd (n := 135) dX8_isIdle_134 rfl ?_
                try simp (disch := omega) only [nI_clamp, pk_mul, nI_add, oi1, up2_a, ur_a, Nat.reduceEqDiff, Nat.reduceMul, Nat.reduceAdd, reduceIte, if_pos, if_neg]
                refine xr_iaload (n := 136) dX8_isIdle_135 (by first | exact mput_0 _ _ _ | exact mput_r (by decide)) (by first | exact vp_in_nI (by omega) (by omega)) rfl ?_
                try simp (disch := omega) only [nI_clamp, pk_mul, nI_add, oi1, up2_a, ur_a, Nat.reduceEqDiff, Nat.reduceMul, Nat.reduceAdd, reduceIte, if_pos, if_neg]
                rw [hN.2.2.2.1 i hib (by omega)]
                refine xr_icmp_ne (tgt := 143) (n := 139) dX8_isIdle_136 (by decide) rfl (fun h136 => ?_) (fun h136 => ?_)
                · refine xr_iconst (v := nI 0) (n := 144) dX8_isIdle_143 (by decide) rfl ?_
                  refine xq_istore_n 3 (n := 145) dX8_isIdle_144 rfl rfl rfl ?_
                  simp only [xst, Nat.beq, List.filter, Bool.not_true, Bool.not_false]
                  refine xr_iinc (n := 148) dX8_isIdle_145 rfl rfl (rfl) rfl ?_
                  simp only [xst, Nat.beq, List.filter, Bool.not_true, Bool.not_false]
                  try simp (disch := omega) only [nI_clamp, pk_mul, nI_add, oi1, up2_a, ur_a, Nat.reduceEqDiff, Nat.reduceMul, Nat.reduceAdd, reduceIte, if_pos, if_neg]
                  refine xr_goto (n := 90) dX8_isIdle_148 (by decide) ?_
                  refine xX.eq rfl ?_ rfl rfl ih2
                  rw [show b2i (iE n (n - psz P s) (runD n P (nI (k / 4)) (nI (k % 4))) (runD (n - psz P s) (pcut P s) (nI (k / 4)) (nI (k % 4))) (i + 1)) = nI 0 from b2i_f (fun q => h136 (iE_s.mp q).2)]
                · refine xr_iconst (v := nI 1) (n := 140) dX8_isIdle_139 (by decide) rfl ?_
                  refine xr_goto (n := 144) dX8_isIdle_140 (by decide) ?_
                  refine xq_istore_n 3 (n := 145) dX8_isIdle_144 rfl rfl rfl ?_
                  simp only [xst, Nat.beq, List.filter, Bool.not_true, Bool.not_false]
                  refine xr_iinc (n := 148) dX8_isIdle_145 rfl rfl (rfl) rfl ?_
                  simp only [xst, Nat.beq, List.filter, Bool.not_true, Bool.not_false]
                  try simp (disch := omega) only [nI_clamp, pk_mul, nI_add, oi1, up2_a, ur_a, Nat.reduceEqDiff, Nat.reduceMul, Nat.reduceAdd, reduceIte, if_pos, if_neg]
                  refine xr_goto (n := 90) dX8_isIdle_148 (by decide) ?_
                  refine xX.eq rfl ?_ rfl rfl ih2
                  rw [show b2i (iE n (n - psz P s) (runD n P (nI (k / 4)) (nI (k % 4))) (runD (n - psz P s) (pcut P s) (nI (k / 4)) (nI (k % 4))) (i + 1)) = nI 1 from b2i_t (iE_s.mpr ⟨h108, h136⟩)]
          refine xX.eq rfl ?_ rfl rfl (key 0 (Nat.zero_le _))
          rw [hE2]
        · refine xr_aload_n (n := 61) dX8_isIdle_60 rfl rfl ?_
          refine xr_get (n := 64) dX8_isIdle_61 fl_X8_40 (by first | exact mput_0 _ _ _ | exact mput_r (by decide)) (by rfl) rfl ?_
          refine xr_bipush (v := nI 6) (n := 66) dX8_isIdle_64 (by decide) rfl ?_
          refine xr_iload_n (n := 67) dX8_isIdle_66 rfl rfl ?_
          refine xr_imul (n := 68) dX8_isIdle_67 rfl ?_
          try simp (disch := omega) only [nI_clamp, pk_mul, nI_add, oi1, up2_a, ur_a, Nat.reduceEqDiff, Nat.reduceMul, Nat.reduceAdd, reduceIte, if_pos, if_neg]
          refine xr_iconst (v := nI 1) (n := 69) dX8_isIdle_68 (by decide) rfl ?_
          refine xr_iadd (n := 70) dX8_isIdle_69 rfl ?_
          try simp (disch := omega) only [nI_clamp, pk_mul, nI_add, oi1, up2_a, ur_a, Nat.reduceEqDiff, Nat.reduceMul, Nat.reduceAdd, reduceIte, if_pos, if_neg]
          refine xr_iaload (n := 71) dX8_isIdle_70 (by first | exact mput_0 _ _ _ | exact mput_r (by decide)) (by first | exact vp_in_nI (by omega) (by omega)) rfl ?_
          try simp (disch := omega) only [nI_clamp, pk_mul, nI_add, oi1, up2_a, ur_a, Nat.reduceEqDiff, Nat.reduceMul, Nat.reduceAdd, reduceIte, if_pos, if_neg]
          rw [hN.2.1.2.1]
          refine xr_aload_n (n := 72) dX8_isIdle_71 rfl rfl ?_
          refine xr_get (n := 75) dX8_isIdle_72 fl_X8_58 (by first | exact mput_0 _ _ _ | exact mput_r (by decide)) (by rfl) rfl ?_
          refine xr_iload (n := 77) dX8_isIdle_75 rfl rfl ?_
          refine xr_iaload (n := 78) dX8_isIdle_77 (by first | exact mput_0 _ _ _ | exact mput_r (by decide)) (by first | exact vp_in_nI (by omega) (by omega)) rfl ?_
          try simp (disch := omega) only [nI_clamp, pk_mul, nI_add, oi1, up2_a, ur_a, Nat.reduceEqDiff, Nat.reduceMul, Nat.reduceAdd, reduceIte, if_pos, if_neg]
          rw [hk1]
          refine xr_icmp_ne (tgt := 85) (n := 81) dX8_isIdle_78 (by decide) rfl (fun h78 => ?_) (fun h78 => ?_)
          · refine xr_iconst (v := nI 0) (n := 86) dX8_isIdle_85 (by decide) rfl ?_
            refine xq_istore_n 3 (n := 87) dX8_isIdle_86 rfl rfl rfl ?_
            simp only [xst, Nat.beq, List.filter, Bool.not_true, Bool.not_false]
            refine xr_iconst (v := nI 0) (n := 88) dX8_isIdle_87 (by decide) rfl ?_
            refine xr_istore (n := 90) dX8_isIdle_88 rfl rfl ?_
            simp only [xst, Nat.beq, List.filter, Bool.not_true, Bool.not_false]
            have hE : ¬ iE n (n - psz P s) (runD n P (nI (k / 4)) (nI (k % 4))) (runD (n - psz P s) (pcut P s) (nI (k / 4)) (nI (k % 4))) 0 := fun q => h78 q.2.1
            have hE2 := b2i_f hE
            have c9 : (runD n P (nI (k / 4)) (nI (k % 4))).2 9 0 = nI (ix ((runD n P (nI (k / 4)) (nI (k % 4))).2 9 0)) ∧ ix ((runD n P (nI (k / 4)) (nI (k % 4))).2 9 0) ≤ 400 := by obtain ⟨q, h1, h2⟩ := adD n P (nI (k / 4)) (nI (k % 4)); rw [h1, ix_n (by omega)]; exact ⟨rfl, h2⟩
            generalize htl : ix ((runD n P (nI (k / 4)) (nI (k % 4))).2 9 0) = ta at *
            have hk3 : ν2 18 k = nI ta := hk2.trans c9.1
            have key : ∀ i, i ≤ (if 40 < ta then 40 else ta) → xX G (d + 4) mX8_isIdle r r (xΦ G r r Q) 90 [(0, .ref m), (1, .int (nI pn)), (2, .int (nI s)), (3, .int (b2i (iE n (n - psz P s) (runD n P (nI (k / 4)) (nI (k % 4))) (runD (n - psz P s) (pcut P s) (nI (k / 4)) (nI (k % 4))) i))), (4, .int (nI k)), (5, .int (nI i))] [] (mput f m ν2, r) := by
              refine nat_down (P := fun i => xX G (d + 4) mX8_isIdle r r (xΦ G r r Q) 90 [(0, .ref m), (1, .int (nI pn)), (2, .int (nI s)), (3, .int (b2i (iE n (n - psz P s) (runD n P (nI (k / 4)) (nI (k % 4))) (runD (n - psz P s) (pcut P s) (nI (k / 4)) (nI (k % 4))) i))), (4, .int (nI k)), (5, .int (nI i))] [] (mput f m ν2, r)) (N := (if 40 < ta then 40 else ta)) ?_ ?_
              · skip
                refine xr_iload (n := 92) dX8_isIdle_90 rfl rfl ?_
                refine xr_bipush (v := nI 40) (n := 94) dX8_isIdle_92 (by decide) rfl ?_
                refine xr_aload_n (n := 95) dX8_isIdle_94 rfl rfl ?_
                refine xr_get (n := 98) dX8_isIdle_95 fl_X8_55 (by first | exact mput_0 _ _ _ | exact mput_r (by decide)) (by rfl) rfl ?_
                refine xr_iload (n := 100) dX8_isIdle_98 rfl rfl ?_
                refine xr_iaload (n := 101) dX8_isIdle_100 (by first | exact mput_0 _ _ _ | exact mput_r (by decide)) (by first | exact vp_in_nI (by omega) (by omega)) rfl ?_
                try simp (disch := omega) only [nI_clamp, pk_mul, nI_add, oi1, up2_a, ur_a, Nat.reduceEqDiff, Nat.reduceMul, Nat.reduceAdd, reduceIte, if_pos, if_neg]
                try simp (disch := omega) only [nI_clamp, pk_mul, nI_add, oi1, up2_a, ur_a, Nat.reduceEqDiff, Nat.reduceMul, Nat.reduceAdd, reduceIte, if_pos, if_neg]
                rw [hk3]
                refine xr_callS (y2 := mX8_least) (As := [_, _]) (n := 104) dX8_isIdle_101 lm_X8_177 pm_X8_least kp_static_yX8_least rfl rfl (by simp [Value.category]) rfl ⟨Nat.le_refl _, Nat.le_refl _⟩ ?_
                refine s_X8_least ?_
                dsimp only [xK, xps]
                rw [ls40 c9.2]
                refine xr_icmp_ge (tgt := 151) (n := 107) dX8_isIdle_104 (by decide) rfl (fun h104 => ?_) (fun h104 => by (exact absurd (i_le _ _ |>.mpr (Int.le_refl _)) h104))
                refine xr_iinc (n := 154) dX8_isIdle_151 rfl rfl (rfl) rfl ?_
                simp only [xst, Nat.beq, List.filter, Bool.not_true, Bool.not_false]
                try simp (disch := omega) only [nI_clamp, pk_mul, nI_add, oi1, up2_a, ur_a, Nat.reduceEqDiff, Nat.reduceMul, Nat.reduceAdd, reduceIte, if_pos, if_neg]
                refine xr_goto (n := 5) dX8_isIdle_154 (by decide) ?_
                refine xX.drop 5 ?_
                simp only [xst, Nat.beq, List.filter, Bool.not_true, Bool.not_false]
                refine xX.eq rfl ?_ rfl rfl (ih ν2 hf1 hkp1)
                rw [show b2i (idk n P s (k + 1)) = b2i (iE n (n - psz P s) (runD n P (nI (k / 4)) (nI (k % 4))) (runD (n - psz P s) (pcut P s) (nI (k / 4)) (nI (k % 4))) (if 40 < ta then 40 else ta)) from b2i_iff (all_s.trans ⟨fun q => (iE_smo htl).mpr q.2, fun q => ⟨h13, (iE_smo htl).mp q⟩⟩)]
              · intro i hi ih2
                refine xr_iload (n := 92) dX8_isIdle_90 rfl rfl ?_
                refine xr_bipush (v := nI 40) (n := 94) dX8_isIdle_92 (by decide) rfl ?_
                refine xr_aload_n (n := 95) dX8_isIdle_94 rfl rfl ?_
                refine xr_get (n := 98) dX8_isIdle_95 fl_X8_55 (by first | exact mput_0 _ _ _ | exact mput_r (by decide)) (by rfl) rfl ?_
                refine xr_iload (n := 100) dX8_isIdle_98 rfl rfl ?_
                refine xr_iaload (n := 101) dX8_isIdle_100 (by first | exact mput_0 _ _ _ | exact mput_r (by decide)) (by first | exact vp_in_nI (by omega) (by omega)) rfl ?_
                try simp (disch := omega) only [nI_clamp, pk_mul, nI_add, oi1, up2_a, ur_a, Nat.reduceEqDiff, Nat.reduceMul, Nat.reduceAdd, reduceIte, if_pos, if_neg]
                try simp (disch := omega) only [nI_clamp, pk_mul, nI_add, oi1, up2_a, ur_a, Nat.reduceEqDiff, Nat.reduceMul, Nat.reduceAdd, reduceIte, if_pos, if_neg]
                rw [hk3]
                refine xr_callS (y2 := mX8_least) (As := [_, _]) (n := 104) dX8_isIdle_101 lm_X8_177 pm_X8_least kp_static_yX8_least rfl rfl (by simp [Value.category]) rfl ⟨Nat.le_refl _, Nat.le_refl _⟩ ?_
                refine s_X8_least ?_
                dsimp only [xK, xps]
                rw [ls40 c9.2]
                refine xr_icmp_ge (tgt := 151) (n := 107) dX8_isIdle_104 (by decide) rfl (fun h104 => by (have := (i_le _ _).mp h104; rw [nt _ (by split <;> omega), nt _ (by split at hi <;> omega)] at this; omega)) (fun h104 => ?_)
                refine xr_iload_n (n := 108) dX8_isIdle_107 rfl rfl ?_
                refine xr_beq (tgt := 151) (n := 111) dX8_isIdle_108 (by decide) rfl (fun h108 => ?_) (fun h108 => ?_)
                · refine xr_iinc (n := 154) dX8_isIdle_151 rfl rfl (rfl) rfl ?_
                  simp only [xst, Nat.beq, List.filter, Bool.not_true, Bool.not_false]
                  try simp (disch := omega) only [nI_clamp, pk_mul, nI_add, oi1, up2_a, ur_a, Nat.reduceEqDiff, Nat.reduceMul, Nat.reduceAdd, reduceIte, if_pos, if_neg]
                  refine xr_goto (n := 5) dX8_isIdle_154 (by decide) ?_
                  refine xX.drop 5 ?_
                  simp only [xst, Nat.beq, List.filter, Bool.not_true, Bool.not_false]
                  refine xX.eq rfl ?_ rfl rfl (ih ν2 hf1 hkp1)
                  rw [show b2i (idk n P s (k + 1)) = b2i (iE n (n - psz P s) (runD n P (nI (k / 4)) (nI (k % 4))) (runD (n - psz P s) (pcut P s) (nI (k / 4)) (nI (k % 4))) i) from b2i_iff ⟨fun q => absurd (all_s.mp q).2 (iE_no htl (Nat.le_of_lt hi) h108), fun q => absurd q h108⟩]
                · have hi40 : i < 40 ∧ i < ta := by split at hi <;> omega
                  have hib : i < tl := by (have e1 := (fin_mk hN).2.1; have e2 := h108.1; rw [e2, htl] at e1; omega)
                  refine xr_aload_n (n := 112) dX8_isIdle_111 rfl rfl ?_
                  refine xr_get (n := 115) dX8_isIdle_112 fl_X8_52 (by first | exact mput_0 _ _ _ | exact mput_r (by decide)) (by rfl) rfl ?_
                  refine xr_bipush (v := nI 40) (n := 117) dX8_isIdle_115 (by decide) rfl ?_
                  refine xr_iload (n := 119) dX8_isIdle_117 rfl rfl ?_
                  refine xr_imul (n := 120) dX8_isIdle_119 rfl ?_
                  try simp (disch := omega) only [nI_clamp, pk_mul, nI_add, oi1, up2_a, ur_a, Nat.reduceEqDiff, Nat.reduceMul, Nat.reduceAdd, reduceIte, if_pos, if_neg]
                  refine xr_iload (n := 122) dX8_isIdle_120 rfl rfl ?_
                  refine xr_iadd (n := 123) dX8_isIdle_122 rfl ?_
                  try simp (disch := omega) only [nI_clamp, pk_mul, nI_add, oi1, up2_a, ur_a, Nat.reduceEqDiff, Nat.reduceMul, Nat.reduceAdd, reduceIte, if_pos, if_neg]
                  refine xr_iaload (n := 124) dX8_isIdle_123 (by first | exact mput_0 _ _ _ | exact mput_r (by decide)) (by first | exact vp_in_nI (by omega) (by omega)) rfl ?_
                  try simp (disch := omega) only [nI_clamp, pk_mul, nI_add, oi1, up2_a, ur_a, Nat.reduceEqDiff, Nat.reduceMul, Nat.reduceAdd, reduceIte, if_pos, if_neg]
                  rw [hk0 i (by omega) (by omega)]
                  refine xr_aload_n (n := 125) dX8_isIdle_124 rfl rfl ?_
                  refine xr_get (n := 128) dX8_isIdle_125 fl_X8_31 (by first | exact mput_0 _ _ _ | exact mput_r (by decide)) (by rfl) rfl ?_
                  refine xr_bipush (v := nI 40) (n := 130) dX8_isIdle_128 (by decide) rfl ?_
                  refine xr_iload_n (n := 131) dX8_isIdle_130 rfl rfl ?_
                  refine xr_imul (n := 132) dX8_isIdle_131 rfl ?_
                  try simp (disch := omega) only [nI_clamp, pk_mul, nI_add, oi1, up2_a, ur_a, Nat.reduceEqDiff, Nat.reduceMul, Nat.reduceAdd, reduceIte, if_pos, if_neg]
                  refine xr_iload (n := 134) dX8_isIdle_132 rfl rfl ?_
                  refine xr_iadd (n := 135) dX8_isIdle_134 rfl ?_
                  try simp (disch := omega) only [nI_clamp, pk_mul, nI_add, oi1, up2_a, ur_a, Nat.reduceEqDiff, Nat.reduceMul, Nat.reduceAdd, reduceIte, if_pos, if_neg]
                  refine xr_iaload (n := 136) dX8_isIdle_135 (by first | exact mput_0 _ _ _ | exact mput_r (by decide)) (by first | exact vp_in_nI (by omega) (by omega)) rfl ?_
                  try simp (disch := omega) only [nI_clamp, pk_mul, nI_add, oi1, up2_a, ur_a, Nat.reduceEqDiff, Nat.reduceMul, Nat.reduceAdd, reduceIte, if_pos, if_neg]
                  rw [hN.2.2.2.1 i hib (by omega)]
                  refine xr_icmp_ne (tgt := 143) (n := 139) dX8_isIdle_136 (by decide) rfl (fun h136 => ?_) (fun h136 => ?_)
                  · refine xr_iconst (v := nI 0) (n := 144) dX8_isIdle_143 (by decide) rfl ?_
                    refine xq_istore_n 3 (n := 145) dX8_isIdle_144 rfl rfl rfl ?_
                    simp only [xst, Nat.beq, List.filter, Bool.not_true, Bool.not_false]
                    refine xr_iinc (n := 148) dX8_isIdle_145 rfl rfl (rfl) rfl ?_
                    simp only [xst, Nat.beq, List.filter, Bool.not_true, Bool.not_false]
                    try simp (disch := omega) only [nI_clamp, pk_mul, nI_add, oi1, up2_a, ur_a, Nat.reduceEqDiff, Nat.reduceMul, Nat.reduceAdd, reduceIte, if_pos, if_neg]
                    refine xr_goto (n := 90) dX8_isIdle_148 (by decide) ?_
                    refine xX.eq rfl ?_ rfl rfl ih2
                    rw [show b2i (iE n (n - psz P s) (runD n P (nI (k / 4)) (nI (k % 4))) (runD (n - psz P s) (pcut P s) (nI (k / 4)) (nI (k % 4))) (i + 1)) = nI 0 from b2i_f (fun q => h136 (iE_s.mp q).2)]
                  · refine xr_iconst (v := nI 1) (n := 140) dX8_isIdle_139 (by decide) rfl ?_
                    refine xr_goto (n := 144) dX8_isIdle_140 (by decide) ?_
                    refine xq_istore_n 3 (n := 145) dX8_isIdle_144 rfl rfl rfl ?_
                    simp only [xst, Nat.beq, List.filter, Bool.not_true, Bool.not_false]
                    refine xr_iinc (n := 148) dX8_isIdle_145 rfl rfl (rfl) rfl ?_
                    simp only [xst, Nat.beq, List.filter, Bool.not_true, Bool.not_false]
                    try simp (disch := omega) only [nI_clamp, pk_mul, nI_add, oi1, up2_a, ur_a, Nat.reduceEqDiff, Nat.reduceMul, Nat.reduceAdd, reduceIte, if_pos, if_neg]
                    refine xr_goto (n := 90) dX8_isIdle_148 (by decide) ?_
                    refine xX.eq rfl ?_ rfl rfl ih2
                    rw [show b2i (iE n (n - psz P s) (runD n P (nI (k / 4)) (nI (k % 4))) (runD (n - psz P s) (pcut P s) (nI (k / 4)) (nI (k % 4))) (i + 1)) = nI 1 from b2i_t (iE_s.mpr ⟨h108, h136⟩)]
            refine xX.eq rfl ?_ rfl rfl (key 0 (Nat.zero_le _))
            rw [hE2]
          · refine xr_iconst (v := nI 1) (n := 82) dX8_isIdle_81 (by decide) rfl ?_
            refine xr_goto (n := 86) dX8_isIdle_82 (by decide) ?_
            refine xq_istore_n 3 (n := 87) dX8_isIdle_86 rfl rfl rfl ?_
            simp only [xst, Nat.beq, List.filter, Bool.not_true, Bool.not_false]
            refine xr_iconst (v := nI 0) (n := 88) dX8_isIdle_87 (by decide) rfl ?_
            refine xr_istore (n := 90) dX8_isIdle_88 rfl rfl ?_
            simp only [xst, Nat.beq, List.filter, Bool.not_true, Bool.not_false]
            have hE : iE n (n - psz P s) (runD n P (nI (k / 4)) (nI (k % 4))) (runD (n - psz P s) (pcut P s) (nI (k / 4)) (nI (k % 4))) 0 := ⟨h57, h78, fun j hj => by omega⟩
            have hE2 := b2i_t hE
            have c9 : (runD n P (nI (k / 4)) (nI (k % 4))).2 9 0 = nI (ix ((runD n P (nI (k / 4)) (nI (k % 4))).2 9 0)) ∧ ix ((runD n P (nI (k / 4)) (nI (k % 4))).2 9 0) ≤ 400 := by obtain ⟨q, h1, h2⟩ := adD n P (nI (k / 4)) (nI (k % 4)); rw [h1, ix_n (by omega)]; exact ⟨rfl, h2⟩
            generalize htl : ix ((runD n P (nI (k / 4)) (nI (k % 4))).2 9 0) = ta at *
            have hk3 : ν2 18 k = nI ta := hk2.trans c9.1
            have key : ∀ i, i ≤ (if 40 < ta then 40 else ta) → xX G (d + 4) mX8_isIdle r r (xΦ G r r Q) 90 [(0, .ref m), (1, .int (nI pn)), (2, .int (nI s)), (3, .int (b2i (iE n (n - psz P s) (runD n P (nI (k / 4)) (nI (k % 4))) (runD (n - psz P s) (pcut P s) (nI (k / 4)) (nI (k % 4))) i))), (4, .int (nI k)), (5, .int (nI i))] [] (mput f m ν2, r) := by
              refine nat_down (P := fun i => xX G (d + 4) mX8_isIdle r r (xΦ G r r Q) 90 [(0, .ref m), (1, .int (nI pn)), (2, .int (nI s)), (3, .int (b2i (iE n (n - psz P s) (runD n P (nI (k / 4)) (nI (k % 4))) (runD (n - psz P s) (pcut P s) (nI (k / 4)) (nI (k % 4))) i))), (4, .int (nI k)), (5, .int (nI i))] [] (mput f m ν2, r)) (N := (if 40 < ta then 40 else ta)) ?_ ?_
              · skip
                refine xr_iload (n := 92) dX8_isIdle_90 rfl rfl ?_
                refine xr_bipush (v := nI 40) (n := 94) dX8_isIdle_92 (by decide) rfl ?_
                refine xr_aload_n (n := 95) dX8_isIdle_94 rfl rfl ?_
                refine xr_get (n := 98) dX8_isIdle_95 fl_X8_55 (by first | exact mput_0 _ _ _ | exact mput_r (by decide)) (by rfl) rfl ?_
                refine xr_iload (n := 100) dX8_isIdle_98 rfl rfl ?_
                refine xr_iaload (n := 101) dX8_isIdle_100 (by first | exact mput_0 _ _ _ | exact mput_r (by decide)) (by first | exact vp_in_nI (by omega) (by omega)) rfl ?_
                try simp (disch := omega) only [nI_clamp, pk_mul, nI_add, oi1, up2_a, ur_a, Nat.reduceEqDiff, Nat.reduceMul, Nat.reduceAdd, reduceIte, if_pos, if_neg]
                try simp (disch := omega) only [nI_clamp, pk_mul, nI_add, oi1, up2_a, ur_a, Nat.reduceEqDiff, Nat.reduceMul, Nat.reduceAdd, reduceIte, if_pos, if_neg]
                rw [hk3]
                refine xr_callS (y2 := mX8_least) (As := [_, _]) (n := 104) dX8_isIdle_101 lm_X8_177 pm_X8_least kp_static_yX8_least rfl rfl (by simp [Value.category]) rfl ⟨Nat.le_refl _, Nat.le_refl _⟩ ?_
                refine s_X8_least ?_
                dsimp only [xK, xps]
                rw [ls40 c9.2]
                refine xr_icmp_ge (tgt := 151) (n := 107) dX8_isIdle_104 (by decide) rfl (fun h104 => ?_) (fun h104 => by (exact absurd (i_le _ _ |>.mpr (Int.le_refl _)) h104))
                refine xr_iinc (n := 154) dX8_isIdle_151 rfl rfl (rfl) rfl ?_
                simp only [xst, Nat.beq, List.filter, Bool.not_true, Bool.not_false]
                try simp (disch := omega) only [nI_clamp, pk_mul, nI_add, oi1, up2_a, ur_a, Nat.reduceEqDiff, Nat.reduceMul, Nat.reduceAdd, reduceIte, if_pos, if_neg]
                refine xr_goto (n := 5) dX8_isIdle_154 (by decide) ?_
                refine xX.drop 5 ?_
                simp only [xst, Nat.beq, List.filter, Bool.not_true, Bool.not_false]
                refine xX.eq rfl ?_ rfl rfl (ih ν2 hf1 hkp1)
                rw [show b2i (idk n P s (k + 1)) = b2i (iE n (n - psz P s) (runD n P (nI (k / 4)) (nI (k % 4))) (runD (n - psz P s) (pcut P s) (nI (k / 4)) (nI (k % 4))) (if 40 < ta then 40 else ta)) from b2i_iff (all_s.trans ⟨fun q => (iE_smo htl).mpr q.2, fun q => ⟨h13, (iE_smo htl).mp q⟩⟩)]
              · intro i hi ih2
                refine xr_iload (n := 92) dX8_isIdle_90 rfl rfl ?_
                refine xr_bipush (v := nI 40) (n := 94) dX8_isIdle_92 (by decide) rfl ?_
                refine xr_aload_n (n := 95) dX8_isIdle_94 rfl rfl ?_
                refine xr_get (n := 98) dX8_isIdle_95 fl_X8_55 (by first | exact mput_0 _ _ _ | exact mput_r (by decide)) (by rfl) rfl ?_
                refine xr_iload (n := 100) dX8_isIdle_98 rfl rfl ?_
                refine xr_iaload (n := 101) dX8_isIdle_100 (by first | exact mput_0 _ _ _ | exact mput_r (by decide)) (by first | exact vp_in_nI (by omega) (by omega)) rfl ?_
                try simp (disch := omega) only [nI_clamp, pk_mul, nI_add, oi1, up2_a, ur_a, Nat.reduceEqDiff, Nat.reduceMul, Nat.reduceAdd, reduceIte, if_pos, if_neg]
                try simp (disch := omega) only [nI_clamp, pk_mul, nI_add, oi1, up2_a, ur_a, Nat.reduceEqDiff, Nat.reduceMul, Nat.reduceAdd, reduceIte, if_pos, if_neg]
                rw [hk3]
                refine xr_callS (y2 := mX8_least) (As := [_, _]) (n := 104) dX8_isIdle_101 lm_X8_177 pm_X8_least kp_static_yX8_least rfl rfl (by simp [Value.category]) rfl ⟨Nat.le_refl _, Nat.le_refl _⟩ ?_
                refine s_X8_least ?_
                dsimp only [xK, xps]
                rw [ls40 c9.2]
                refine xr_icmp_ge (tgt := 151) (n := 107) dX8_isIdle_104 (by decide) rfl (fun h104 => by (have := (i_le _ _).mp h104; rw [nt _ (by split <;> omega), nt _ (by split at hi <;> omega)] at this; omega)) (fun h104 => ?_)
                refine xr_iload_n (n := 108) dX8_isIdle_107 rfl rfl ?_
                refine xr_beq (tgt := 151) (n := 111) dX8_isIdle_108 (by decide) rfl (fun h108 => ?_) (fun h108 => ?_)
                · refine xr_iinc (n := 154) dX8_isIdle_151 rfl rfl (rfl) rfl ?_
                  simp only [xst, Nat.beq, List.filter, Bool.not_true, Bool.not_false]
                  try simp (disch := omega) only [nI_clamp, pk_mul, nI_add, oi1, up2_a, ur_a, Nat.reduceEqDiff, Nat.reduceMul, Nat.reduceAdd, reduceIte, if_pos, if_neg]
                  refine xr_goto (n := 5) dX8_isIdle_154 (by decide) ?_
                  refine xX.drop 5 ?_
                  simp only [xst, Nat.beq, List.filter, Bool.not_true, Bool.not_false]
                  refine xX.eq rfl ?_ rfl rfl (ih ν2 hf1 hkp1)
                  rw [show b2i (idk n P s (k + 1)) = b2i (iE n (n - psz P s) (runD n P (nI (k / 4)) (nI (k % 4))) (runD (n - psz P s) (pcut P s) (nI (k / 4)) (nI (k % 4))) i) from b2i_iff ⟨fun q => absurd (all_s.mp q).2 (iE_no htl (Nat.le_of_lt hi) h108), fun q => absurd q h108⟩]
                · have hi40 : i < 40 ∧ i < ta := by split at hi <;> omega
                  have hib : i < tl := by (have e1 := (fin_mk hN).2.1; have e2 := h108.1; rw [e2, htl] at e1; omega)
                  refine xr_aload_n (n := 112) dX8_isIdle_111 rfl rfl ?_
                  refine xr_get (n := 115) dX8_isIdle_112 fl_X8_52 (by first | exact mput_0 _ _ _ | exact mput_r (by decide)) (by rfl) rfl ?_
                  refine xr_bipush (v := nI 40) (n := 117) dX8_isIdle_115 (by decide) rfl ?_
                  refine xr_iload (n := 119) dX8_isIdle_117 rfl rfl ?_
                  refine xr_imul (n := 120) dX8_isIdle_119 rfl ?_
                  try simp (disch := omega) only [nI_clamp, pk_mul, nI_add, oi1, up2_a, ur_a, Nat.reduceEqDiff, Nat.reduceMul, Nat.reduceAdd, reduceIte, if_pos, if_neg]
                  refine xr_iload (n := 122) dX8_isIdle_120 rfl rfl ?_
                  refine xr_iadd (n := 123) dX8_isIdle_122 rfl ?_
                  try simp (disch := omega) only [nI_clamp, pk_mul, nI_add, oi1, up2_a, ur_a, Nat.reduceEqDiff, Nat.reduceMul, Nat.reduceAdd, reduceIte, if_pos, if_neg]
                  refine xr_iaload (n := 124) dX8_isIdle_123 (by first | exact mput_0 _ _ _ | exact mput_r (by decide)) (by first | exact vp_in_nI (by omega) (by omega)) rfl ?_
                  try simp (disch := omega) only [nI_clamp, pk_mul, nI_add, oi1, up2_a, ur_a, Nat.reduceEqDiff, Nat.reduceMul, Nat.reduceAdd, reduceIte, if_pos, if_neg]
                  rw [hk0 i (by omega) (by omega)]
                  refine xr_aload_n (n := 125) dX8_isIdle_124 rfl rfl ?_
                  refine xr_get (n := 128) dX8_isIdle_125 fl_X8_31 (by first | exact mput_0 _ _ _ | exact mput_r (by decide)) (by rfl) rfl ?_
                  refine xr_bipush (v := nI 40) (n := 130) dX8_isIdle_128 (by decide) rfl ?_
                  refine xr_iload_n (n := 131) dX8_isIdle_130 rfl rfl ?_
                  refine xr_imul (n := 132) dX8_isIdle_131 rfl ?_
                  try simp (disch := omega) only [nI_clamp, pk_mul, nI_add, oi1, up2_a, ur_a, Nat.reduceEqDiff, Nat.reduceMul, Nat.reduceAdd, reduceIte, if_pos, if_neg]
                  refine xr_iload (n := 134) dX8_isIdle_132 rfl rfl ?_
                  refine xr_iadd (n := 135) dX8_isIdle_134 rfl ?_
                  try simp (disch := omega) only [nI_clamp, pk_mul, nI_add, oi1, up2_a, ur_a, Nat.reduceEqDiff, Nat.reduceMul, Nat.reduceAdd, reduceIte, if_pos, if_neg]
                  refine xr_iaload (n := 136) dX8_isIdle_135 (by first | exact mput_0 _ _ _ | exact mput_r (by decide)) (by first | exact vp_in_nI (by omega) (by omega)) rfl ?_
                  try simp (disch := omega) only [nI_clamp, pk_mul, nI_add, oi1, up2_a, ur_a, Nat.reduceEqDiff, Nat.reduceMul, Nat.reduceAdd, reduceIte, if_pos, if_neg]
                  rw [hN.2.2.2.1 i hib (by omega)]
                  refine xr_icmp_ne (tgt := 143) (n := 139) dX8_isIdle_136 (by decide) rfl (fun h136 => ?_) (fun h136 => ?_)
                  · refine xr_iconst (v := nI 0) (n := 144) dX8_isIdle_143 (by decide) rfl ?_
                    refine xq_istore_n 3 (n := 145) dX8_isIdle_144 rfl rfl rfl ?_
                    simp only [xst, Nat.beq, List.filter, Bool.not_true, Bool.not_false]
                    refine xr_iinc (n := 148) dX8_isIdle_145 rfl rfl (rfl) rfl ?_
                    simp only [xst, Nat.beq, List.filter, Bool.not_true, Bool.not_false]
                    try simp (disch := omega) only [nI_clamp, pk_mul, nI_add, oi1, up2_a, ur_a, Nat.reduceEqDiff, Nat.reduceMul, Nat.reduceAdd, reduceIte, if_pos, if_neg]
                    refine xr_goto (n := 90) dX8_isIdle_148 (by decide) ?_
                    refine xX.eq rfl ?_ rfl rfl ih2
                    rw [show b2i (iE n (n - psz P s) (runD n P (nI (k / 4)) (nI (k % 4))) (runD (n - psz P s) (pcut P s) (nI (k / 4)) (nI (k % 4))) (i + 1)) = nI 0 from b2i_f (fun q => h136 (iE_s.mp q).2)]
                  · refine xr_iconst (v := nI 1) (n := 140) dX8_isIdle_139 (by decide) rfl ?_
                    refine xr_goto (n := 144) dX8_isIdle_140 (by decide) ?_
                    refine xq_istore_n 3 (n := 145) dX8_isIdle_144 rfl rfl rfl ?_
                    simp only [xst, Nat.beq, List.filter, Bool.not_true, Bool.not_false]
                    refine xr_iinc (n := 148) dX8_isIdle_145 rfl rfl (rfl) rfl ?_
                    simp only [xst, Nat.beq, List.filter, Bool.not_true, Bool.not_false]
                    try simp (disch := omega) only [nI_clamp, pk_mul, nI_add, oi1, up2_a, ur_a, Nat.reduceEqDiff, Nat.reduceMul, Nat.reduceAdd, reduceIte, if_pos, if_neg]
                    refine xr_goto (n := 90) dX8_isIdle_148 (by decide) ?_
                    refine xX.eq rfl ?_ rfl rfl ih2
                    rw [show b2i (iE n (n - psz P s) (runD n P (nI (k / 4)) (nI (k % 4))) (runD (n - psz P s) (pcut P s) (nI (k / 4)) (nI (k % 4))) (i + 1)) = nI 1 from b2i_t (iE_s.mpr ⟨h108, h136⟩)]
            refine xX.eq rfl ?_ rfl rfl (key 0 (Nat.zero_le _))
            rw [hE2]
  have k0 := key 0 (Nat.zero_le _) μ frm.rfl hK
  rw [b2i_t (show idk n P s 0 from fun j hj => absurd hj (Nat.not_lt_zero j))] at k0
  exact k0

theorem s_X8_idle {G : xG} {d : Nat} {f : Nat → xC} {r : Nat × Nat} {Q : Option Value → xM → Prop} {m : Nat} {μ : xS} {p : Int32} {N : Nat → Nat} {P : Nat → Nat → Nat → Nat} (hN : msP μ N P) (hwc : ∀ q, q ≤ 1 → ∀ s, s < N q → wfP (N q - psz (P q) s) (pcut (P q) s)) (hq0 : ¬ (0 ≤ p.toInt ∧ p.toInt ≤ 1) → Q (some (.int (-10001))) (mput f m μ, r)) (hq : ∀ (pn : Nat) (ν : xS), pn ≤ 1 → p = nI pn → frm μ ν → Q (some (.int (idV (N pn) (P pn)))) (mput f m ν, r)) : xMet G (d + 6) mX8_idle [.ref m, .int p] (mput f m μ, r) r Q := by
  refine xMet_0 (by decide +kernel) rfl (Nat.le_of_ble_eq_true rfl) ?_
  show xX G (d + 6) mX8_idle r r (xΦ G r r Q) 0 [(0, .ref m), (1, .int p)] [] (mput f m μ, r)
  refine xr_iload_n (n := 1) dX8_idle_0 rfl rfl ?_
  refine xr_callS (y2 := mX8_isProgram) (As := [_]) (n := 4) dX8_idle_1 lm_X8_107 pm_X8_isProgram kp_static_yX8_isProgram rfl rfl (by simp [Value.category]) rfl ⟨Nat.le_refl _, Nat.le_refl _⟩ ?_
  refine s_X8_isProgram ?_
  dsimp only [xK, xps]
  refine xr_bne (tgt := 11) (n := 7) dX8_idle_4 (by decide) rfl (fun h4 => ?_) (fun h4 => ?_)
  · obtain ⟨pn, hpn, rfl⟩ := p_of h4
    obtain ⟨hP1, hW1⟩ := hN pn hpn
    have hs60 := hW1.1.1
    refine xr_aload_n (n := 12) dX8_idle_11 rfl rfl ?_
    refine xr_iload_n (n := 13) dX8_idle_12 rfl rfl ?_
    refine xr_callV (y2 := mX8_keeps) (As := [_]) (n := 16) dX8_idle_13 lm_X8_210 pm_X8_keeps pi_X8_keeps (by first | exact mput_0 _ _ _ | exact mput_r (by decide)) rfl rfl rfl (by simp [Value.category]) rfl ⟨Nat.le_refl _, Nat.le_refl _⟩ ?_
    refine s_X8_keeps hpn hP1 hW1 (fun ν hfr hkp => ?_)
    dsimp only [xK, xps]
    refine xr_iconst (v := nI 0) (n := 17) dX8_idle_16 (by decide) rfl ?_
    refine xq_istore_n 2 (n := 18) dX8_idle_17 rfl rfl rfl ?_
    simp only [xst, Nat.beq, List.filter, Bool.not_true, Bool.not_false]
    revert hkp
    revert hfr
    revert ν
    have key : ∀ k, k ≤ N pn → ∀ ν, frm μ ν → kpS ν (N pn) (P pn) 16 → idV (N pn) (P pn) = idF (N pn) (P pn) (N pn - k) k → xX G (d + 6) mX8_idle r r (xΦ G r r Q) 18 [(0, .ref m), (1, .int (nI pn)), (2, .int (nI k))] [] (mput f m ν, r) := by
      refine nat_down (P := fun k => ∀ ν, frm μ ν → kpS ν (N pn) (P pn) 16 → idV (N pn) (P pn) = idF (N pn) (P pn) (N pn - k) k → xX G (d + 6) mX8_idle r r (xΦ G r r Q) 18 [(0, .ref m), (1, .int (nI pn)), (2, .int (nI k))] [] (mput f m ν, r)) (N := N pn) ?_ ?_
      · intro ν hfr hkp hi
        have hnn := (hP1.ofr hfr hs60).1
        rw [mtk_a, if_pos rfl, if_pos (by omega), Nat.add_zero] at hnn
        refine xr_iload_n (n := 19) dX8_idle_18 rfl rfl ?_
        refine xr_aload_n (n := 20) dX8_idle_19 rfl rfl ?_
        refine xr_get (n := 23) dX8_idle_20 fl_X8_7 (by first | exact mput_0 _ _ _ | exact mput_r (by decide)) (by rfl) rfl ?_
        refine xr_sipush (v := nI 421) (n := 26) dX8_idle_23 (by decide) rfl ?_
        refine xr_iload_n (n := 27) dX8_idle_26 rfl rfl ?_
        refine xr_imul (n := 28) dX8_idle_27 rfl ?_
        try simp (disch := omega) only [nI_clamp, pk_mul, nI_add, oi1, up2_a, ur_a, Nat.reduceEqDiff, Nat.reduceMul, Nat.reduceAdd, reduceIte, if_pos, if_neg]
        refine xr_iaload (n := 29) dX8_idle_28 (by first | exact mput_0 _ _ _ | exact mput_r (by decide)) (by first | exact vp_in_nI (by omega) (by omega)) rfl ?_
        try simp (disch := omega) only [nI_clamp, pk_mul, nI_add, oi1, up2_a, ur_a, Nat.reduceEqDiff, Nat.reduceMul, Nat.reduceAdd, reduceIte, if_pos, if_neg]
        rw [hnn]
        refine xr_icmp_ge (tgt := 49) (n := 32) dX8_idle_29 (by decide) rfl (fun h29 => ?_) (fun h29 => by (exfalso; ((try simp (disch := omega) only [i_lt, i_le, i_eq, nt, i_m1, Int32.toInt_zero] at *); omega)))
        refine xr_sipush (v := (-10009)) (n := 52) dX8_idle_49 (by decide) rfl ?_
        refine xr_ireturn dX8_idle_52 rfl rfl rfl ?_
        refine qi (hq pn ν hpn rfl hfr) (hi.trans ?_)
        rw [Nat.sub_self]
        rfl
      · intro k hk ih ν hfr hkp hi
        have hnn := (hP1.ofr hfr hs60).1
        rw [mtk_a, if_pos rfl, if_pos (by omega), Nat.add_zero] at hnn
        refine xr_iload_n (n := 19) dX8_idle_18 rfl rfl ?_
        refine xr_aload_n (n := 20) dX8_idle_19 rfl rfl ?_
        refine xr_get (n := 23) dX8_idle_20 fl_X8_7 (by first | exact mput_0 _ _ _ | exact mput_r (by decide)) (by rfl) rfl ?_
        refine xr_sipush (v := nI 421) (n := 26) dX8_idle_23 (by decide) rfl ?_
        refine xr_iload_n (n := 27) dX8_idle_26 rfl rfl ?_
        refine xr_imul (n := 28) dX8_idle_27 rfl ?_
        try simp (disch := omega) only [nI_clamp, pk_mul, nI_add, oi1, up2_a, ur_a, Nat.reduceEqDiff, Nat.reduceMul, Nat.reduceAdd, reduceIte, if_pos, if_neg]
        refine xr_iaload (n := 29) dX8_idle_28 (by first | exact mput_0 _ _ _ | exact mput_r (by decide)) (by first | exact vp_in_nI (by omega) (by omega)) rfl ?_
        try simp (disch := omega) only [nI_clamp, pk_mul, nI_add, oi1, up2_a, ur_a, Nat.reduceEqDiff, Nat.reduceMul, Nat.reduceAdd, reduceIte, if_pos, if_neg]
        rw [hnn]
        refine xr_icmp_ge (tgt := 49) (n := 32) dX8_idle_29 (by decide) rfl (fun h29 => by (exfalso; ((try simp (disch := omega) only [i_lt, i_le, i_eq, nt, i_m1, Int32.toInt_zero] at *); omega))) (fun h29 => ?_)
        refine xr_aload_n (n := 33) dX8_idle_32 rfl rfl ?_
        refine xr_iload_n (n := 34) dX8_idle_33 rfl rfl ?_
        refine xr_iload_n (n := 35) dX8_idle_34 rfl rfl ?_
        refine xr_callV (y2 := mX8_isIdle) (As := [_, _]) (n := 38) dX8_idle_35 lm_X8_213 pm_X8_isIdle pi_X8_isIdle (by first | exact mput_0 _ _ _ | exact mput_r (by decide)) rfl rfl rfl (by simp [Value.category]) rfl ⟨Nat.le_refl _, Nat.le_refl _⟩ ?_
        refine s_X8_isIdle hpn (hP1.ofr hfr hs60) hW1 hk (hwc pn hpn k hk) hkp (fun ν1 hf1 hkp1 => ?_)
        dsimp only [xK, xps]
        refine xr_beq (tgt := 43) (n := 41) dX8_idle_38 (by decide) rfl (fun h38 => ?_) (fun h38 => ?_)
        · refine xr_iinc (n := 46) dX8_idle_43 rfl rfl (rfl) rfl ?_
          simp only [xst, Nat.beq, List.filter, Bool.not_true, Bool.not_false]
          try simp (disch := omega) only [nI_clamp, pk_mul, nI_add, oi1, up2_a, ur_a, Nat.reduceEqDiff, Nat.reduceMul, Nat.reduceAdd, reduceIte, if_pos, if_neg]
          refine xr_goto (n := 18) dX8_idle_46 (by decide) ?_
          exact ih ν1 (hfr.tr hf1) hkp1 (hi.trans (idF_f hk h38))
        · refine xr_iload_n (n := 42) dX8_idle_41 rfl rfl ?_
          refine xr_ireturn dX8_idle_42 rfl rfl rfl ?_
          exact qi (hq pn ν1 hpn rfl (hfr.tr hf1)) (hi.trans (idF_t hk h38))
    intro ν hfr hkp
    exact key 0 (Nat.zero_le _) ν hfr hkp rfl
  · refine xr_sipush (v := (-10001)) (n := 10) dX8_idle_7 (by decide) rfl ?_
    refine xr_ireturn dX8_idle_10 rfl rfl rfl ?_
    exact hq0 h4

theorem s_X8_isStatement2 {G : xG} {d : Nat} {f : Nat → xC} {r : Nat × Nat} {Q : Option Value → xM → Prop} {m : Nat} {μ : xS} {p s : Int32} {N : Nat → Nat} (hN : ∀ q, q ≤ 1 → μ 0 (421 * q) = nI (N q) ∧ N q ≤ 60) (hq : Q (some (.int (b2i ((0 ≤ p.toInt ∧ p.toInt ≤ 1) ∧ (0 ≤ s.toInt ∧ s.toInt < N (ix p)))))) (mput f m μ, r)) : xMet G (d + 2) mX8_isStatement [.ref m, .int p, .int s] (mput f m μ, r) r Q := by
  refine s_X8_isStatement hN (fun h => ?_) (fun pn hpn he => ?_)
  · rw [b2i_f (fun q => h q.1)] at hq
    exact hq
  · subst he
    rw [b2i_iff (q := 0 ≤ s.toInt ∧ s.toInt < N pn) (by rw [ix_n (by omega), nt _ (by omega)]; omega)] at hq
    exact hq
theorem s_X8_cut {G : xG} {d : Nat} {f : Nat → xC} {r : Nat × Nat} {Q : Option Value → xM → Prop} {m : Nat} {μ : xS} {p s : Int32} {sv : Nat} {N : Nat → Nat} {P : Nat → Nat → Nat → Nat} (hN : msP μ N P) (hs : μ 2 0 = nI sv) (hs2 : sv ≤ 5) (hq0 : ¬ ((0 ≤ p.toInt ∧ p.toInt ≤ 1) ∧ (0 ≤ s.toInt ∧ s.toInt < N (ix p))) → Q (some (.int (-10001))) (mput f m μ, r)) (hq : ∀ (pn sn : Nat) (κ : xS), pn ≤ 1 → p = nI pn → s = nI sn → sn < N pn → (∀ i, i ≠ 5 → κ i = msave μ sv i) → isPg (κ 5) (N pn - psz (P pn) sn) (pcut (P pn) sn) → Q (some (.int (nI (N pn - psz (P pn) sn)))) (mput f m (mlay κ pn), r)) : xMet G (d + 3) mX8_cut [.ref m, .int p, .int s] (mput f m μ, r) r Q := by
  refine xMet_0 (by decide +kernel) rfl (Nat.le_of_ble_eq_true rfl) ?_
  show xX G (d + 3) mX8_cut r r (xΦ G r r Q) 0 [(0, .ref m), (1, .int p), (2, .int s)] [] (mput f m μ, r)
  refine xr_aload_n (n := 1) dX8_cut_0 rfl rfl ?_
  refine xr_iload_n (n := 2) dX8_cut_1 rfl rfl ?_
  refine xr_iload_n (n := 3) dX8_cut_2 rfl rfl ?_
  refine xr_callV (y2 := mX8_isStatement) (As := [_, _]) (n := 6) dX8_cut_3 lm_X8_131 pm_X8_isStatement pi_X8_isStatement (by first | exact mput_0 _ _ _ | exact mput_r (by decide)) rfl rfl rfl (by simp [Value.category]) rfl ⟨Nat.le_refl _, Nat.le_refl _⟩ ?_
  refine s_X8_isStatement2 (N := N) (fun q hq => ⟨by have := (hN q hq).1.1; rw [mtk_a, if_pos rfl, if_pos (by omega), Nat.add_zero] at this; exact this, (hN q hq).2.1.1⟩) ?_
  dsimp only [xK, xps]
  refine xr_bne (tgt := 13) (n := 9) dX8_cut_6 (by decide) rfl (fun h6 => ?_) (fun h6 => ?_)
  · obtain ⟨pn, hpn, rfl⟩ := p_of h6.1
    obtain ⟨sn, hsn9, rfl⟩ := k_of h6.2.1
    have hsn : sn < N pn := by (have := h6.2.2; rw [ix_n (by omega), nt _ hsn9] at this; omega)
    refine xr_aload_n (n := 14) dX8_cut_13 rfl rfl ?_
    refine xr_callV (y2 := mX8_saves) (As := []) (n := 17) dX8_cut_14 lm_X8_114 pm_X8_saves pi_X8_saves (by first | exact mput_0 _ _ _ | exact mput_r (by decide)) rfl rfl rfl (by simp [Value.category]) rfl ⟨Nat.le_refl _, Nat.le_refl _⟩ ?_
    refine s_X8_saves hs hs2 ?_
    dsimp only [xK, xps]
    refine xr_aload_n (n := 18) dX8_cut_17 rfl rfl ?_
    refine xr_iload_n (n := 19) dX8_cut_18 rfl rfl ?_
    refine xr_callV (y2 := mX8_takes) (As := [_]) (n := 22) dX8_cut_19 lm_X8_121 pm_X8_takes pi_X8_takes (by first | exact mput_0 _ _ _ | exact mput_r (by decide)) rfl rfl rfl (by simp [Value.category]) rfl ⟨Nat.le_refl _, Nat.le_refl _⟩ ?_
    refine s_X8_takes hpn ?_
    dsimp only [xK, xps]
    refine xr_aload_n (n := 23) dX8_cut_22 rfl rfl ?_
    refine xr_iload_n (n := 24) dX8_cut_23 rfl rfl ?_
    refine xr_callV (y2 := mX8_cuts) (As := [_]) (n := 27) dX8_cut_24 lm_X8_134 pm_X8_cuts pi_X8_cuts (by first | exact mput_0 _ _ _ | exact mput_r (by decide)) rfl rfl rfl (by simp [Value.category]) rfl ⟨Nat.le_refl _, Nat.le_refl _⟩ ?_
    refine s_X8_cuts ((hN pn hpn).1.of0 (msave_w (by omega) (by omega)) (hN pn hpn).2.1.1) (hN pn hpn).2.1 (hN pn hpn).2.2.1 hsn (fun κ h5 hP5 => ?_)
    dsimp only [xK, xps]
    refine xr_aload_n (n := 28) dX8_cut_27 rfl rfl ?_
    refine xr_iload_n (n := 29) dX8_cut_28 rfl rfl ?_
    refine xr_callV (y2 := mX8_lays) (As := [_]) (n := 32) dX8_cut_29 lm_X8_117 pm_X8_lays pi_X8_lays (by first | exact mput_0 _ _ _ | exact mput_r (by decide)) rfl rfl rfl (by simp [Value.category]) rfl ⟨Nat.le_refl _, Nat.le_refl _⟩ ?_
    refine s_X8_lays hpn ?_
    dsimp only [xK, xps]
    refine xr_aload_n (n := 33) dX8_cut_32 rfl rfl ?_
    refine xr_get (n := 36) dX8_cut_33 fl_X8_19 (by first | exact mput_0 _ _ _ | exact mput_r (by decide)) (by rfl) rfl ?_
    refine xr_iconst (v := nI 0) (n := 37) dX8_cut_36 (by decide) rfl ?_
    refine xr_iaload (n := 38) dX8_cut_37 (by first | exact mput_0 _ _ _ | exact mput_r (by decide)) (by first | exact vp_in_nI (by omega) (by omega)) rfl ?_
    rw [show (nI 0).toNatClampNeg = 0 from nI_clamp (by omega), show mlay κ pn 5 0 = κ 5 0 from by (unfold mlay; rw [ur_n _ _ (by omega)]), hP5.1]
    refine xr_ireturn dX8_cut_38 rfl rfl rfl ?_
    exact hq pn sn κ hpn rfl rfl hsn (fun i hi => (h5 i hi).trans (mtk_r hi)) hP5
  · refine xr_sipush (v := (-10001)) (n := 12) dX8_cut_9 (by decide) rfl ?_
    refine xr_ireturn dX8_cut_12 rfl rfl rfl ?_
    exact hq0 h6
