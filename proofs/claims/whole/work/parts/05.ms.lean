/-! READING a whole text -/
def opn (op : Nat → Nat) (kd dp k : Nat) : Nat → Nat := fun i => if 3 ≤ kd ∧ i = dp then k else op i
def pcl (P : Nat → Nat → Nat) (s fl k : Nat) : Nat → Nat → Nat := fun j u => if j = s ∧ u = fl then k else P j u
def plF (t : Nat → Int32) (n : Nat) : Nat → Nat → Nat → (Nat → Nat → Nat) → Nat → (Nat → Nat) → (Nat → Nat) → Bool × Nat × (Nat → Nat → Nat)
  | 0, a, _, P, _, _, _ => (false, a, P)
  | g + 1, a, k, P, dp, op, ph =>
    if hr t n a = nI 0 then (decide (dp = 0), (if dp = 0 then k else skp t n a), P)
    else if kdI (hr t n a) < 0 then
      (if 0 < dp ∧ hr t n a = nI (ph (dp - 1)) then plF t n g (skp t n a + 1) k (pcl P (op (dp - 1)) (if hr t n a = nI 58 then 5 else 6) k) (if hr t n a = nI 58 then dp else dp - 1) op (fun i => if i = dp - 1 then 46 else ph i)
       else (false, skp t n a, P))
    else (if (stG t n (skp t n a) (ix (kdI (hr t n a))) k dp).1 = true then plF t n g (stG t n (skp t n a) (ix (kdI (hr t n a))) k dp).2.1 (k + 1) (padd P k (stG t n (skp t n a) (ix (kdI (hr t n a))) k dp).2.2) (if 3 ≤ ix (kdI (hr t n a)) then dp + 1 else dp) (opn op (ix (kdI (hr t n a))) dp k) (opn ph (ix (kdI (hr t n a))) dp (if ix (kdI (hr t n a)) = 3 then 93 else 58))
      else (false, (stG t n (skp t n a) (ix (kdI (hr t n a))) k dp).2.1, P))
def pAll (t : Nat → Int32) (n : Nat) : Bool × Nat × (Nat → Nat → Nat) := plF t n 121 0 0 (fun _ _ => 0) 0 (fun _ => 0) (fun _ => 0)
theorem kd_of {c : Int32} (h : ¬ kdI c < 0) : ∃ k, k ≤ 4 ∧ kdI c = nI k := by
  unfold kdI at *
  split
  · exact ⟨0, by omega, rfl⟩
  · split
    · exact ⟨1, by omega, rfl⟩
    · split
      · exact ⟨2, by omega, rfl⟩
      · split
        · exact ⟨3, by omega, rfl⟩
        · split
          · exact ⟨4, by omega, rfl⟩
          · rename_i h1 h2 h3 h4 h5
            rw [if_neg h1, if_neg h2, if_neg h3, if_neg h4, if_neg h5] at h
            exact absurd (by decide +kernel) h
theorem nk_neg {k : Nat} (hk : k ≤ 4) : ¬ nI k < 0 := fun h => by
  rw [i_lt, nt _ (by omega), Int32.toInt_zero] at h
  omega
section
variable {t : Nat → Int32} {n g a k dp kd : Nat} {P : Nat → Nat → Nat} {op ph : Nat → Nat}
theorem pl_0 (h : hr t n a = nI 0) : plF t n (g + 1) a k P dp op ph = (decide (dp = 0), (if dp = 0 then k else skp t n a), P) := if_pos h
theorem pl_st (h0 : ¬ hr t n a = nI 0) (hk : kdI (hr t n a) = nI kd) (hk4 : kd ≤ 4) (hs : (stG t n (skp t n a) kd k dp).1 = true) : plF t n (g + 1) a k P dp op ph = plF t n g (stG t n (skp t n a) kd k dp).2.1 (k + 1) (padd P k (stG t n (skp t n a) kd k dp).2.2) (if 3 ≤ kd then dp + 1 else dp) (opn op kd dp k) (opn ph kd dp (if kd = 3 then 93 else 58)) := by
  rw [plF, if_neg h0, hk, if_neg (nk_neg hk4), ix_n (by omega), if_pos hs]
theorem pl_sf (h0 : ¬ hr t n a = nI 0) (hk : kdI (hr t n a) = nI kd) (hk4 : kd ≤ 4) (hs : ¬ (stG t n (skp t n a) kd k dp).1 = true) : plF t n (g + 1) a k P dp op ph = (false, (stG t n (skp t n a) kd k dp).2.1, P) := by
  unfold plF
  rw [if_neg h0, hk, if_neg (nk_neg hk4), ix_n (by omega), if_neg hs]
theorem pl_cl (h0 : ¬ hr t n a = nI 0) (hk : kdI (hr t n a) < 0) (hd : 0 < dp) (hc : hr t n a = nI (ph (dp - 1))) : plF t n (g + 1) a k P dp op ph = plF t n g (skp t n a + 1) k (pcl P (op (dp - 1)) (if hr t n a = nI 58 then 5 else 6) k) (if hr t n a = nI 58 then dp else dp - 1) op (fun i => if i = dp - 1 then 46 else ph i) := by
  rw [plF, if_neg h0, if_pos hk, if_pos ⟨hd, hc⟩]
theorem pl_no (h0 : ¬ hr t n a = nI 0) (hk : kdI (hr t n a) < 0) (hc : ¬ (0 < dp ∧ hr t n a = nI (ph (dp - 1)))) : plF t n (g + 1) a k P dp op ph = (false, skp t n a, P) := by
  rw [plF, if_neg h0, if_pos hk, if_neg hc]
end
theorem stF_b {t : Nat → Int32} {n q kd : Nat} (hq : q < n) (h : (stF t n q kd).1 = true) : (stF t n q kd).2.1 ≤ n ∧ q < (stF t n q kd).2.1 := by
  have pl : ∀ a, a ≤ n → a ≤ pas t n a (nI 59) ∧ pas t n a (nI 59) ≤ n := fun a ha => by
    refine ⟨?_, pas_le ha (nz 59 (by omega) (by omega))⟩
    have := (skp_ge t n _ a rfl).1
    unfold pas
    split <;> omega
  have p6 : ∀ a, a ≤ n → a ≤ pas t n a (nI 61) ∧ pas t n a (nI 61) ≤ n := fun a ha => by
    refine ⟨?_, pas_le ha (nz 61 (by omega) (by omega))⟩
    have := (skp_ge t n _ a rfl).1
    unfold pas
    split <;> omega
  have e5 : ∀ a z, a ≤ n → (sE5 t n a z).2.1 ≤ n ∧ a ≤ (sE5 t n a z).2.1 := fun a z ha => ⟨(pl a ha).2, (pl a ha).1⟩
  have e4 : ∀ a c u, a ≤ n → (sE4 t n a c u).1 = true → (sE4 t n a c u).2.1 ≤ n ∧ a ≤ (sE4 t n a c u).2.1 := fun a c u ha h => by
    have hs := skp_ge t n _ a rfl
    have hs2 := hs.2 ha
    unfold sE4 at *
    split
    · rename_i ho
      rw [if_pos ho] at h
      have hl := hr_lt (opc_n ho).2
      have ht := teF_b (t := t) (n := n) (a := skp t n a + 1) (by omega)
      split
      · have := e5 (teF t n (skp t n a + 1)).2.1 (seR c (ix (hr t n a)) u (teF t n (skp t n a + 1)).2.2) ht.1
        omega
      · rename_i h2; rw [if_neg h2] at h; cases h
    · have := e5 (skp t n a) (seR c 0 u 0) hs2
      omega
  have e3 : ∀ a c, a ≤ n → (sE3 t n a c).1 = true → (sE3 t n a c).2.1 ≤ n ∧ a ≤ (sE3 t n a c).2.1 := fun a c ha h => by
    have ht := teF_b (t := t) (n := n) ha
    unfold sE3 at *
    split
    · rename_i h2
      rw [if_pos h2] at h
      have := e4 _ _ _ ht.1 h
      omega
    · rename_i h2; rw [if_neg h2] at h; cases h
  have e2 : ∀ a c, a ≤ n → (sE2 t n a c).1 = true → (sE2 t n a c).2.1 ≤ n ∧ a ≤ (sE2 t n a c).2.1 := fun a c ha h => by
    have hp := p6 a ha
    unfold sE2 at *
    split
    · rename_i h2
      rw [if_pos h2] at h
      have := e3 _ _ hp.2 h
      omega
    · rename_i h2; rw [if_neg h2] at h; cases h
  unfold stF at *
  split
  · rename_i h0
    rw [if_pos h0] at h
    have hc := ceF_b (t := t) (n := n) (a := q) (by omega)
    unfold seF at *
    split
    · rename_i h2
      rw [if_pos h2] at h
      have := e2 _ _ hc.1 h
      have := hc.2.2.2 h2
      omega
    · rename_i h2; rw [if_neg h2] at h; cases h
  · rename_i h0
    rw [if_neg h0] at h
    split
    · have := pl (q + 1) (by omega)
      show pas t n (q + 1) (nI 59) ≤ n ∧ q < pas t n (q + 1) (nI 59)
      omega
    · rename_i h2
      rw [if_neg h2] at h
      have hc := ceF_b (t := t) (n := n) (a := q + 1) (by omega)
      split
      · split
        · have := pl (ceF t n (q + 1)).2.1 hc.1
          show pas t n (ceF t n (q + 1)).2.1 (nI 59) ≤ n ∧ q < pas t n (ceF t n (q + 1)).2.1 (nI 59)
          omega
        · show (ceF t n (q + 1)).2.1 ≤ n ∧ q < (ceF t n (q + 1)).2.1
          omega
      · rename_i h3; rw [if_neg h3] at h; cases h
theorem stG_t {t : Nat → Int32} {n q kd k dp : Nat} (h : (stG t n q kd k dp).1 = true) : stG t n q kd k dp = stF t n q kd ∧ ¬ ful k kd dp := by
  unfold stG at *
  by_cases hf : ful k kd dp
  · rw [if_pos hf] at h; cases h
  · exact ⟨if_neg hf, hf⟩
theorem kd_0 {c : Int32} (h : kdI c = nI 0) : isL c := by
  unfold kdI at h
  by_cases hl : isL c
  · exact hl
  · rw [if_neg hl] at h
    split at h
    · exact absurd h (by decide +kernel)
    · split at h
      · exact absurd h (by decide +kernel)
      · split at h
        · exact absurd h (by decide +kernel)
        · split at h
          · exact absurd h (by decide +kernel)
          · exact absurd h (by decide +kernel)
/-- what the loop holds -/
def rdI (μ ν : xS) (n a k : Nat) (P : Nat → Nat → Nat) (dp : Nat) (op ph : Nat → Nat) : Prop := sam8 μ ν ∧ pst ν n (skp (μ 3) n a) ∧ a ≤ n ∧ isPg (ν 5) k P ∧ k ≤ 60 ∧ dp ≤ 5 ∧ ∀ i, i < dp → ν 7 i = nI (op i) ∧ op i < k ∧ ν 8 i = nI (ph i) ∧ ph i < 2 ^ 31
theorem sam8.t8 {μ ν κ : xS} (h : sam8 μ ν) (h2 : sam8 ν κ) : sam8 μ κ := fun w h5 h6 h7 h8 => (h2 w h5 h6 h7 h8).trans (h w h5 h6 h7 h8)
theorem s_X8_readsAll_l {G : xG} {d : Nat} {f : Nat → xC} {r : Nat × Nat} {Q : Option Value → xM → Prop} {m : Nat} {μ : xS} {n : Nat} (hn : n ≤ 120) (hq : ∀ ν, sam8 μ ν → ((pAll (μ 3) n).1 = true → isPg (ν 5) (pAll (μ 3) n).2.1 (pAll (μ 3) n).2.2 ∧ (pAll (μ 3) n).2.1 ≤ 60) → ((pAll (μ 3) n).1 = false → ν 6 0 = nI (pAll (μ 3) n).2.1 ∧ (pAll (μ 3) n).2.1 ≤ n) → Q (some (.int (b2i ((pAll (μ 3) n).1 = true)))) (mput f m ν, r)) : ∀ (g a k : Nat) (P : Nat → Nat → Nat) (dp : Nat) (op ph : Nat → Nat) (ν : xS), n - a < g → rdI μ ν n a k P dp op ph → pAll (μ 3) n = plF (μ 3) n g a k P dp op ph → xX G (d + 5) mX8_readsAll r r (xΦ G r r Q) 19 [(0, .ref m), (1, .int (nI dp)), (2, .int (hr (μ 3) n a))] [] (mput f m ν, r) := by
  intro g
  induction g with
  | zero => intro a k P dp op ph ν hg; omega
  | succ g ih =>
    intro a k P dp op ph ν hg hI hR
    obtain ⟨h8, hp, ha, hP, hk, hdp, hst⟩ := id hI
    have e3 : ν 3 = μ 3 := h8 3 (by omega) (by omega) (by omega) (by omega)
    have hn0 := hP.1
    have hp6 : ν 6 0 = nI (skp (μ 3) n a) := hp.2.1
    refine xr_iload_n (n := 20) dX8_readsAll_19 rfl rfl ?_
    refine xr_if_eq (tgt := 156) (n := 23) dX8_readsAll_20 (by decide) rfl (fun h20 => ?_) (fun h20 => ?_)
    · have hz : hr (μ 3) n a = nI 0 := h20
      refine xr_iload_n (n := 157) dX8_readsAll_156 rfl rfl ?_
      refine xr_if_ne (tgt := 164) (n := 160) dX8_readsAll_157 (by decide) rfl (fun h157 => ?_) (fun h157 => ?_)
      · refine xr_iconst (v := nI 0) (n := 165) dX8_readsAll_164 (by decide) rfl ?_
        refine xr_ireturn dX8_readsAll_165 rfl (by first | exact b2i_nar | exact nar_1 | exact nar_0) rfl ?_
        have hR2 := hR.trans (pl_0 hz)
        have hp9 := hp.2.2.1
        first
          | (have hd0 : dp = 0 := by ((try simp (disch := omega) only [i_lt, i_le, i_eq, nt, i_m1, Int32.toInt_zero] at *); omega)
             rw [if_pos hd0] at hR2
             refine qi (hq ν h8 (fun z => ?_) (fun z => ?_)) ?_
             · rw [hR2]; exact ⟨hP, hk⟩
             · rw [hR2] at z; exact absurd z (by simp [hd0])
             · rw [hR2]; exact b2i_t (by simp [hd0]))
          | (have hd0 : ¬ dp = 0 := by ((try simp (disch := omega) only [i_lt, i_le, i_eq, nt, i_m1, Int32.toInt_zero] at *); omega)
             rw [if_neg hd0] at hR2
             refine qi (hq ν h8 (fun z => ?_) (fun z => ?_)) ?_
             · rw [hR2] at z; exact absurd z (by simp [hd0])
             · rw [hR2]; exact ⟨hp6, hp9⟩
             · rw [hR2]; exact b2i_f (by simp [hd0]))
      · refine xr_iconst (v := nI 1) (n := 161) dX8_readsAll_160 (by decide) rfl ?_
        refine xr_goto (n := 165) dX8_readsAll_161 (by decide) ?_
        refine xr_ireturn dX8_readsAll_165 rfl (by first | exact b2i_nar | exact nar_1 | exact nar_0) rfl ?_
        have hR2 := hR.trans (pl_0 hz)
        have hp9 := hp.2.2.1
        first
          | (have hd0 : dp = 0 := by ((try simp (disch := omega) only [i_lt, i_le, i_eq, nt, i_m1, Int32.toInt_zero] at *); omega)
             rw [if_pos hd0] at hR2
             refine qi (hq ν h8 (fun z => ?_) (fun z => ?_)) ?_
             · rw [hR2]; exact ⟨hP, hk⟩
             · rw [hR2] at z; exact absurd z (by simp [hd0])
             · rw [hR2]; exact b2i_t (by simp [hd0]))
          | (have hd0 : ¬ dp = 0 := by ((try simp (disch := omega) only [i_lt, i_le, i_eq, nt, i_m1, Int32.toInt_zero] at *); omega)
             rw [if_neg hd0] at hR2
             refine qi (hq ν h8 (fun z => ?_) (fun z => ?_)) ?_
             · rw [hR2] at z; exact absurd z (by simp [hd0])
             · rw [hR2]; exact ⟨hp6, hp9⟩
             · rw [hR2]; exact b2i_f (by simp [hd0]))
    · have h0 : ¬ hr (μ 3) n a = nI 0 := h20
      have hlt := hr_lt h0
      refine xr_iload_n (n := 24) dX8_readsAll_23 rfl rfl ?_
      refine xr_callS (y2 := mX8_kindOf) (As := [_]) (n := 27) dX8_readsAll_24 lm_X8_100 pm_X8_kindOf kp_static_yX8_kindOf rfl rfl (by simp [Value.category]) rfl ⟨Nat.le_refl _, Nat.le_refl _⟩ ?_
      refine s_X8_kindOf ?_
      dsimp only [xK, xps]
      refine xq_istore_n 3 (n := 28) dX8_readsAll_27 rfl rfl rfl ?_
      simp only [xst, Nat.beq, List.filter, Bool.not_true, Bool.not_false]
      refine xr_iload_n (n := 29) dX8_readsAll_28 rfl rfl ?_
      refine xr_if_lt (tgt := 59) (n := 32) dX8_readsAll_29 (by decide) rfl (fun h29 => ?_) (fun h29 => ?_)
      · refine xr_iload_n (n := 60) dX8_readsAll_59 rfl rfl ?_
        refine xr_if_le (tgt := 146) (n := 63) dX8_readsAll_60 (by decide) rfl (fun h60 => ?_) (fun h60 => ?_)
        · have h60a : ¬ 0 < dp := by ((try simp (disch := omega) only [i_lt, i_le, i_eq, nt, i_m1, Int32.toInt_zero] at *); omega)
          refine xr_iconst (v := nI 0) (n := 147) dX8_readsAll_146 (by decide) rfl ?_
          refine xr_ireturn dX8_readsAll_147 rfl (by first | exact b2i_nar | exact nar_1 | exact nar_0) rfl ?_
          have hR2 := hR.trans (pl_no h0 h29 (fun z => by first | exact h60a z.1 | exact h72a (z.2.trans (hst (dp - 1) (by omega)).2.2.1.symm)))
          refine qi (hq ν h8 (fun z => ?_) (fun z => ?_)) ?_
          · rw [hR2] at z; cases z
          · rw [hR2]; exact ⟨hp6, hp.2.2.1⟩
          · rw [hR2]; rfl
        · have hd0 : 0 < dp := by ((try simp (disch := omega) only [i_lt, i_le, i_eq, nt, i_m1, Int32.toInt_zero] at *); omega)
          refine xr_iload_n (n := 64) dX8_readsAll_63 rfl rfl ?_
          refine xr_aload_n (n := 65) dX8_readsAll_64 rfl rfl ?_
          refine xr_get (n := 68) dX8_readsAll_65 fl_X8_25 (by first | exact mput_0 _ _ _ | exact mput_r (by decide)) (by rfl) rfl ?_
          refine xr_iload_n (n := 69) dX8_readsAll_68 rfl rfl ?_
          refine xr_iconst (v := nI 1) (n := 70) dX8_readsAll_69 (by decide) rfl ?_
          refine xr_isub (n := 71) dX8_readsAll_70 rfl ?_
          rw [pk_sub (by omega)]
          refine xr_iaload (n := 72) dX8_readsAll_71 (by first | exact mput_0 _ _ _ | exact mput_r (by decide)) (by first | exact vp_in_nI (by omega) (by omega)) rfl ?_
          (first | (simp (disch := omega) only [nI_clamp, pk_mul, nI_add, oi1, up2_ss, up2_n, up2_sn, Nat.reduceMul, Nat.reduceAdd, Nat.add_zero, hp6, hn0]) | skip)
          refine xr_icmp_ne (tgt := 146) (n := 75) dX8_readsAll_72 (by decide) rfl (fun h72 => ?_) (fun h72 => ?_)
          · have h72a : ¬ hr (μ 3) n a = ν 8 (dp - 1) := by first | exact h72 | exact fun q => h72 q
            refine xr_iconst (v := nI 0) (n := 147) dX8_readsAll_146 (by decide) rfl ?_
            refine xr_ireturn dX8_readsAll_147 rfl (by first | exact b2i_nar | exact nar_1 | exact nar_0) rfl ?_
            have hR2 := hR.trans (pl_no h0 h29 (fun z => by first | exact h60a z.1 | exact h72a (z.2.trans (hst (dp - 1) (by omega)).2.2.1.symm)))
            refine qi (hq ν h8 (fun z => ?_) (fun z => ?_)) ?_
            · rw [hR2] at z; cases z
            · rw [hR2]; exact ⟨hp6, hp.2.2.1⟩
            · rw [hR2]; rfl
          · have h72b : hr (μ 3) n a = ν 8 (dp - 1) := by first | exact h72 | exact Decidable.not_not.mp h72
            have hc : hr (μ 3) n a = nI (ph (dp - 1)) := h72b.trans (hst (dp - 1) (by omega)).2.2.1
            have hska := (skp_ge (μ 3) n _ a rfl).1
            have hop := hst (dp - 1) (by omega)
            refine xr_aload_n (n := 76) dX8_readsAll_75 rfl rfl ?_
            refine xr_dup (n := 77) dX8_readsAll_76 rfl rfl ?_
            refine xr_get (n := 80) dX8_readsAll_77 fl_X8_72 (by first | exact mput_0 _ _ _ | exact mput_r (by decide)) (by rfl) rfl ?_
            (first | (simp (disch := omega) only [nI_clamp, pk_mul, nI_add, oi1, up2_ss, up2_n, up2_sn, Nat.reduceMul, Nat.reduceAdd, Nat.add_zero, hp6, hn0]) | skip)
            refine xr_iconst (v := nI 1) (n := 81) dX8_readsAll_80 (by decide) rfl ?_
            refine xr_iadd (n := 82) dX8_readsAll_81 rfl ?_
            (first | (simp (disch := omega) only [nI_clamp, pk_mul, nI_add, oi1, up2_ss, up2_n, up2_sn, Nat.reduceMul, Nat.reduceAdd, Nat.add_zero, hp6, hn0]) | skip)
            refine xq_put (n := 85) dX8_readsAll_82 fl_X8_72 rfl (by first | exact mput_0 _ _ _ | exact mput_r (by decide)) (by rfl) (by rfl) (by rfl) rfl ?_
            simp (disch := omega) only [nI_clamp, List.set, mw_0, mw_1, mw_2, mw_3, mw_4, mw_5, mw_6, mw_7, mw_8, mw_9, mw_10, mw_11, mw_12, mw_13, mw_14, mw_15, mw_16, mw_17, mw_18, mw_19]
            refine xr_aload_n (n := 86) dX8_readsAll_85 rfl rfl ?_
            refine xr_get (n := 89) dX8_readsAll_86 fl_X8_22 (by first | exact mput_0 _ _ _ | exact mput_r (by decide)) (by rfl) rfl ?_
            refine xr_iload_n (n := 90) dX8_readsAll_89 rfl rfl ?_
            refine xr_iconst (v := nI 1) (n := 91) dX8_readsAll_90 (by decide) rfl ?_
            refine xr_isub (n := 92) dX8_readsAll_91 rfl ?_
            rw [pk_sub (by omega)]
            refine xr_iaload (n := 93) dX8_readsAll_92 (by first | exact mput_0 _ _ _ | exact mput_r (by decide)) (by first | exact vp_in_nI (by omega) (by omega)) rfl ?_
            (first | (simp (disch := omega) only [nI_clamp, pk_mul, nI_add, oi1, up2_ss, up2_n, up2_sn, Nat.reduceMul, Nat.reduceAdd, Nat.add_zero, hp6, hn0]) | skip)
            rw [hop.1]
            refine xr_istore (n := 95) dX8_readsAll_93 rfl rfl ?_
            simp only [xst, Nat.beq, List.filter, Bool.not_true, Bool.not_false]
            refine xr_aload_n (n := 96) dX8_readsAll_95 rfl rfl ?_
            refine xr_iload (n := 98) dX8_readsAll_96 rfl rfl ?_
            refine xr_iload_n (n := 99) dX8_readsAll_98 rfl rfl ?_
            refine xr_bipush (v := nI 58) (n := 101) dX8_readsAll_99 (by decide) rfl ?_
            refine xr_icmp_ne (tgt := 108) (n := 104) dX8_readsAll_101 (by decide) rfl (fun h101 => ?_) (fun h101 => ?_)
            · have h101b : ¬ hr (μ 3) n a = nI 58 := by first | exact h101 | exact fun q => h101 q
              refine xr_bipush (v := nI 6) (n := 110) dX8_readsAll_108 (by decide) rfl ?_
              refine xr_aload_n (n := 111) dX8_readsAll_110 rfl rfl ?_
              refine xr_get (n := 114) dX8_readsAll_111 fl_X8_19 (by first | exact mput_0 _ _ _ | exact mput_r (by decide)) (by rfl) rfl ?_
              refine xr_iconst (v := nI 0) (n := 115) dX8_readsAll_114 (by decide) rfl ?_
              refine xr_iaload (n := 116) dX8_readsAll_115 (by first | exact mput_0 _ _ _ | exact mput_r (by decide)) (by first | exact vp_in_nI (by omega) (by omega)) rfl ?_
              (first | (simp (disch := omega) only [nI_clamp, pk_mul, nI_add, oi1, up2_ss, up2_n, up2_sn, Nat.reduceMul, Nat.reduceAdd, Nat.add_zero, hp6, hn0]) | skip)
              refine xr_callV (y2 := mX8_put) (As := [_, _, _]) (n := 119) dX8_readsAll_116 lm_X8_83 pm_X8_put pi_X8_put (by first | exact mput_0 _ _ _ | exact mput_r (by decide)) rfl rfl rfl (by simp [Value.category]) rfl ⟨Nat.le_refl _, Nat.le_refl _⟩ ?_
              refine s_X8_put (by omega) (by omega) ?_
              dsimp only [xK, xps]
              refine xr_aload_n (n := 120) dX8_readsAll_119 rfl rfl ?_
              refine xr_get (n := 123) dX8_readsAll_120 fl_X8_25 (by first | exact mput_0 _ _ _ | exact mput_r (by decide)) (by rfl) rfl ?_
              refine xr_iload_n (n := 124) dX8_readsAll_123 rfl rfl ?_
              refine xr_iconst (v := nI 1) (n := 125) dX8_readsAll_124 (by decide) rfl ?_
              refine xr_isub (n := 126) dX8_readsAll_125 rfl ?_
              rw [pk_sub (by omega)]
              refine xr_bipush (v := nI 46) (n := 128) dX8_readsAll_126 (by decide) rfl ?_
              refine xq_iastore (n := 129) dX8_readsAll_128 (by first | exact mput_0 _ _ _ | exact mput_r (by decide)) (by first | exact vp_in_nI (by omega) (by omega)) rfl ?_
              simp (disch := omega) only [nI_clamp, List.set, mw_0, mw_1, mw_2, mw_3, mw_4, mw_5, mw_6, mw_7, mw_8, mw_9, mw_10, mw_11, mw_12, mw_13, mw_14, mw_15, mw_16, mw_17, mw_18, mw_19]
              refine xr_iload_n (n := 130) dX8_readsAll_129 rfl rfl ?_
              refine xr_iload_n (n := 131) dX8_readsAll_130 rfl rfl ?_
              refine xr_bipush (v := nI 58) (n := 133) dX8_readsAll_131 (by decide) rfl ?_
              refine xr_icmp_ne (tgt := 140) (n := 136) dX8_readsAll_133 (by decide) rfl (fun h133 => ?_) (fun h133 => ?_)
              · refine xr_iconst (v := nI 1) (n := 141) dX8_readsAll_140 (by decide) rfl ?_
                refine xr_isub (n := 142) dX8_readsAll_141 rfl ?_
                first | rw [pk_sub (by omega)] | skip
                refine xq_istore_n 1 (n := 143) dX8_readsAll_142 rfl rfl rfl ?_
                simp only [xst, Nat.beq, List.filter, Bool.not_true, Bool.not_false]
                refine xr_goto (n := 148) dX8_readsAll_143 (by decide) ?_
                refine xr_aload_n (n := 149) dX8_readsAll_148 rfl rfl ?_
                refine xr_callV (y2 := mX8_here) (As := []) (n := 152) dX8_readsAll_149 lm_X8_75 pm_X8_here pi_X8_here (by first | exact mput_0 _ _ _ | exact mput_r (by decide)) rfl rfl rfl (by simp [Value.category]) rfl ⟨Nat.le_refl _, Nat.le_refl _⟩ ?_
                have pC : pst (up2 (up2 (up2 ν 6 0 (nI (skp (μ 3) n a + 1))) 5 (1 + 7 * op (dp - 1) + 6) (nI k)) 8 (dp - 1) (nI 46)) n (skp (μ 3) n a + 1) := ⟨by rw [up2_n _ _ _ (by omega), up2_n _ _ _ (by omega), up2_n _ _ _ (by omega)]; exact hp.1, by rw [up2_n _ _ _ (by omega), up2_n _ _ _ (by omega), up2_ss], by omega, hp.2.2.2⟩
                have eC : (up2 (up2 (up2 ν 6 0 (nI (skp (μ 3) n a + 1))) 5 (1 + 7 * op (dp - 1) + 6) (nI k)) 8 (dp - 1) (nI 46)) 3 = μ 3 := by rw [up2_n _ _ _ (by omega), up2_n _ _ _ (by omega), up2_n _ _ _ (by omega)]; exact e3
                refine s_X8_here pC ?_
                rw [eC, show ch (μ 3) n (skp (μ 3) n (skp (μ 3) n a + 1)) = hr (μ 3) n (skp (μ 3) n a + 1) from rfl]
                dsimp only [xK, xps]
                refine xq_istore_n 2 (n := 153) dX8_readsAll_152 rfl rfl rfl ?_
                simp only [xst, Nat.beq, List.filter, Bool.not_true, Bool.not_false]
                refine xr_goto (n := 19) dX8_readsAll_153 (by decide) ?_
                refine xX.drop 3 ?_
                simp only [xst, Nat.beq, List.filter, Bool.not_true, Bool.not_false]
                refine xX.drop 4 ?_
                simp only [xst, Nat.beq, List.filter, Bool.not_true, Bool.not_false]
                have hR2 := hR.trans (pl_cl h0 h29 hd0 hc)
                rw [if_neg h101b, if_neg h101b] at hR2
                have hso := hst (dp - 1) (by omega)
                refine ih _ _ _ _ _ _ _ (by omega) ⟨?_, ?_, by omega, ?_, hk, by omega, ?_⟩ hR2
                · exact fun w h5 h6 h7 h8w => by rw [up2_n _ _ _ h6, up2_n _ _ _ h8w, up2_n _ _ _ h5, up2_n _ _ _ h6]; exact h8 w h5 h6 h7 h8w
                · have hz := skp_pst pC; rw [eC] at hz; exact hz
                · rw [up2_n _ _ _ (by omega), up2_n _ _ _ (by omega), up2_s, up2_n _ _ _ (by omega)]
                  exact (hP.up (s := op (dp - 1)) (w := 6) (v := k) (by omega)).congr (fun j w hj hw => rfl)
                · intro i hi
                  rw [up2_n _ _ _ (by omega), up2_n _ _ _ (by omega), up2_n _ _ _ (by omega), up2_n _ _ _ (by omega), up2_n _ _ _ (by omega), up2_s, up2_n _ _ _ (by omega), up2_n _ _ _ (by omega)]
                  have e : ¬ i = dp - 1 := by omega
                  have := hst i (by omega)
                  unfold upd
                  rw [if_neg e, if_neg e]
                  exact this
              · refine xr_iconst (v := nI 0) (n := 137) dX8_readsAll_136 (by decide) rfl ?_
                refine xr_goto (n := 141) dX8_readsAll_137 (by decide) ?_
                refine xr_isub (n := 142) dX8_readsAll_141 rfl ?_
                first | rw [pk_sub (by omega)] | skip
                refine xq_istore_n 1 (n := 143) dX8_readsAll_142 rfl rfl rfl ?_
                simp only [xst, Nat.beq, List.filter, Bool.not_true, Bool.not_false]
                refine xr_goto (n := 148) dX8_readsAll_143 (by decide) ?_
                refine xr_aload_n (n := 149) dX8_readsAll_148 rfl rfl ?_
                refine xr_callV (y2 := mX8_here) (As := []) (n := 152) dX8_readsAll_149 lm_X8_75 pm_X8_here pi_X8_here (by first | exact mput_0 _ _ _ | exact mput_r (by decide)) rfl rfl rfl (by simp [Value.category]) rfl ⟨Nat.le_refl _, Nat.le_refl _⟩ ?_
                have pC : pst (up2 (up2 (up2 ν 6 0 (nI (skp (μ 3) n a + 1))) 5 (1 + 7 * op (dp - 1) + 6) (nI k)) 8 (dp - 1) (nI 46)) n (skp (μ 3) n a + 1) := ⟨by rw [up2_n _ _ _ (by omega), up2_n _ _ _ (by omega), up2_n _ _ _ (by omega)]; exact hp.1, by rw [up2_n _ _ _ (by omega), up2_n _ _ _ (by omega), up2_ss], by omega, hp.2.2.2⟩
                have eC : (up2 (up2 (up2 ν 6 0 (nI (skp (μ 3) n a + 1))) 5 (1 + 7 * op (dp - 1) + 6) (nI k)) 8 (dp - 1) (nI 46)) 3 = μ 3 := by rw [up2_n _ _ _ (by omega), up2_n _ _ _ (by omega), up2_n _ _ _ (by omega)]; exact e3
                refine s_X8_here pC ?_
                rw [eC, show ch (μ 3) n (skp (μ 3) n (skp (μ 3) n a + 1)) = hr (μ 3) n (skp (μ 3) n a + 1) from rfl]
                dsimp only [xK, xps]
                refine xq_istore_n 2 (n := 153) dX8_readsAll_152 rfl rfl rfl ?_
                simp only [xst, Nat.beq, List.filter, Bool.not_true, Bool.not_false]
                refine xr_goto (n := 19) dX8_readsAll_153 (by decide) ?_
                refine xX.drop 3 ?_
                simp only [xst, Nat.beq, List.filter, Bool.not_true, Bool.not_false]
                refine xX.drop 4 ?_
                simp only [xst, Nat.beq, List.filter, Bool.not_true, Bool.not_false]
                first | exact absurd h101 h133 | exact absurd h133 h101
                
            · have h101b : hr (μ 3) n a = nI 58 := by first | exact h101 | exact Decidable.not_not.mp h101
              refine xr_iconst (v := nI 5) (n := 105) dX8_readsAll_104 (by decide) rfl ?_
              refine xr_goto (n := 110) dX8_readsAll_105 (by decide) ?_
              refine xr_aload_n (n := 111) dX8_readsAll_110 rfl rfl ?_
              refine xr_get (n := 114) dX8_readsAll_111 fl_X8_19 (by first | exact mput_0 _ _ _ | exact mput_r (by decide)) (by rfl) rfl ?_
              refine xr_iconst (v := nI 0) (n := 115) dX8_readsAll_114 (by decide) rfl ?_
              refine xr_iaload (n := 116) dX8_readsAll_115 (by first | exact mput_0 _ _ _ | exact mput_r (by decide)) (by first | exact vp_in_nI (by omega) (by omega)) rfl ?_
              (first | (simp (disch := omega) only [nI_clamp, pk_mul, nI_add, oi1, up2_ss, up2_n, up2_sn, Nat.reduceMul, Nat.reduceAdd, Nat.add_zero, hp6, hn0]) | skip)
              refine xr_callV (y2 := mX8_put) (As := [_, _, _]) (n := 119) dX8_readsAll_116 lm_X8_83 pm_X8_put pi_X8_put (by first | exact mput_0 _ _ _ | exact mput_r (by decide)) rfl rfl rfl (by simp [Value.category]) rfl ⟨Nat.le_refl _, Nat.le_refl _⟩ ?_
              refine s_X8_put (by omega) (by omega) ?_
              dsimp only [xK, xps]
              refine xr_aload_n (n := 120) dX8_readsAll_119 rfl rfl ?_
              refine xr_get (n := 123) dX8_readsAll_120 fl_X8_25 (by first | exact mput_0 _ _ _ | exact mput_r (by decide)) (by rfl) rfl ?_
              refine xr_iload_n (n := 124) dX8_readsAll_123 rfl rfl ?_
              refine xr_iconst (v := nI 1) (n := 125) dX8_readsAll_124 (by decide) rfl ?_
              refine xr_isub (n := 126) dX8_readsAll_125 rfl ?_
              rw [pk_sub (by omega)]
              refine xr_bipush (v := nI 46) (n := 128) dX8_readsAll_126 (by decide) rfl ?_
              refine xq_iastore (n := 129) dX8_readsAll_128 (by first | exact mput_0 _ _ _ | exact mput_r (by decide)) (by first | exact vp_in_nI (by omega) (by omega)) rfl ?_
              simp (disch := omega) only [nI_clamp, List.set, mw_0, mw_1, mw_2, mw_3, mw_4, mw_5, mw_6, mw_7, mw_8, mw_9, mw_10, mw_11, mw_12, mw_13, mw_14, mw_15, mw_16, mw_17, mw_18, mw_19]
              refine xr_iload_n (n := 130) dX8_readsAll_129 rfl rfl ?_
              refine xr_iload_n (n := 131) dX8_readsAll_130 rfl rfl ?_
              refine xr_bipush (v := nI 58) (n := 133) dX8_readsAll_131 (by decide) rfl ?_
              refine xr_icmp_ne (tgt := 140) (n := 136) dX8_readsAll_133 (by decide) rfl (fun h133 => ?_) (fun h133 => ?_)
              · refine xr_iconst (v := nI 1) (n := 141) dX8_readsAll_140 (by decide) rfl ?_
                refine xr_isub (n := 142) dX8_readsAll_141 rfl ?_
                first | rw [pk_sub (by omega)] | skip
                refine xq_istore_n 1 (n := 143) dX8_readsAll_142 rfl rfl rfl ?_
                simp only [xst, Nat.beq, List.filter, Bool.not_true, Bool.not_false]
                refine xr_goto (n := 148) dX8_readsAll_143 (by decide) ?_
                refine xr_aload_n (n := 149) dX8_readsAll_148 rfl rfl ?_
                refine xr_callV (y2 := mX8_here) (As := []) (n := 152) dX8_readsAll_149 lm_X8_75 pm_X8_here pi_X8_here (by first | exact mput_0 _ _ _ | exact mput_r (by decide)) rfl rfl rfl (by simp [Value.category]) rfl ⟨Nat.le_refl _, Nat.le_refl _⟩ ?_
                have pC : pst (up2 (up2 (up2 ν 6 0 (nI (skp (μ 3) n a + 1))) 5 (1 + 7 * op (dp - 1) + 5) (nI k)) 8 (dp - 1) (nI 46)) n (skp (μ 3) n a + 1) := ⟨by rw [up2_n _ _ _ (by omega), up2_n _ _ _ (by omega), up2_n _ _ _ (by omega)]; exact hp.1, by rw [up2_n _ _ _ (by omega), up2_n _ _ _ (by omega), up2_ss], by omega, hp.2.2.2⟩
                have eC : (up2 (up2 (up2 ν 6 0 (nI (skp (μ 3) n a + 1))) 5 (1 + 7 * op (dp - 1) + 5) (nI k)) 8 (dp - 1) (nI 46)) 3 = μ 3 := by rw [up2_n _ _ _ (by omega), up2_n _ _ _ (by omega), up2_n _ _ _ (by omega)]; exact e3
                refine s_X8_here pC ?_
                rw [eC, show ch (μ 3) n (skp (μ 3) n (skp (μ 3) n a + 1)) = hr (μ 3) n (skp (μ 3) n a + 1) from rfl]
                dsimp only [xK, xps]
                refine xq_istore_n 2 (n := 153) dX8_readsAll_152 rfl rfl rfl ?_
                simp only [xst, Nat.beq, List.filter, Bool.not_true, Bool.not_false]
                refine xr_goto (n := 19) dX8_readsAll_153 (by decide) ?_
                refine xX.drop 3 ?_
                simp only [xst, Nat.beq, List.filter, Bool.not_true, Bool.not_false]
                refine xX.drop 4 ?_
                simp only [xst, Nat.beq, List.filter, Bool.not_true, Bool.not_false]
                first | exact absurd h101 h133 | exact absurd h133 h101
                
              · refine xr_iconst (v := nI 0) (n := 137) dX8_readsAll_136 (by decide) rfl ?_
                refine xr_goto (n := 141) dX8_readsAll_137 (by decide) ?_
                refine xr_isub (n := 142) dX8_readsAll_141 rfl ?_
                first | rw [pk_sub (by omega)] | skip
                refine xq_istore_n 1 (n := 143) dX8_readsAll_142 rfl rfl rfl ?_
                simp only [xst, Nat.beq, List.filter, Bool.not_true, Bool.not_false]
                refine xr_goto (n := 148) dX8_readsAll_143 (by decide) ?_
                refine xr_aload_n (n := 149) dX8_readsAll_148 rfl rfl ?_
                refine xr_callV (y2 := mX8_here) (As := []) (n := 152) dX8_readsAll_149 lm_X8_75 pm_X8_here pi_X8_here (by first | exact mput_0 _ _ _ | exact mput_r (by decide)) rfl rfl rfl (by simp [Value.category]) rfl ⟨Nat.le_refl _, Nat.le_refl _⟩ ?_
                have pC : pst (up2 (up2 (up2 ν 6 0 (nI (skp (μ 3) n a + 1))) 5 (1 + 7 * op (dp - 1) + 5) (nI k)) 8 (dp - 1) (nI 46)) n (skp (μ 3) n a + 1) := ⟨by rw [up2_n _ _ _ (by omega), up2_n _ _ _ (by omega), up2_n _ _ _ (by omega)]; exact hp.1, by rw [up2_n _ _ _ (by omega), up2_n _ _ _ (by omega), up2_ss], by omega, hp.2.2.2⟩
                have eC : (up2 (up2 (up2 ν 6 0 (nI (skp (μ 3) n a + 1))) 5 (1 + 7 * op (dp - 1) + 5) (nI k)) 8 (dp - 1) (nI 46)) 3 = μ 3 := by rw [up2_n _ _ _ (by omega), up2_n _ _ _ (by omega), up2_n _ _ _ (by omega)]; exact e3
                refine s_X8_here pC ?_
                rw [eC, show ch (μ 3) n (skp (μ 3) n (skp (μ 3) n a + 1)) = hr (μ 3) n (skp (μ 3) n a + 1) from rfl]
                dsimp only [xK, xps]
                refine xq_istore_n 2 (n := 153) dX8_readsAll_152 rfl rfl rfl ?_
                simp only [xst, Nat.beq, List.filter, Bool.not_true, Bool.not_false]
                refine xr_goto (n := 19) dX8_readsAll_153 (by decide) ?_
                refine xX.drop 3 ?_
                simp only [xst, Nat.beq, List.filter, Bool.not_true, Bool.not_false]
                refine xX.drop 4 ?_
                simp only [xst, Nat.beq, List.filter, Bool.not_true, Bool.not_false]
                have hR2 := hR.trans (pl_cl h0 h29 hd0 hc)
                rw [if_pos h101b, if_pos h101b] at hR2
                have hso := hst (dp - 1) (by omega)
                refine ih _ _ _ _ _ _ _ (by omega) ⟨?_, ?_, by omega, ?_, hk, by omega, ?_⟩ hR2
                · exact fun w h5 h6 h7 h8w => by rw [up2_n _ _ _ h6, up2_n _ _ _ h8w, up2_n _ _ _ h5, up2_n _ _ _ h6]; exact h8 w h5 h6 h7 h8w
                · have hz := skp_pst pC; rw [eC] at hz; exact hz
                · rw [up2_n _ _ _ (by omega), up2_n _ _ _ (by omega), up2_s, up2_n _ _ _ (by omega)]
                  exact (hP.up (s := op (dp - 1)) (w := 5) (v := k) (by omega)).congr (fun j w hj hw => rfl)
                · intro i hi
                  rw [up2_n _ _ _ (by omega), up2_n _ _ _ (by omega), up2_n _ _ _ (by omega), up2_n _ _ _ (by omega), up2_n _ _ _ (by omega), up2_s, up2_n _ _ _ (by omega), up2_n _ _ _ (by omega)]
                  by_cases e : i = dp - 1
                  · subst e
                    rw [if_pos rfl]
                    exact ⟨hso.1, hso.2.1, by simp [upd], by omega⟩
                  · have := hst i (by omega)
                    unfold upd
                    rw [if_neg e, if_neg e]
                    exact this
      · obtain ⟨kd, hkd, hke⟩ := kd_of h29
        rw [hke]
        refine xr_aload_n (n := 33) dX8_readsAll_32 rfl rfl ?_
        refine xr_iload_n (n := 34) dX8_readsAll_33 rfl rfl ?_
        refine xr_iload_n (n := 35) dX8_readsAll_34 rfl rfl ?_
        refine xr_callV (y2 := mX8_readsStatement) (As := [_, _]) (n := 38) dX8_readsAll_35 lm_X8_104 pm_X8_readsStatement pi_X8_readsStatement (by first | exact mput_0 _ _ _ | exact mput_r (by decide)) rfl rfl rfl (by simp [Value.category]) rfl ⟨Nat.le_refl _, Nat.le_refl _⟩ ?_
        refine s_X8_readsStatement hp hlt hP hk hkd hdp (fun ν2 s2 p2 g2 => ?_)
        rw [e3] at p2 g2
        rw [e3]
        have e4 : ν2 3 = μ 3 := (s2 3 (by omega) (by omega) (by omega) (by omega)).trans e3
        dsimp only [xK, xps]
        refine xr_bne (tgt := 43) (n := 41) dX8_readsAll_38 (by decide) rfl (fun h38 => ?_) (fun h38 => ?_)
        · have hR2 := hR.trans (pl_st h0 hke hkd h38)
          have g2 := g2 h38
          obtain ⟨hGe, hnf⟩ := stG_t h38
          have hGb := stF_b (t := μ 3) (n := n) (q := skp (μ 3) n a) (kd := kd) hlt (by rw [← hGe]; exact h38)
          rw [← hGe] at hGb
          have hska := (skp_ge (μ 3) n _ a rfl).1
          have hk60 : ¬ k = 60 := fun z => hnf (Or.inl z)
          refine xr_iload_n (n := 44) dX8_readsAll_43 rfl rfl ?_
          refine xr_iload_n (n := 45) dX8_readsAll_44 rfl rfl ?_
          refine xr_iconst (v := nI 3) (n := 46) dX8_readsAll_45 (by decide) rfl ?_
          refine xr_icmp_lt (tgt := 53) (n := 49) dX8_readsAll_46 (by decide) rfl (fun h46 => ?_) (fun h46 => ?_)
          · have hk3 : kd < 3 := by ((try simp (disch := omega) only [i_lt, i_le, i_eq, nt, i_m1, Int32.toInt_zero] at *); omega)
            refine xr_iconst (v := nI 0) (n := 54) dX8_readsAll_53 (by decide) rfl ?_
            refine xr_iadd (n := 55) dX8_readsAll_54 rfl ?_
            (first | (simp (disch := omega) only [nI_clamp, pk_mul, nI_add, oi1, up2_ss, up2_n, up2_sn, Nat.reduceMul, Nat.reduceAdd, Nat.add_zero, hp6, hn0]) | skip)
            refine xq_istore_n 1 (n := 56) dX8_readsAll_55 rfl rfl rfl ?_
            simp only [xst, Nat.beq, List.filter, Bool.not_true, Bool.not_false]
            refine xr_goto (n := 148) dX8_readsAll_56 (by decide) ?_
            refine xr_aload_n (n := 149) dX8_readsAll_148 rfl rfl ?_
            refine xr_callV (y2 := mX8_here) (As := []) (n := 152) dX8_readsAll_149 lm_X8_75 pm_X8_here pi_X8_here (by first | exact mput_0 _ _ _ | exact mput_r (by decide)) rfl rfl rfl (by simp [Value.category]) rfl ⟨Nat.le_refl _, Nat.le_refl _⟩ ?_
            refine s_X8_here p2 ?_
            rw [e4, show ch (μ 3) n (skp (μ 3) n (stG (μ 3) n (skp (μ 3) n a) kd k dp).2.1) = hr (μ 3) n (stG (μ 3) n (skp (μ 3) n a) kd k dp).2.1 from rfl]
            dsimp only [xK, xps]
            refine xq_istore_n 2 (n := 153) dX8_readsAll_152 rfl rfl rfl ?_
            simp only [xst, Nat.beq, List.filter, Bool.not_true, Bool.not_false]
            refine xr_goto (n := 19) dX8_readsAll_153 (by decide) ?_
            refine xX.drop 3 ?_
            simp only [xst, Nat.beq, List.filter, Bool.not_true, Bool.not_false]
            have hdpe : (if 3 ≤ kd then dp + 1 else dp) = dp := if_neg (by omega)
            have hRR := hR2
            rw [hdpe] at hRR
            refine ih _ _ _ _ _ _ _ (by omega) ⟨?_, ?_, p2.2.2.1, ?_, by omega, by omega, ?_⟩ hRR
            · exact fun w h5 h6 h7 h8w => by rw [up2_n _ _ _ h6]; exact h8.t8 s2 w h5 h6 h7 h8w
            · have hz := skp_pst p2; rw [e4] at hz; exact hz
            · rw [up2_n _ _ _ (by omega)]; exact g2.1
            · intro i hi
              have hpo := g2.2
              unfold stPost at hpo
              rw [up2_n _ _ _ (by omega), up2_n _ _ _ (by omega)]
              unfold opn
              rw [if_neg (by omega)] at hpo
              rw [hpo.1, hpo.2, if_neg (by omega), if_neg (by omega)]
              have := hst i hi
              exact ⟨this.1, by omega, this.2.2⟩
          · have hk3 : 3 ≤ kd := by ((try simp (disch := omega) only [i_lt, i_le, i_eq, nt, i_m1, Int32.toInt_zero] at *); omega)
            have hd5 : ¬ dp = 5 := fun z => hnf (Or.inr ⟨hk3, z⟩)
            refine xr_iconst (v := nI 1) (n := 50) dX8_readsAll_49 (by decide) rfl ?_
            refine xr_goto (n := 54) dX8_readsAll_50 (by decide) ?_
            refine xr_iadd (n := 55) dX8_readsAll_54 rfl ?_
            (first | (simp (disch := omega) only [nI_clamp, pk_mul, nI_add, oi1, up2_ss, up2_n, up2_sn, Nat.reduceMul, Nat.reduceAdd, Nat.add_zero, hp6, hn0]) | skip)
            refine xq_istore_n 1 (n := 56) dX8_readsAll_55 rfl rfl rfl ?_
            simp only [xst, Nat.beq, List.filter, Bool.not_true, Bool.not_false]
            refine xr_goto (n := 148) dX8_readsAll_56 (by decide) ?_
            refine xr_aload_n (n := 149) dX8_readsAll_148 rfl rfl ?_
            refine xr_callV (y2 := mX8_here) (As := []) (n := 152) dX8_readsAll_149 lm_X8_75 pm_X8_here pi_X8_here (by first | exact mput_0 _ _ _ | exact mput_r (by decide)) rfl rfl rfl (by simp [Value.category]) rfl ⟨Nat.le_refl _, Nat.le_refl _⟩ ?_
            refine s_X8_here p2 ?_
            rw [e4, show ch (μ 3) n (skp (μ 3) n (stG (μ 3) n (skp (μ 3) n a) kd k dp).2.1) = hr (μ 3) n (stG (μ 3) n (skp (μ 3) n a) kd k dp).2.1 from rfl]
            dsimp only [xK, xps]
            refine xq_istore_n 2 (n := 153) dX8_readsAll_152 rfl rfl rfl ?_
            simp only [xst, Nat.beq, List.filter, Bool.not_true, Bool.not_false]
            refine xr_goto (n := 19) dX8_readsAll_153 (by decide) ?_
            refine xX.drop 3 ?_
            simp only [xst, Nat.beq, List.filter, Bool.not_true, Bool.not_false]
            have hdpe : (if 3 ≤ kd then dp + 1 else dp) = dp + 1 := if_pos (by omega)
            have hRR := hR2
            rw [hdpe] at hRR
            refine ih _ _ _ _ _ _ _ (by omega) ⟨?_, ?_, p2.2.2.1, ?_, by omega, by omega, ?_⟩ hRR
            · exact fun w h5 h6 h7 h8w => by rw [up2_n _ _ _ h6]; exact h8.t8 s2 w h5 h6 h7 h8w
            · have hz := skp_pst p2; rw [e4] at hz; exact hz
            · rw [up2_n _ _ _ (by omega)]; exact g2.1
            · intro i hi
              have hpo := g2.2
              unfold stPost at hpo
              rw [up2_n _ _ _ (by omega), up2_n _ _ _ (by omega)]
              unfold opn
              rw [if_pos (by omega)] at hpo
              rw [hpo.1, hpo.2]
              by_cases e : i = dp
              · subst e
                have hc1 : 3 ≤ kd ∧ i = i := ⟨by omega, rfl⟩
                rw [if_pos hc1, if_pos hc1]
                exact ⟨by simp [upd], by omega, by simp [upd], by split <;> omega⟩
              · have hc1 : ¬ (3 ≤ kd ∧ i = dp) := fun z => e z.2
                rw [if_neg hc1, if_neg hc1]
                have := hst i (by omega)
                unfold upd
                rw [if_neg e, if_neg e]
                exact ⟨this.1, by omega, this.2.2⟩
        · have hR2 := hR.trans (pl_sf h0 hke hkd h38)
          refine xr_iconst (v := nI 0) (n := 42) dX8_readsAll_41 (by decide) rfl ?_
          refine xr_ireturn dX8_readsAll_42 rfl (by first | exact b2i_nar | exact nar_1 | exact nar_0) rfl ?_
          refine qi (hq ν2 (h8.t8 s2) (fun z => ?_) (fun z => ?_)) ?_
          · rw [hR2] at z; cases z
          · rw [hR2]; exact ⟨p2.2.1, p2.2.2.1⟩
          · rw [hR2]; rfl

theorem s_X8_readsAll {G : xG} {d : Nat} {f : Nat → xC} {r : Nat × Nat} {Q : Option Value → xM → Prop} {m : Nat} {μ : xS} {n : Nat} (hn4 : μ 4 0 = nI n) (hn : n ≤ 120) (hq : ∀ ν, sam8 μ ν → ((pAll (μ 3) n).1 = true → isPg (ν 5) (pAll (μ 3) n).2.1 (pAll (μ 3) n).2.2 ∧ (pAll (μ 3) n).2.1 ≤ 60) → ((pAll (μ 3) n).1 = false → ν 6 0 = nI (pAll (μ 3) n).2.1 ∧ (pAll (μ 3) n).2.1 ≤ n) → Q (some (.int (b2i ((pAll (μ 3) n).1 = true)))) (mput f m ν, r)) : xMet G (d + 5) mX8_readsAll [.ref m] (mput f m μ, r) r Q := by
  refine xMet_0 (by decide +kernel) rfl (Nat.le_of_ble_eq_true rfl) ?_
  show xX G (d + 5) mX8_readsAll r r (xΦ G r r Q) 0 [(0, .ref m)] [] (mput f m μ, r)
  refine xr_aload_n (n := 1) dX8_readsAll_0 rfl rfl ?_
  refine xr_get (n := 4) dX8_readsAll_1 fl_X8_19 (by first | exact mput_0 _ _ _ | exact mput_r (by decide)) (by rfl) rfl ?_
  refine xr_iconst (v := nI 0) (n := 5) dX8_readsAll_4 (by decide) rfl ?_
  refine xr_iconst (v := nI 0) (n := 6) dX8_readsAll_5 (by decide) rfl ?_
  refine xq_iastore (n := 7) dX8_readsAll_6 (by first | exact mput_0 _ _ _ | exact mput_r (by decide)) (by first | exact vp_in_nI (by omega) (by omega)) rfl ?_
  simp (disch := omega) only [nI_clamp, List.set, mw_0, mw_1, mw_2, mw_3, mw_4, mw_5, mw_6, mw_7, mw_8, mw_9, mw_10, mw_11, mw_12, mw_13, mw_14, mw_15, mw_16, mw_17, mw_18, mw_19]
  refine xr_aload_n (n := 8) dX8_readsAll_7 rfl rfl ?_
  refine xr_iconst (v := nI 0) (n := 9) dX8_readsAll_8 (by decide) rfl ?_
  refine xq_put (n := 12) dX8_readsAll_9 fl_X8_72 rfl (by first | exact mput_0 _ _ _ | exact mput_r (by decide)) (by rfl) (by rfl) (by rfl) rfl ?_
  simp (disch := omega) only [nI_clamp, List.set, mw_0, mw_1, mw_2, mw_3, mw_4, mw_5, mw_6, mw_7, mw_8, mw_9, mw_10, mw_11, mw_12, mw_13, mw_14, mw_15, mw_16, mw_17, mw_18, mw_19]
  refine xr_iconst (v := nI 0) (n := 13) dX8_readsAll_12 (by decide) rfl ?_
  refine xq_istore_n 1 (n := 14) dX8_readsAll_13 rfl rfl rfl ?_
  simp only [xst, Nat.beq, List.filter, Bool.not_true, Bool.not_false]
  refine xr_aload_n (n := 15) dX8_readsAll_14 rfl rfl ?_
  refine xr_callV (y2 := mX8_here) (As := []) (n := 18) dX8_readsAll_15 lm_X8_75 pm_X8_here pi_X8_here (by first | exact mput_0 _ _ _ | exact mput_r (by decide)) rfl rfl rfl (by simp [Value.category]) rfl ⟨Nat.le_refl _, Nat.le_refl _⟩ ?_
  have p0 : pst (up2 (up2 μ 5 0 (nI 0)) 6 0 (nI 0)) n 0 := ⟨by rw [up2_n _ _ _ (by omega), up2_n _ _ _ (by omega)]; exact hn4, up2_ss _ _ _ _, by omega, hn⟩
  have e0 : (up2 (up2 μ 5 0 (nI 0)) 6 0 (nI 0)) 3 = μ 3 := by rw [up2_n _ _ _ (by omega), up2_n _ _ _ (by omega)]
  refine s_X8_here p0 ?_
  rw [e0, show ch (μ 3) n (skp (μ 3) n 0) = hr (μ 3) n 0 from rfl]
  dsimp only [xK, xps]
  refine xq_istore_n 2 (n := 19) dX8_readsAll_18 rfl rfl rfl ?_
  simp only [xst, Nat.beq, List.filter, Bool.not_true, Bool.not_false]
  refine s_X8_readsAll_l hn hq 121 0 0 (fun _ _ => 0) 0 (fun _ => 0) (fun _ => 0) _ (by omega) ⟨fun w h5 h6 h7 h8 => by rw [up2_n _ _ _ h6, up2_n _ _ _ h6, up2_n _ _ _ h5], ?_, by omega, ⟨?_, fun s w hs => by omega⟩, by omega, by omega, fun i hi => by omega⟩ rfl
  · have hz := skp_pst p0; rw [e0] at hz; exact hz
  · rw [up2_n _ _ _ (by omega), up2_n _ _ _ (by omega), up2_ss]

theorem s_X8_read {G : xG} {d : Nat} {f : Nat → xC} {r : Nat × Nat} {Q : Option Value → xM → Prop} {m : Nat} {μ : xS} {p : Int32} {n sv : Nat} (hn4 : μ 4 0 = nI n) (hn : n ≤ 120) (hs : μ 2 0 = nI sv) (hs2 : sv ≤ 5) (hq0 : ¬ (0 ≤ p.toInt ∧ p.toInt ≤ 1) → Q (some (.int (-10001))) (mput f m μ, r)) (hq : ∀ (pn : Nat) (ν : xS), pn ≤ 1 → p = nI pn → sam8 μ ν → ((pAll (μ 3) n).1 = false → Q (some (.int ((-1000) - nI (pAll (μ 3) n).2.1))) (mput f m ν, r)) ∧ ((pAll (μ 3) n).1 = true → isPg (ν 5) (pAll (μ 3) n).2.1 (pAll (μ 3) n).2.2 → (pAll (μ 3) n).2.1 ≤ 60 → Q (some (.int (nI (pAll (μ 3) n).2.1))) (mput f m (mlay (msave ν sv) pn), r))) : xMet G (d + 6) mX8_read [.ref m, .int p] (mput f m μ, r) r Q := by
  refine xMet_0 (by decide +kernel) rfl (Nat.le_of_ble_eq_true rfl) ?_
  show xX G (d + 6) mX8_read r r (xΦ G r r Q) 0 [(0, .ref m), (1, .int p)] [] (mput f m μ, r)
  refine xr_iload_n (n := 1) dX8_read_0 rfl rfl ?_
  refine xr_callS (y2 := mX8_isProgram) (As := [_]) (n := 4) dX8_read_1 lm_X8_107 pm_X8_isProgram kp_static_yX8_isProgram rfl rfl (by simp [Value.category]) rfl ⟨Nat.le_refl _, Nat.le_refl _⟩ ?_
  refine s_X8_isProgram ?_
  dsimp only [xK, xps]
  refine xr_bne (tgt := 11) (n := 7) dX8_read_4 (by decide) rfl (fun h4 => ?_) (fun h4 => ?_)
  · obtain ⟨pn, hpn, rfl⟩ := p_of h4
    refine xr_aload_n (n := 12) dX8_read_11 rfl rfl ?_
    refine xr_callV (y2 := mX8_readsAll) (As := []) (n := 15) dX8_read_12 lm_X8_110 pm_X8_readsAll pi_X8_readsAll (by first | exact mput_0 _ _ _ | exact mput_r (by decide)) rfl rfl rfl (by simp [Value.category]) rfl ⟨Nat.le_refl _, Nat.le_refl _⟩ ?_
    refine s_X8_readsAll hn4 hn (fun ν h8 hok hno => ?_)
    dsimp only [xK, xps]
    refine xr_bne (tgt := 27) (n := 18) dX8_read_15 (by decide) rfl (fun h15 => ?_) (fun h15 => ?_)
    · refine xr_aload_n (n := 28) dX8_read_27 rfl rfl ?_
      refine xr_callV (y2 := mX8_saves) (As := []) (n := 31) dX8_read_28 lm_X8_114 pm_X8_saves pi_X8_saves (by first | exact mput_0 _ _ _ | exact mput_r (by decide)) rfl rfl rfl (by simp [Value.category]) rfl ⟨Nat.le_refl _, Nat.le_refl _⟩ ?_
      have gg := hok h15
      refine s_X8_saves ((congrFun (h8 2 (by omega) (by omega) (by omega) (by omega)) 0).trans hs) hs2 ?_
      dsimp only [xK, xps]
      refine xr_aload_n (n := 32) dX8_read_31 rfl rfl ?_
      refine xr_iload_n (n := 33) dX8_read_32 rfl rfl ?_
      refine xr_callV (y2 := mX8_lays) (As := [_]) (n := 36) dX8_read_33 lm_X8_117 pm_X8_lays pi_X8_lays (by first | exact mput_0 _ _ _ | exact mput_r (by decide)) rfl rfl rfl (by simp [Value.category]) rfl ⟨Nat.le_refl _, Nat.le_refl _⟩ ?_
      refine s_X8_lays hpn ?_
      dsimp only [xK, xps]
      refine xr_aload_n (n := 37) dX8_read_36 rfl rfl ?_
      refine xr_get (n := 40) dX8_read_37 fl_X8_19 (by first | exact mput_0 _ _ _ | exact mput_r (by decide)) (by rfl) rfl ?_
      refine xr_iconst (v := nI 0) (n := 41) dX8_read_40 (by decide) rfl ?_
      refine xr_iaload (n := 42) dX8_read_41 (by first | exact mput_0 _ _ _ | exact mput_r (by decide)) (by first | exact vp_in_nI (by omega) (by omega)) rfl ?_
      rw [show (nI 0).toNatClampNeg = 0 from nI_clamp (by omega), show mlay (msave ν sv) pn 5 0 = ν 5 0 from by (unfold mlay; rw [ur_n _ _ (by omega), msave_w (by omega) (by omega)]), gg.1.1]
      refine xr_ireturn dX8_read_42 rfl rfl rfl ?_
      exact (hq pn ν hpn rfl h8).2 h15 gg.1 gg.2
    · refine xr_sipush (v := (-1000)) (n := 21) dX8_read_18 (by decide) rfl ?_
      refine xr_aload_n (n := 22) dX8_read_21 rfl rfl ?_
      refine xr_get (n := 25) dX8_read_22 fl_X8_72 (by first | exact mput_0 _ _ _ | exact mput_r (by decide)) (by rfl) rfl ?_
      rw [(hno (Bool.eq_false_iff.mpr h15)).1]
      refine xr_isub (n := 26) dX8_read_25 rfl ?_
      refine xr_ireturn dX8_read_26 rfl rfl rfl ?_
      exact (hq pn ν hpn rfl h8).1 (Bool.eq_false_iff.mpr h15)
  · refine xr_sipush (v := (-10001)) (n := 10) dX8_read_7 (by decide) rfl ?_
    refine xr_ireturn dX8_read_10 rfl rfl rfl ?_
    exact hq0 h4
