/-! READING statements -/
def seR (c op u v : Nat) : Nat → Nat := fun w => if w = 1 then c else if w = 2 then op else if w = 3 then u else if w = 4 then v else 0
abbrev opc (c : Int32) : Prop := c = nI 43 ∨ c = nI 45 ∨ c = nI 42
abbrev rec3 : Type := Bool × Nat × (Nat → Nat)
def sE5 (t : Nat → Int32) (n a : Nat) (z : Nat → Nat) : rec3 := (decide (hr t n a = nI 59), pas t n a (nI 59), z)
def sE4 (t : Nat → Int32) (n a c u : Nat) : rec3 := if opc (hr t n a) then (if (teF t n (skp t n a + 1)).1 = true then sE5 t n (teF t n (skp t n a + 1)).2.1 (seR c (ix (hr t n a)) u (teF t n (skp t n a + 1)).2.2) else (false, (teF t n (skp t n a + 1)).2.1, fun _ => 0)) else sE5 t n (skp t n a) (seR c 0 u 0)
def sE3 (t : Nat → Int32) (n a c : Nat) : rec3 := if (teF t n a).1 = true then sE4 t n (teF t n a).2.1 c (teF t n a).2.2 else (false, (teF t n a).2.1, fun _ => 0)
def sE2 (t : Nat → Int32) (n a c : Nat) : rec3 := if hr t n a = nI 61 then sE3 t n (pas t n a (nI 61)) c else (false, pas t n a (nI 61), fun _ => 0)
def seF (t : Nat → Int32) (n a : Nat) : rec3 := if (ceF t n a).1 = true then sE2 t n (ceF t n a).2.1 (ceF t n a).2.2 else (false, (ceF t n a).2.1, fun _ => 0)
def pset (P : Nat → Nat → Nat) (s : Nat) (z : Nat → Nat) : Nat → Nat → Nat := fun j u => if j = s ∧ 0 < u then z u else P j u
def sam (μ ν : xS) : Prop := ∀ w, w ≠ 5 → w ≠ 6 → ν w = μ w
theorem sam.u6 {μ ν : xS} {j : Nat} {v : Int32} (h : sam μ ν) : sam μ (up2 ν 6 j v) := fun w h5 h6 => by rw [up2_n _ _ _ h6]; exact h w h5 h6
theorem sam.u5 {μ ν : xS} {j : Nat} {v : Int32} (h : sam μ ν) : sam μ (up2 ν 5 j v) := fun w h5 h6 => by rw [up2_n _ _ _ h5]; exact h w h5 h6
theorem sam.tr {μ ν κ : xS} (h : sam μ ν) (h2 : ∀ w, w ≠ 5 → w ≠ 6 → κ w = ν w) : sam μ κ := fun w h5 h6 => (h2 w h5 h6).trans (h w h5 h6)
theorem pst.u5 {μ : xS} {n a j : Nat} {v : Int32} (h : pst μ n a) : pst (up2 μ 5 j v) n a := ⟨by rw [up2_n _ _ _ (by omega)]; exact h.1, by rw [up2_n _ _ _ (by omega)]; exact h.2.1, h.2.2⟩
theorem nz (k : Nat) (h : 0 < k) (h2 : k < 2 ^ 31) : ¬ nI k = nI 0 := fun e => by
  have h3 := nt k h2
  have h4 := nt 0 (by omega)
  rw [e, h4] at h3
  omega
theorem opc_n {c : Int32} (h : opc c) : c = nI (ix c) ∧ ¬ c = nI 0 := by
  rcases h with rfl | rfl | rfl
  · rw [ix_n (by omega)]; exact ⟨rfl, nz 43 (by omega) (by omega)⟩
  · rw [ix_n (by omega)]; exact ⟨rfl, nz 45 (by omega) (by omega)⟩
  · rw [ix_n (by omega)]; exact ⟨rfl, nz 42 (by omega) (by omega)⟩
theorem skp_pst {μ : xS} {n a : Nat} (h : pst μ n a) : pst (up2 μ 6 0 (nI (skp (μ 3) n a))) n (skp (μ 3) n a) := h.at (skp_le h.2.2.1)
theorem pg1 {row : Nat → Int32} {k s c : Nat} {P : Nat → Nat → Nat} (hP : isPg row k P) : isPg (upd row (1 + 7 * s + 1) (nI c)) k (fun j u => if j = s ∧ u = 1 then c else P j u) := hP.up (by omega)
theorem row2 {row : Nat → Int32} {k s c v : Nat} {P : Nat → Nat → Nat} (hz : ∀ w, 0 < w → w < 7 → P s w = 0) (h : isPg row k (fun j u => if j = s ∧ u = 3 then v else (if j = s ∧ u = 1 then c else P j u))) : isPg row k (pset P s (seR c 0 v 0)) := by
  refine h.congr (fun j w hj hw => ?_)
  unfold pset seR
  by_cases e : j = s
  · subst e
    by_cases w0 : w = 0
    · subst w0; simp
    · have hz0 := hz w (by omega) hw
      by_cases w1 : w = 1
      · subst w1; simp
      · by_cases w3 : w = 3
        · subst w3; simp
        · have e0 : 0 < w := by omega
          simp only [w1, w3, e0, hz0, and_true, and_false, if_true, if_false, if_pos]
          simp
  · simp only [e, false_and, if_false]
theorem row4 {row : Nat → Int32} {k s c v u o : Nat} {P : Nat → Nat → Nat} (hz : ∀ w, 0 < w → w < 7 → P s w = 0) (h : isPg row k (fun j w => if j = s ∧ w = 4 then u else (if j = s ∧ w = 2 then o else (if j = s ∧ w = 3 then v else (if j = s ∧ w = 1 then c else P j w))))) : isPg row k (pset P s (seR c o v u)) := by
  refine h.congr (fun j w hj hw => ?_)
  unfold pset seR
  by_cases e : j = s
  · subst e
    by_cases w0 : w = 0
    · subst w0; simp
    · have hz0 := hz w (by omega) hw
      have e0 : 0 < w := by omega
      by_cases w1 : w = 1
      · subst w1; simp
      · by_cases w3 : w = 3
        · subst w3; simp
        · by_cases w2 : w = 2
          · subst w2; simp
          · by_cases w4 : w = 4
            · subst w4; simp
            · simp only [w1, w2, w3, w4, e0, hz0, and_true, and_false, if_false]
              simp
  · simp only [e, false_and, if_false]
def kdI (c : Int32) : Int32 := if isL c then nI 0 else if c = nI 33 then nI 1 else if c = nI 35 then nI 2 else if c = nI 91 then nI 3 else if c = nI 63 then nI 4 else (-1)
theorem s_X8_kindOf {G : xG} {d : Nat} {f : Nat → xC} {r : Nat × Nat} {Q : Option Value → xM → Prop} {c : Int32}  (hq : Q (some (.int (kdI c))) (f, r)) : xMet G (d + 2) mX8_kindOf [.int c] (f, r) r Q := by
  refine xMet_0 (by decide +kernel) rfl (Nat.le_of_ble_eq_true rfl) ?_
  show xX G (d + 2) mX8_kindOf r r (xΦ G r r Q) 0 [(0, .int c)] [] (f, r)
  refine xr_iload_n (n := 1) dX8_kindOf_0 rfl rfl ?_
  refine xr_callS (y2 := mX8_isLetter) (As := [_]) (n := 4) dX8_kindOf_1 lm_X8_79 pm_X8_isLetter kp_static_yX8_isLetter rfl rfl (by simp [Value.category]) rfl ⟨Nat.le_refl _, Nat.le_refl _⟩ ?_
  refine s_X8_isLetter ?_
  dsimp only [xK, xps]
  refine xr_beq (tgt := 11) (n := 7) dX8_kindOf_4 (by decide) rfl (fun h4 => ?_) (fun h4 => ?_)
  · refine xr_iload_n (n := 12) dX8_kindOf_11 rfl rfl ?_
    refine xr_bipush (v := nI 33) (n := 14) dX8_kindOf_12 (by decide) rfl ?_
    refine xr_icmp_ne (tgt := 21) (n := 17) dX8_kindOf_14 (by decide) rfl (fun h14 => ?_) (fun h14 => ?_)
    · refine xr_iload_n (n := 22) dX8_kindOf_21 rfl rfl ?_
      refine xr_bipush (v := nI 35) (n := 24) dX8_kindOf_22 (by decide) rfl ?_
      refine xr_icmp_ne (tgt := 31) (n := 27) dX8_kindOf_24 (by decide) rfl (fun h24 => ?_) (fun h24 => ?_)
      · refine xr_iload_n (n := 32) dX8_kindOf_31 rfl rfl ?_
        refine xr_bipush (v := nI 91) (n := 34) dX8_kindOf_32 (by decide) rfl ?_
        refine xr_icmp_ne (tgt := 41) (n := 37) dX8_kindOf_34 (by decide) rfl (fun h34 => ?_) (fun h34 => ?_)
        · refine xr_iload_n (n := 42) dX8_kindOf_41 rfl rfl ?_
          refine xr_bipush (v := nI 63) (n := 44) dX8_kindOf_42 (by decide) rfl ?_
          refine xr_icmp_ne (tgt := 51) (n := 47) dX8_kindOf_44 (by decide) rfl (fun h44 => ?_) (fun h44 => ?_)
          · refine xr_iconst (v := (-1)) (n := 52) dX8_kindOf_51 (by decide) rfl ?_
            refine xr_ireturn dX8_kindOf_52 rfl rfl rfl ?_
            refine qi hq ?_
            unfold kdI
            first | exact if_pos (by assumption) | (rw [if_neg (by assumption)]; first | exact if_pos (by first | assumption | exact Decidable.not_not.mp (by assumption)) | (rw [if_neg (by assumption)]; first | exact if_pos (by first | assumption | exact Decidable.not_not.mp (by assumption)) | (rw [if_neg (by assumption)]; first | exact if_pos (by first | assumption | exact Decidable.not_not.mp (by assumption)) | (rw [if_neg (by assumption)]; first | exact if_pos (by first | assumption | exact Decidable.not_not.mp (by assumption)) | exact if_neg (by assumption)))))
          · refine xr_iconst (v := nI 4) (n := 48) dX8_kindOf_47 (by decide) rfl ?_
            refine xr_goto (n := 52) dX8_kindOf_48 (by decide) ?_
            refine xr_ireturn dX8_kindOf_52 rfl rfl rfl ?_
            refine qi hq ?_
            unfold kdI
            first | exact if_pos (by assumption) | (rw [if_neg (by assumption)]; first | exact if_pos (by first | assumption | exact Decidable.not_not.mp (by assumption)) | (rw [if_neg (by assumption)]; first | exact if_pos (by first | assumption | exact Decidable.not_not.mp (by assumption)) | (rw [if_neg (by assumption)]; first | exact if_pos (by first | assumption | exact Decidable.not_not.mp (by assumption)) | (rw [if_neg (by assumption)]; first | exact if_pos (by first | assumption | exact Decidable.not_not.mp (by assumption)) | exact if_neg (by assumption)))))
        · refine xr_iconst (v := nI 3) (n := 38) dX8_kindOf_37 (by decide) rfl ?_
          refine xr_goto (n := 52) dX8_kindOf_38 (by decide) ?_
          refine xr_ireturn dX8_kindOf_52 rfl rfl rfl ?_
          refine qi hq ?_
          unfold kdI
          first | exact if_pos (by assumption) | (rw [if_neg (by assumption)]; first | exact if_pos (by first | assumption | exact Decidable.not_not.mp (by assumption)) | (rw [if_neg (by assumption)]; first | exact if_pos (by first | assumption | exact Decidable.not_not.mp (by assumption)) | (rw [if_neg (by assumption)]; first | exact if_pos (by first | assumption | exact Decidable.not_not.mp (by assumption)) | (rw [if_neg (by assumption)]; first | exact if_pos (by first | assumption | exact Decidable.not_not.mp (by assumption)) | exact if_neg (by assumption)))))
      · refine xr_iconst (v := nI 2) (n := 28) dX8_kindOf_27 (by decide) rfl ?_
        refine xr_goto (n := 52) dX8_kindOf_28 (by decide) ?_
        refine xr_ireturn dX8_kindOf_52 rfl rfl rfl ?_
        refine qi hq ?_
        unfold kdI
        first | exact if_pos (by assumption) | (rw [if_neg (by assumption)]; first | exact if_pos (by first | assumption | exact Decidable.not_not.mp (by assumption)) | (rw [if_neg (by assumption)]; first | exact if_pos (by first | assumption | exact Decidable.not_not.mp (by assumption)) | (rw [if_neg (by assumption)]; first | exact if_pos (by first | assumption | exact Decidable.not_not.mp (by assumption)) | (rw [if_neg (by assumption)]; first | exact if_pos (by first | assumption | exact Decidable.not_not.mp (by assumption)) | exact if_neg (by assumption)))))
    · refine xr_iconst (v := nI 1) (n := 18) dX8_kindOf_17 (by decide) rfl ?_
      refine xr_goto (n := 52) dX8_kindOf_18 (by decide) ?_
      refine xr_ireturn dX8_kindOf_52 rfl rfl rfl ?_
      refine qi hq ?_
      unfold kdI
      first | exact if_pos (by assumption) | (rw [if_neg (by assumption)]; first | exact if_pos (by first | assumption | exact Decidable.not_not.mp (by assumption)) | (rw [if_neg (by assumption)]; first | exact if_pos (by first | assumption | exact Decidable.not_not.mp (by assumption)) | (rw [if_neg (by assumption)]; first | exact if_pos (by first | assumption | exact Decidable.not_not.mp (by assumption)) | (rw [if_neg (by assumption)]; first | exact if_pos (by first | assumption | exact Decidable.not_not.mp (by assumption)) | exact if_neg (by assumption)))))
  · refine xr_iconst (v := nI 0) (n := 8) dX8_kindOf_7 (by decide) rfl ?_
    refine xr_goto (n := 52) dX8_kindOf_8 (by decide) ?_
    refine xr_ireturn dX8_kindOf_52 rfl rfl rfl ?_
    refine qi hq ?_
    unfold kdI
    first | exact if_pos (by assumption) | (rw [if_neg (by assumption)]; first | exact if_pos (by first | assumption | exact Decidable.not_not.mp (by assumption)) | (rw [if_neg (by assumption)]; first | exact if_pos (by first | assumption | exact Decidable.not_not.mp (by assumption)) | (rw [if_neg (by assumption)]; first | exact if_pos (by first | assumption | exact Decidable.not_not.mp (by assumption)) | (rw [if_neg (by assumption)]; first | exact if_pos (by first | assumption | exact Decidable.not_not.mp (by assumption)) | exact if_neg (by assumption)))))

theorem s_X8_readsSetting {G : xG} {d : Nat} {f : Nat → xC} {r : Nat × Nat} {Q : Option Value → xM → Prop} {m : Nat} {μ : xS} {n a s k : Nat} {P : Nat → Nat → Nat} (hp : pst μ n a) (hP : isPg (μ 5) k P) (hs : s < k) (hk : k ≤ 60) (hz : ∀ w, 0 < w → w < 7 → P s w = 0) (hq : ∀ ν, sam μ ν → pst ν n (seF (μ 3) n a).2.1 → ((seF (μ 3) n a).1 = true → isPg (ν 5) k (pset P s (seF (μ 3) n a).2.2)) → Q (some (.int (b2i ((seF (μ 3) n a).1 = true)))) (mput f m ν, r)) : xMet G (d + 3) mX8_readsSetting [.ref m, .int (nI s)] (mput f m μ, r) r Q := by
  refine xMet_0 (by decide +kernel) rfl (Nat.le_of_ble_eq_true rfl) ?_
  show xX G (d + 3) mX8_readsSetting r r (xΦ G r r Q) 0 [(0, .ref m), (1, .int (nI s))] [] (mput f m μ, r)
  refine xr_aload_n (n := 1) dX8_readsSetting_0 rfl rfl ?_
  refine xr_iload_n (n := 2) dX8_readsSetting_1 rfl rfl ?_
  refine xr_callV (y2 := mX8_readsCell) (As := [_]) (n := 5) dX8_readsSetting_2 lm_X8_87 pm_X8_readsCell pi_X8_readsCell (by first | exact mput_0 _ _ _ | exact mput_r (by decide)) rfl rfl rfl (by simp [Value.category]) rfl ⟨Nat.le_refl _, Nat.le_refl _⟩ ?_
  refine s_X8_readsCell hp (by omega) (fun ν1 hr1 => ?_)
  obtain ⟨r1, p1, t1, f1⟩ := hr1
  have e1 : ν1 3 = μ 3 := r1 3 (by omega) (by omega)
  dsimp only [xK, xps]
  refine xr_beq (tgt := 26) (n := 8) dX8_readsSetting_5 (by decide) rfl (fun h5 => ?_) (fun h5 => ?_)
  · have hse : seF (μ 3) n a = _ := if_neg h5
    refine xr_iconst (v := nI 0) (n := 27) dX8_readsSetting_26 (by decide) rfl ?_
    refine xr_ireturn dX8_readsSetting_27 rfl (by first | exact b2i_nar | exact nar_1 | exact nar_0) rfl ?_
    refine qi (hq _ r1 ?_ (fun q => ?_)) ?_
    · rw [hse]; exact p1
    · rw [hse] at q; cases q
    · rw [hse]; rfl
  · have hse : seF (μ 3) n a = _ := if_pos h5
    have t1 := t1 h5
    refine xr_aload_n (n := 9) dX8_readsSetting_8 rfl rfl ?_
    refine xr_bipush (v := nI 61) (n := 11) dX8_readsSetting_9 (by decide) rfl ?_
    refine xr_callV (y2 := mX8_passes) (As := [_]) (n := 14) dX8_readsSetting_11 lm_X8_90 pm_X8_passes pi_X8_passes (by first | exact mput_0 _ _ _ | exact mput_r (by decide)) rfl rfl rfl (by simp [Value.category]) rfl ⟨Nat.le_refl _, Nat.le_refl _⟩ ?_
    refine s_X8_passes p1 (nz 61 (by omega) (by omega)) ?_
    rw [e1]
    dsimp only [xK, xps]
    refine xr_beq (tgt := 26) (n := 17) dX8_readsSetting_14 (by decide) rfl (fun h14 => ?_) (fun h14 => ?_)
    · have hse2 := hse.trans (if_neg h14)
      have p2 := p1.at (pas_le (t := μ 3) p1.2.2.1 (nz 61 (by omega) (by omega)))
      refine xr_iconst (v := nI 0) (n := 27) dX8_readsSetting_26 (by decide) rfl ?_
      refine xr_ireturn dX8_readsSetting_27 rfl (by first | exact b2i_nar | exact nar_1 | exact nar_0) rfl ?_
      refine qi (hq _ (sam.u6 r1) ?_ (fun q => ?_)) ?_
      · rw [hse2]; exact p2
      · rw [hse2] at q; cases q
      · rw [hse2]; rfl
    · have hse2 := hse.trans (if_pos h14)
      have p2 := p1.at (pas_le (t := μ 3) p1.2.2.1 (nz 61 (by omega) (by omega)))
      refine xr_aload_n (n := 18) dX8_readsSetting_17 rfl rfl ?_
      refine xr_iload_n (n := 19) dX8_readsSetting_18 rfl rfl ?_
      refine xr_iconst (v := nI 3) (n := 20) dX8_readsSetting_19 (by decide) rfl ?_
      refine xr_callV (y2 := mX8_readsTerm) (As := [_, _]) (n := 23) dX8_readsSetting_20 lm_X8_93 pm_X8_readsTerm pi_X8_readsTerm (by first | exact mput_0 _ _ _ | exact mput_r (by decide)) rfl rfl rfl (by simp [Value.category]) rfl ⟨Nat.le_refl _, Nat.le_refl _⟩ ?_
      refine s_X8_readsTerm p2 (by omega) (by omega) (fun ν3 hr3 => ?_)
      rw [up2_n ν1 0 _ (show 3 ≠ 6 by omega), e1] at hr3
      rw [up2_n ν1 0 _ (show 3 ≠ 6 by omega), e1]
      obtain ⟨r3, p3, t3, f3⟩ := hr3
      have s3 : sam μ ν3 := (sam.u6 r1).tr r3
      have e3 : ν3 3 = μ 3 := s3 3 (by omega) (by omega)
      dsimp only [xK, xps]
      refine xr_bne (tgt := 28) (n := 26) dX8_readsSetting_23 (by decide) rfl (fun h23 => ?_) (fun h23 => ?_)
      · have hse3 := hse2.trans (if_pos h23)
        have t3 := t3 h23
        refine xr_aload_n (n := 29) dX8_readsSetting_28 rfl rfl ?_
        refine xr_callV (y2 := mX8_here) (As := []) (n := 32) dX8_readsSetting_29 lm_X8_75 pm_X8_here pi_X8_here (by first | exact mput_0 _ _ _ | exact mput_r (by decide)) rfl rfl rfl (by simp [Value.category]) rfl ⟨Nat.le_refl _, Nat.le_refl _⟩ ?_
        have e35 : ν3 5 = upd (upd (μ 5) (1 + 7 * s + 1) (nI (ceF (μ 3) n a).2.2)) (1 + 7 * s + 3) (nI (teF (μ 3) n (pas (μ 3) n (ceF (μ 3) n a).2.1 (nI 61))).2.2) := by rw [t3, up2_n _ _ _ (by omega), t1]
        have pr3 := (pg1 (s := s) (c := (ceF (μ 3) n a).2.2) hP).up (s := s) (w := 3) (v := (teF (μ 3) n (pas (μ 3) n (ceF (μ 3) n a).2.1 (nI 61))).2.2) (by omega)
        rw [← e35] at pr3
        refine s_X8_here p3 ?_
        rw [e3]
        rw [show ch (μ 3) n (skp (μ 3) n (teF (μ 3) n (pas (μ 3) n (ceF (μ 3) n a).2.1 (nI 61))).2.1) = (hr (μ 3) n (teF (μ 3) n (pas (μ 3) n (ceF (μ 3) n a).2.1 (nI 61))).2.1) from rfl]
        dsimp only [xK, xps]
        refine xq_istore_n 2 (n := 33) dX8_readsSetting_32 rfl rfl rfl ?_
        simp only [xst, Nat.beq, List.filter, Bool.not_true, Bool.not_false]
        refine xr_iload_n (n := 34) dX8_readsSetting_33 rfl rfl ?_
        refine xr_bipush (v := nI 43) (n := 36) dX8_readsSetting_34 (by decide) rfl ?_
        refine xr_icmp_eq (tgt := 51) (n := 39) dX8_readsSetting_36 (by decide) rfl (fun h36 => ?_) (fun h36 => ?_)
        · have hop : opc (hr (μ 3) n (teF (μ 3) n (pas (μ 3) n (ceF (μ 3) n a).2.1 (nI 61))).2.1) := Or.inl h36
          have hlo := hr_lt (opc_n hop).2
          have hse4 := hse3.trans (if_pos hop)
          refine xr_aload_n (n := 52) dX8_readsSetting_51 rfl rfl ?_
          refine xr_dup (n := 53) dX8_readsSetting_52 rfl rfl ?_
          refine xr_get (n := 56) dX8_readsSetting_53 fl_X8_72 (by first | exact mput_0 _ _ _ | exact mput_r (by decide)) (by rfl) rfl ?_
          try simp (disch := omega) only [nI_clamp, pk_mul, nI_add, oi1, up2_a, ur_a, Nat.reduceEqDiff, Nat.reduceMul, Nat.reduceAdd, reduceIte, if_pos, if_neg]
          refine xr_iconst (v := nI 1) (n := 57) dX8_readsSetting_56 (by decide) rfl ?_
          refine xr_iadd (n := 58) dX8_readsSetting_57 rfl ?_
          try simp (disch := omega) only [nI_clamp, pk_mul, nI_add, oi1, up2_a, ur_a, Nat.reduceEqDiff, Nat.reduceMul, Nat.reduceAdd, reduceIte, if_pos, if_neg]
          refine xq_put (n := 61) dX8_readsSetting_58 fl_X8_72 rfl (by first | exact mput_0 _ _ _ | exact mput_r (by decide)) (by rfl) (by rfl) (by rfl) rfl ?_
          simp (disch := omega) only [nI_clamp, List.set, mw_0, mw_1, mw_2, mw_3, mw_4, mw_5, mw_6, mw_7, mw_8, mw_9, mw_10, mw_11, mw_12, mw_13, mw_14, mw_15, mw_16, mw_17, mw_18, mw_19]
          rw [up2_up2]
          refine xr_aload_n (n := 62) dX8_readsSetting_61 rfl rfl ?_
          refine xr_iload_n (n := 63) dX8_readsSetting_62 rfl rfl ?_
          refine xr_iconst (v := nI 2) (n := 64) dX8_readsSetting_63 (by decide) rfl ?_
          refine xr_iload_n (n := 65) dX8_readsSetting_64 rfl rfl ?_
          refine xr_callV (y2 := mX8_put) (As := [_, _, _]) (n := 68) dX8_readsSetting_65 lm_X8_83 pm_X8_put pi_X8_put (by first | exact mput_0 _ _ _ | exact mput_r (by decide)) rfl rfl rfl (by simp [Value.category]) rfl ⟨Nat.le_refl _, Nat.le_refl _⟩ ?_
          refine s_X8_put (by omega) (by omega) ?_
          dsimp only [xK, xps]
          refine xr_aload_n (n := 69) dX8_readsSetting_68 rfl rfl ?_
          refine xr_iload_n (n := 70) dX8_readsSetting_69 rfl rfl ?_
          refine xr_iconst (v := nI 4) (n := 71) dX8_readsSetting_70 (by decide) rfl ?_
          refine xr_callV (y2 := mX8_readsTerm) (As := [_, _]) (n := 74) dX8_readsSetting_71 lm_X8_93 pm_X8_readsTerm pi_X8_readsTerm (by first | exact mput_0 _ _ _ | exact mput_r (by decide)) rfl rfl rfl (by simp [Value.category]) rfl ⟨Nat.le_refl _, Nat.le_refl _⟩ ?_
          have p5 := (p3.at (b := skp (μ 3) n (teF (μ 3) n (pas (μ 3) n (ceF (μ 3) n a).2.1 (nI 61))).2.1 + 1) (by omega)).u5 (j := 1 + 7 * s + 2) (v := (hr (μ 3) n (teF (μ 3) n (pas (μ 3) n (ceF (μ 3) n a).2.1 (nI 61))).2.1))
          refine s_X8_readsTerm p5 (by omega) (by omega) (fun ν4 hr4 => ?_)
          rw [up2_n (up2 _ 6 0 _) _ _ (show 3 ≠ 5 by omega), up2_n ν3 0 _ (show 3 ≠ 6 by omega), e3] at hr4
          rw [up2_n (up2 _ 6 0 _) _ _ (show 3 ≠ 5 by omega), up2_n ν3 0 _ (show 3 ≠ 6 by omega), e3]
          obtain ⟨r4, p4, t4, f4⟩ := hr4
          have s4 : sam μ ν4 := (sam.u5 (sam.u6 s3)).tr r4
          have e4 : ν4 3 = μ 3 := s4 3 (by omega) (by omega)
          have pr4 := pr3.up (s := s) (w := 2) (v := ix (hr (μ 3) n (teF (μ 3) n (pas (μ 3) n (ceF (μ 3) n a).2.1 (nI 61))).2.1)) (by omega)
          rw [← (opc_n hop).1] at pr4
          dsimp only [xK, xps]
          refine xr_bne (tgt := 79) (n := 77) dX8_readsSetting_74 (by decide) rfl (fun h74 => ?_) (fun h74 => ?_)
          · have hse5 := hse4.trans (if_pos h74)
            refine xr_aload_n (n := 80) dX8_readsSetting_79 rfl rfl ?_
            refine xr_bipush (v := nI 59) (n := 82) dX8_readsSetting_80 (by decide) rfl ?_
            refine xr_callV (y2 := mX8_passes) (As := [_]) (n := 85) dX8_readsSetting_82 lm_X8_90 pm_X8_passes pi_X8_passes (by first | exact mput_0 _ _ _ | exact mput_r (by decide)) rfl rfl rfl (by simp [Value.category]) rfl ⟨Nat.le_refl _, Nat.le_refl _⟩ ?_
            first | (refine s_X8_passes p4 (nz 59 (by omega) (by omega)) ?_; rw [e4]) | (refine s_X8_passes (p3.at (skp_le p3.2.2.1)) (nz 59 (by omega) (by omega)) ?_; rw [up2_n ν3 0 _ (show 3 ≠ 6 by omega), e3])
            dsimp only [xK, xps]
            refine xr_ireturn dX8_readsSetting_85 rfl (by first | exact b2i_nar | exact nar_1 | exact nar_0) rfl ?_
            have hh5 := hse5
            refine qi (hq _ (sam.u6 s4) ?_ (fun q => ?_)) ?_
            · rw [hh5]; exact p4.at (pas_le p4.2.2.1 (nz 59 (by omega) (by omega)))
            · rw [hh5, up2_n _ _ _ (by omega)]
              rw [t4 h74, up2_s, up2_n _ _ _ (by omega)]
              exact row4 hz (pr4.up (w := 4) (by omega))
            · rw [hh5]
              exact b2i_iff (by unfold sE5; exact decide_eq_true_iff)
          · have hse5 := hse4.trans (if_neg h74)
            refine xr_iconst (v := nI 0) (n := 78) dX8_readsSetting_77 (by decide) rfl ?_
            refine xr_ireturn dX8_readsSetting_78 rfl (by first | exact b2i_nar | exact nar_1 | exact nar_0) rfl ?_
            refine qi (hq _ s4 ?_ (fun q => ?_)) ?_
            · rw [hse5]; exact p4
            · rw [hse5] at q; cases q
            · rw [hse5]; rfl
        · refine xr_iload_n (n := 40) dX8_readsSetting_39 rfl rfl ?_
          refine xr_bipush (v := nI 45) (n := 42) dX8_readsSetting_40 (by decide) rfl ?_
          refine xr_icmp_eq (tgt := 51) (n := 45) dX8_readsSetting_42 (by decide) rfl (fun h42 => ?_) (fun h42 => ?_)
          · have hop : opc (hr (μ 3) n (teF (μ 3) n (pas (μ 3) n (ceF (μ 3) n a).2.1 (nI 61))).2.1) := Or.inr (Or.inl h42)
            have hlo := hr_lt (opc_n hop).2
            have hse4 := hse3.trans (if_pos hop)
            refine xr_aload_n (n := 52) dX8_readsSetting_51 rfl rfl ?_
            refine xr_dup (n := 53) dX8_readsSetting_52 rfl rfl ?_
            refine xr_get (n := 56) dX8_readsSetting_53 fl_X8_72 (by first | exact mput_0 _ _ _ | exact mput_r (by decide)) (by rfl) rfl ?_
            try simp (disch := omega) only [nI_clamp, pk_mul, nI_add, oi1, up2_a, ur_a, Nat.reduceEqDiff, Nat.reduceMul, Nat.reduceAdd, reduceIte, if_pos, if_neg]
            refine xr_iconst (v := nI 1) (n := 57) dX8_readsSetting_56 (by decide) rfl ?_
            refine xr_iadd (n := 58) dX8_readsSetting_57 rfl ?_
            try simp (disch := omega) only [nI_clamp, pk_mul, nI_add, oi1, up2_a, ur_a, Nat.reduceEqDiff, Nat.reduceMul, Nat.reduceAdd, reduceIte, if_pos, if_neg]
            refine xq_put (n := 61) dX8_readsSetting_58 fl_X8_72 rfl (by first | exact mput_0 _ _ _ | exact mput_r (by decide)) (by rfl) (by rfl) (by rfl) rfl ?_
            simp (disch := omega) only [nI_clamp, List.set, mw_0, mw_1, mw_2, mw_3, mw_4, mw_5, mw_6, mw_7, mw_8, mw_9, mw_10, mw_11, mw_12, mw_13, mw_14, mw_15, mw_16, mw_17, mw_18, mw_19]
            rw [up2_up2]
            refine xr_aload_n (n := 62) dX8_readsSetting_61 rfl rfl ?_
            refine xr_iload_n (n := 63) dX8_readsSetting_62 rfl rfl ?_
            refine xr_iconst (v := nI 2) (n := 64) dX8_readsSetting_63 (by decide) rfl ?_
            refine xr_iload_n (n := 65) dX8_readsSetting_64 rfl rfl ?_
            refine xr_callV (y2 := mX8_put) (As := [_, _, _]) (n := 68) dX8_readsSetting_65 lm_X8_83 pm_X8_put pi_X8_put (by first | exact mput_0 _ _ _ | exact mput_r (by decide)) rfl rfl rfl (by simp [Value.category]) rfl ⟨Nat.le_refl _, Nat.le_refl _⟩ ?_
            refine s_X8_put (by omega) (by omega) ?_
            dsimp only [xK, xps]
            refine xr_aload_n (n := 69) dX8_readsSetting_68 rfl rfl ?_
            refine xr_iload_n (n := 70) dX8_readsSetting_69 rfl rfl ?_
            refine xr_iconst (v := nI 4) (n := 71) dX8_readsSetting_70 (by decide) rfl ?_
            refine xr_callV (y2 := mX8_readsTerm) (As := [_, _]) (n := 74) dX8_readsSetting_71 lm_X8_93 pm_X8_readsTerm pi_X8_readsTerm (by first | exact mput_0 _ _ _ | exact mput_r (by decide)) rfl rfl rfl (by simp [Value.category]) rfl ⟨Nat.le_refl _, Nat.le_refl _⟩ ?_
            have p5 := (p3.at (b := skp (μ 3) n (teF (μ 3) n (pas (μ 3) n (ceF (μ 3) n a).2.1 (nI 61))).2.1 + 1) (by omega)).u5 (j := 1 + 7 * s + 2) (v := (hr (μ 3) n (teF (μ 3) n (pas (μ 3) n (ceF (μ 3) n a).2.1 (nI 61))).2.1))
            refine s_X8_readsTerm p5 (by omega) (by omega) (fun ν4 hr4 => ?_)
            rw [up2_n (up2 _ 6 0 _) _ _ (show 3 ≠ 5 by omega), up2_n ν3 0 _ (show 3 ≠ 6 by omega), e3] at hr4
            rw [up2_n (up2 _ 6 0 _) _ _ (show 3 ≠ 5 by omega), up2_n ν3 0 _ (show 3 ≠ 6 by omega), e3]
            obtain ⟨r4, p4, t4, f4⟩ := hr4
            have s4 : sam μ ν4 := (sam.u5 (sam.u6 s3)).tr r4
            have e4 : ν4 3 = μ 3 := s4 3 (by omega) (by omega)
            have pr4 := pr3.up (s := s) (w := 2) (v := ix (hr (μ 3) n (teF (μ 3) n (pas (μ 3) n (ceF (μ 3) n a).2.1 (nI 61))).2.1)) (by omega)
            rw [← (opc_n hop).1] at pr4
            dsimp only [xK, xps]
            refine xr_bne (tgt := 79) (n := 77) dX8_readsSetting_74 (by decide) rfl (fun h74 => ?_) (fun h74 => ?_)
            · have hse5 := hse4.trans (if_pos h74)
              refine xr_aload_n (n := 80) dX8_readsSetting_79 rfl rfl ?_
              refine xr_bipush (v := nI 59) (n := 82) dX8_readsSetting_80 (by decide) rfl ?_
              refine xr_callV (y2 := mX8_passes) (As := [_]) (n := 85) dX8_readsSetting_82 lm_X8_90 pm_X8_passes pi_X8_passes (by first | exact mput_0 _ _ _ | exact mput_r (by decide)) rfl rfl rfl (by simp [Value.category]) rfl ⟨Nat.le_refl _, Nat.le_refl _⟩ ?_
              first | (refine s_X8_passes p4 (nz 59 (by omega) (by omega)) ?_; rw [e4]) | (refine s_X8_passes (p3.at (skp_le p3.2.2.1)) (nz 59 (by omega) (by omega)) ?_; rw [up2_n ν3 0 _ (show 3 ≠ 6 by omega), e3])
              dsimp only [xK, xps]
              refine xr_ireturn dX8_readsSetting_85 rfl (by first | exact b2i_nar | exact nar_1 | exact nar_0) rfl ?_
              have hh5 := hse5
              refine qi (hq _ (sam.u6 s4) ?_ (fun q => ?_)) ?_
              · rw [hh5]; exact p4.at (pas_le p4.2.2.1 (nz 59 (by omega) (by omega)))
              · rw [hh5, up2_n _ _ _ (by omega)]
                rw [t4 h74, up2_s, up2_n _ _ _ (by omega)]
                exact row4 hz (pr4.up (w := 4) (by omega))
              · rw [hh5]
                exact b2i_iff (by unfold sE5; exact decide_eq_true_iff)
            · have hse5 := hse4.trans (if_neg h74)
              refine xr_iconst (v := nI 0) (n := 78) dX8_readsSetting_77 (by decide) rfl ?_
              refine xr_ireturn dX8_readsSetting_78 rfl (by first | exact b2i_nar | exact nar_1 | exact nar_0) rfl ?_
              refine qi (hq _ s4 ?_ (fun q => ?_)) ?_
              · rw [hse5]; exact p4
              · rw [hse5] at q; cases q
              · rw [hse5]; rfl
          · refine xr_iload_n (n := 46) dX8_readsSetting_45 rfl rfl ?_
            refine xr_bipush (v := nI 42) (n := 48) dX8_readsSetting_46 (by decide) rfl ?_
            refine xr_icmp_ne (tgt := 79) (n := 51) dX8_readsSetting_48 (by decide) rfl (fun h48 => ?_) (fun h48 => ?_)
            · have hop : ¬ opc (hr (μ 3) n (teF (μ 3) n (pas (μ 3) n (ceF (μ 3) n a).2.1 (nI 61))).2.1) := fun q => q.elim h36 (fun q => q.elim h42 h48)
              have hse4 := hse3.trans (if_neg hop)
              refine xr_aload_n (n := 80) dX8_readsSetting_79 rfl rfl ?_
              refine xr_bipush (v := nI 59) (n := 82) dX8_readsSetting_80 (by decide) rfl ?_
              refine xr_callV (y2 := mX8_passes) (As := [_]) (n := 85) dX8_readsSetting_82 lm_X8_90 pm_X8_passes pi_X8_passes (by first | exact mput_0 _ _ _ | exact mput_r (by decide)) rfl rfl rfl (by simp [Value.category]) rfl ⟨Nat.le_refl _, Nat.le_refl _⟩ ?_
              first | (refine s_X8_passes p4 (nz 59 (by omega) (by omega)) ?_; rw [e4]) | (refine s_X8_passes (p3.at (skp_le p3.2.2.1)) (nz 59 (by omega) (by omega)) ?_; rw [up2_n ν3 0 _ (show 3 ≠ 6 by omega), e3])
              dsimp only [xK, xps]
              refine xr_ireturn dX8_readsSetting_85 rfl (by first | exact b2i_nar | exact nar_1 | exact nar_0) rfl ?_
              have hh5 := hse4
              refine qi (hq _ (sam.u6 (sam.u6 s3)) ?_ (fun q => ?_)) ?_
              · rw [hh5]; exact (p3.at (skp_le p3.2.2.1)).at (pas_le (skp_le p3.2.2.1) (nz 59 (by omega) (by omega)))
              · rw [hh5, up2_n _ _ _ (by omega)]
                rw [up2_n _ _ _ (by omega)]
                exact row2 hz pr3
              · rw [hh5]
                exact b2i_iff (by unfold sE5; exact decide_eq_true_iff)
            · have hop : opc (hr (μ 3) n (teF (μ 3) n (pas (μ 3) n (ceF (μ 3) n a).2.1 (nI 61))).2.1) := Or.inr (Or.inr (by first | exact h48 | exact Decidable.not_not.mp h48))
              have hlo := hr_lt (opc_n hop).2
              have hse4 := hse3.trans (if_pos hop)
              refine xr_aload_n (n := 52) dX8_readsSetting_51 rfl rfl ?_
              refine xr_dup (n := 53) dX8_readsSetting_52 rfl rfl ?_
              refine xr_get (n := 56) dX8_readsSetting_53 fl_X8_72 (by first | exact mput_0 _ _ _ | exact mput_r (by decide)) (by rfl) rfl ?_
              try simp (disch := omega) only [nI_clamp, pk_mul, nI_add, oi1, up2_a, ur_a, Nat.reduceEqDiff, Nat.reduceMul, Nat.reduceAdd, reduceIte, if_pos, if_neg]
              refine xr_iconst (v := nI 1) (n := 57) dX8_readsSetting_56 (by decide) rfl ?_
              refine xr_iadd (n := 58) dX8_readsSetting_57 rfl ?_
              try simp (disch := omega) only [nI_clamp, pk_mul, nI_add, oi1, up2_a, ur_a, Nat.reduceEqDiff, Nat.reduceMul, Nat.reduceAdd, reduceIte, if_pos, if_neg]
              refine xq_put (n := 61) dX8_readsSetting_58 fl_X8_72 rfl (by first | exact mput_0 _ _ _ | exact mput_r (by decide)) (by rfl) (by rfl) (by rfl) rfl ?_
              simp (disch := omega) only [nI_clamp, List.set, mw_0, mw_1, mw_2, mw_3, mw_4, mw_5, mw_6, mw_7, mw_8, mw_9, mw_10, mw_11, mw_12, mw_13, mw_14, mw_15, mw_16, mw_17, mw_18, mw_19]
              rw [up2_up2]
              refine xr_aload_n (n := 62) dX8_readsSetting_61 rfl rfl ?_
              refine xr_iload_n (n := 63) dX8_readsSetting_62 rfl rfl ?_
              refine xr_iconst (v := nI 2) (n := 64) dX8_readsSetting_63 (by decide) rfl ?_
              refine xr_iload_n (n := 65) dX8_readsSetting_64 rfl rfl ?_
              refine xr_callV (y2 := mX8_put) (As := [_, _, _]) (n := 68) dX8_readsSetting_65 lm_X8_83 pm_X8_put pi_X8_put (by first | exact mput_0 _ _ _ | exact mput_r (by decide)) rfl rfl rfl (by simp [Value.category]) rfl ⟨Nat.le_refl _, Nat.le_refl _⟩ ?_
              refine s_X8_put (by omega) (by omega) ?_
              dsimp only [xK, xps]
              refine xr_aload_n (n := 69) dX8_readsSetting_68 rfl rfl ?_
              refine xr_iload_n (n := 70) dX8_readsSetting_69 rfl rfl ?_
              refine xr_iconst (v := nI 4) (n := 71) dX8_readsSetting_70 (by decide) rfl ?_
              refine xr_callV (y2 := mX8_readsTerm) (As := [_, _]) (n := 74) dX8_readsSetting_71 lm_X8_93 pm_X8_readsTerm pi_X8_readsTerm (by first | exact mput_0 _ _ _ | exact mput_r (by decide)) rfl rfl rfl (by simp [Value.category]) rfl ⟨Nat.le_refl _, Nat.le_refl _⟩ ?_
              have p5 := (p3.at (b := skp (μ 3) n (teF (μ 3) n (pas (μ 3) n (ceF (μ 3) n a).2.1 (nI 61))).2.1 + 1) (by omega)).u5 (j := 1 + 7 * s + 2) (v := (hr (μ 3) n (teF (μ 3) n (pas (μ 3) n (ceF (μ 3) n a).2.1 (nI 61))).2.1))
              refine s_X8_readsTerm p5 (by omega) (by omega) (fun ν4 hr4 => ?_)
              rw [up2_n (up2 _ 6 0 _) _ _ (show 3 ≠ 5 by omega), up2_n ν3 0 _ (show 3 ≠ 6 by omega), e3] at hr4
              rw [up2_n (up2 _ 6 0 _) _ _ (show 3 ≠ 5 by omega), up2_n ν3 0 _ (show 3 ≠ 6 by omega), e3]
              obtain ⟨r4, p4, t4, f4⟩ := hr4
              have s4 : sam μ ν4 := (sam.u5 (sam.u6 s3)).tr r4
              have e4 : ν4 3 = μ 3 := s4 3 (by omega) (by omega)
              have pr4 := pr3.up (s := s) (w := 2) (v := ix (hr (μ 3) n (teF (μ 3) n (pas (μ 3) n (ceF (μ 3) n a).2.1 (nI 61))).2.1)) (by omega)
              rw [← (opc_n hop).1] at pr4
              dsimp only [xK, xps]
              refine xr_bne (tgt := 79) (n := 77) dX8_readsSetting_74 (by decide) rfl (fun h74 => ?_) (fun h74 => ?_)
              · have hse5 := hse4.trans (if_pos h74)
                refine xr_aload_n (n := 80) dX8_readsSetting_79 rfl rfl ?_
                refine xr_bipush (v := nI 59) (n := 82) dX8_readsSetting_80 (by decide) rfl ?_
                refine xr_callV (y2 := mX8_passes) (As := [_]) (n := 85) dX8_readsSetting_82 lm_X8_90 pm_X8_passes pi_X8_passes (by first | exact mput_0 _ _ _ | exact mput_r (by decide)) rfl rfl rfl (by simp [Value.category]) rfl ⟨Nat.le_refl _, Nat.le_refl _⟩ ?_
                first | (refine s_X8_passes p4 (nz 59 (by omega) (by omega)) ?_; rw [e4]) | (refine s_X8_passes (p3.at (skp_le p3.2.2.1)) (nz 59 (by omega) (by omega)) ?_; rw [up2_n ν3 0 _ (show 3 ≠ 6 by omega), e3])
                dsimp only [xK, xps]
                refine xr_ireturn dX8_readsSetting_85 rfl (by first | exact b2i_nar | exact nar_1 | exact nar_0) rfl ?_
                have hh5 := hse5
                refine qi (hq _ (sam.u6 s4) ?_ (fun q => ?_)) ?_
                · rw [hh5]; exact p4.at (pas_le p4.2.2.1 (nz 59 (by omega) (by omega)))
                · rw [hh5, up2_n _ _ _ (by omega)]
                  rw [t4 h74, up2_s, up2_n _ _ _ (by omega)]
                  exact row4 hz (pr4.up (w := 4) (by omega))
                · rw [hh5]
                  exact b2i_iff (by unfold sE5; exact decide_eq_true_iff)
              · have hse5 := hse4.trans (if_neg h74)
                refine xr_iconst (v := nI 0) (n := 78) dX8_readsSetting_77 (by decide) rfl ?_
                refine xr_ireturn dX8_readsSetting_78 rfl (by first | exact b2i_nar | exact nar_1 | exact nar_0) rfl ?_
                refine qi (hq _ s4 ?_ (fun q => ?_)) ?_
                · rw [hse5]; exact p4
                · rw [hse5] at q; cases q
                · rw [hse5]; rfl
      · have hse3 := hse2.trans (if_neg h23)
        refine xr_iconst (v := nI 0) (n := 27) dX8_readsSetting_26 (by decide) rfl ?_
        refine xr_ireturn dX8_readsSetting_27 rfl (by first | exact b2i_nar | exact nar_1 | exact nar_0) rfl ?_
        refine qi (hq _ s3 ?_ (fun q => ?_)) ?_
        · rw [hse3]; exact p3
        · rw [hse3] at q; cases q
        · rw [hse3]; rfl
