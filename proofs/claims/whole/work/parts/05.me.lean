theorem xX.drop {G : xG} {d : Nat} {y : xY} {r0 lim : Nat × Nat} {Φ : xF} {ls : List (Nat × Value)} {st : List Value} {M : xM} {pc : Nat} (i : Nat) (k : xX G d y r0 lim Φ pc (ls.filter (fun q => !(Nat.beq q.1 i))) st M) : xX G d y r0 lim Φ pc ls st M := by
  intro p e R s m args below meth c Zf H locs lo hΦ hC hw hS hl hb
  exact k p e R s m args below meth c Zf H locs lo hΦ hC hw hS ⟨⟨hl.1.1, hl.1.2.1, fun q hq => hl.1.2.2 q (List.mem_filter.mp hq).1⟩, fun q hq => hl.2 q (List.mem_filter.mp hq).1⟩ hb
theorem isPg.congr {row : Nat → Int32} {n : Nat} {P P' : Nat → Nat → Nat} (h : ∀ s w, s < n → w < 7 → P s w = P' s w) (hP : isPg row n P) : isPg row n P' := ⟨hP.1, fun s w hs hw => by rw [hP.2 s w hs hw, h s w hs hw]⟩
theorem isPg.up {row : Nat → Int32} {n s w v : Nat} {P : Nat → Nat → Nat} (hP : isPg row n P) (hw : w < 7) : isPg (upd row (1 + 7 * s + w) (nI v)) n (fun j u => if j = s ∧ u = w then v else P j u) := by
  refine ⟨?_, fun j u hj hu => ?_⟩
  · unfold upd
    rw [if_neg (by omega)]
    exact hP.1
  · unfold upd
    show _ = nI (if j = s ∧ u = w then v else P j u)
    by_cases e : j = s ∧ u = w
    · rw [if_pos e, if_pos (by obtain ⟨rfl, rfl⟩ := e; rfl)]
    · rw [if_neg e, if_neg (by omega)]
      exact hP.2 j u hj hu
def pend (P : Nat → Nat → Nat) (s : Nat) : Nat := if 3 ≤ P s 0 then P s 6 else s + 1
def psz (P : Nat → Nat → Nat) (s : Nat) : Nat := if 3 ≤ P s 0 then P s 6 - s else 1
/-- what is nested lies within -/
def lam (n : Nat) (P : Nat → Nat → Nat) : Prop := ∀ j k, j < k → k < n → 3 ≤ P j 0 → (k < P j 6 → pend P k ≤ P j 6) ∧ (P j 0 = 4 → k < P j 5 → pend P k ≤ P j 5)
def pc0 (P : Nat → Nat → Nat) (s z j w : Nat) : Nat := if w = 6 ∧ (3 ≤ P j 0 ∧ (j < s ∨ s + z ≤ j)) ∧ s < P j 6 then P j 6 - z else if w = 5 ∧ (3 ≤ P j 0 ∧ (j < s ∨ s + z ≤ j)) ∧ P j 0 = 4 ∧ s < P j 5 then P j 5 - z else P j w
def pc1 (P : Nat → Nat → Nat) (s z k : Nat) : Nat → Nat → Nat := fun j w => if j < k then pc0 P s z j w else P j w
def pc2 (P : Nat → Nat → Nat) (s z k : Nat) : Nat → Nat → Nat := fun j w => if s ≤ j ∧ j < k then pc0 P s z (j + z) w else pc0 P s z j w
def pc3 (P : Nat → Nat → Nat) (s z k c : Nat) : Nat → Nat → Nat := fun j w => if j = k ∧ w < c then pc0 P s z (j + z) w else pc2 P s z k j w
/-- the program without its statement s and what is in it -/
def pcut (P : Nat → Nat → Nat) (s : Nat) : Nat → Nat → Nat := fun j w => if j < s then pc0 P s (psz P s) j w else pc0 P s (psz P s) (j + psz P s) w
theorem up2_5 {μ ν : xS} {i : Nat} {v : Int32} (h : ∀ j, j ≠ 5 → ν j = μ j) : ∀ j, j ≠ 5 → up2 ν 5 i v j = μ j := fun j hj => by rw [up2_n _ _ _ hj]; exact h j hj
theorem psz_bd {n s : Nat} {P : Nat → Nat → Nat} (hO : okP n P) (hs : s < n) : 0 < psz P s ∧ s + psz P s ≤ n ∧ pend P s = s + psz P s := by
  unfold psz pend
  by_cases h : 3 ≤ P s 0
  · rw [if_pos h, if_pos h]
    have := (hO.2 s hs).2.2.2.2.2.1 h
    omega
  · rw [if_neg h, if_neg h]
    omega
theorem cut_b6 {n s j : Nat} {P : Nat → Nat → Nat} (hO : okP n P) (hL : lam n P) (hs : s < n) (hj : j < n) (h3 : 3 ≤ P j 0) (ho : j < s ∨ s + psz P s ≤ j) (h6 : s < P j 6) : s + psz P s ≤ P j 6 := by
  rcases ho with h | h
  · have h1 := (hL j s h hs h3).1 h6
    rw [(psz_bd hO hs).2.2] at h1
    exact h1
  · have := (hO.2 j hj).2.2.2.2.2.1 h3
    omega
theorem cut_b5 {n s j : Nat} {P : Nat → Nat → Nat} (hO : okP n P) (hL : lam n P) (hs : s < n) (hj : j < n) (h3 : P j 0 = 4) (ho : j < s ∨ s + psz P s ≤ j) (h6 : s < P j 5) : s + psz P s ≤ P j 5 := by
  rcases ho with h | h
  · have h1 := (hL j s h hs (by omega)).2 h3 h6
    rw [(psz_bd hO hs).2.2] at h1
    exact h1
  · have := (hO.2 j hj).2.2.2.2.2.2 h3
    omega
theorem s_X8_cuts {G : xG} {d : Nat} {f : Nat → xC} {r : Nat × Nat} {Q : Option Value → xM → Prop} {m : Nat} {μ : xS} {n s : Nat} {P : Nat → Nat → Nat} (hP : isPg (μ 5) n P) (hO : okP n P) (hL : lam n P) (hs : s < n) (hq : ∀ ν : xS, (∀ i, i ≠ 5 → ν i = μ i) → isPg (ν 5) (n - psz P s) (pcut P s) → Q none (mput f m ν, r)) : xMet G (d + 2) mX8_cuts [.ref m, .int (nI s)] (mput f m μ, r) r Q := by
  refine xMet_0 (by decide +kernel) rfl (Nat.le_of_ble_eq_true rfl) ?_
  show xX G (d + 2) mX8_cuts r r (xΦ G r r Q) 0 [(0, .ref m), (1, .int (nI s))] [] (mput f m μ, r)
  have hn0 := hP.1
  have hn6 := hO.1
  obtain ⟨z1, z2, z3⟩ := psz_bd hO hs
  refine xr_aload_n (n := 1) dX8_cuts_0 rfl rfl ?_
  refine xr_iload_n (n := 2) dX8_cuts_1 rfl rfl ?_
  refine xr_callV (y2 := mX8_sizeOf) (As := [_]) (n := 5) dX8_cuts_2 lm_X8_128 pm_X8_sizeOf pi_X8_sizeOf (by first | exact mput_0 _ _ _ | exact mput_r (by decide)) rfl rfl rfl (by simp [Value.category]) rfl ⟨Nat.le_refl _, Nat.le_refl _⟩ ?_
  refine s_X8_sizeOf hP hO hs ?_
  rw [show (if 3 ≤ P s 0 then P s 6 - s else 1) = psz P s from rfl]
  dsimp only [xK, xps]
  refine xq_istore_n 2 (n := 6) dX8_cuts_5 rfl rfl rfl ?_
  simp only [xst, Nat.beq, List.filter, Bool.not_true, Bool.not_false]
  refine xr_aload_n (n := 7) dX8_cuts_6 rfl rfl ?_
  refine xr_get (n := 10) dX8_cuts_7 fl_X8_19 (by first | exact mput_0 _ _ _ | exact mput_r (by decide)) (by rfl) rfl ?_
  refine xr_iconst (v := nI 0) (n := 11) dX8_cuts_10 (by decide) rfl ?_
  refine xr_iaload (n := 12) dX8_cuts_11 (by first | exact mput_0 _ _ _ | exact mput_r (by decide)) (by first | exact vp_in_nI (by omega) (by omega)) rfl ?_
  try simp (disch := omega) only [nI_clamp, pk_mul, nI_add, oi1, up2_a, ur_a, Nat.reduceEqDiff, Nat.reduceMul, Nat.reduceAdd, reduceIte, if_pos, if_neg, hn0, pk_sub]
  refine xr_iload_n (n := 13) dX8_cuts_12 rfl rfl ?_
  refine xr_isub (n := 14) dX8_cuts_13 rfl ?_
  try simp (disch := omega) only [nI_clamp, pk_mul, nI_add, oi1, up2_a, ur_a, Nat.reduceEqDiff, Nat.reduceMul, Nat.reduceAdd, reduceIte, if_pos, if_neg, hn0, pk_sub]
  refine xq_istore_n 3 (n := 15) dX8_cuts_14 rfl rfl rfl ?_
  simp only [xst, Nat.beq, List.filter, Bool.not_true, Bool.not_false]
  refine xr_iconst (v := nI 0) (n := 16) dX8_cuts_15 (by decide) rfl ?_
  refine xr_istore (n := 18) dX8_cuts_16 rfl rfl ?_
  simp only [xst, Nat.beq, List.filter, Bool.not_true, Bool.not_false]
  generalize hz : psz P s = z at *
  have outB : ∀ k, s ≤ k → k ≤ n - z → ∀ ν : xS, (∀ i, i ≠ 5 → ν i = μ i) → isPg (ν 5) n (pc2 P s z k) → xX G (d + 2) mX8_cuts r r (xΦ G r r Q) 148 [(0, .ref m), (1, .int (nI s)), (2, .int (nI (z))), (3, .int (nI (n - z))), (4, .int (nI k))] [] (mput f m ν, r) := by
    intro k hsk hk
    revert hsk
    refine nat_down (P := fun k => s ≤ k → ∀ ν : xS, (∀ i, i ≠ 5 → ν i = μ i) → isPg (ν 5) n (pc2 P s z k) → xX G (d + 2) mX8_cuts r r (xΦ G r r Q) 148 [(0, .ref m), (1, .int (nI s)), (2, .int (nI (z))), (3, .int (nI (n - z))), (4, .int (nI k))] [] (mput f m ν, r)) (N := n - z) ?_ ?_ k hk
    · intro hsk ν hν hPν
      refine xr_iload (n := 150) dX8_cuts_148 rfl rfl ?_
      refine xr_iload_n (n := 151) dX8_cuts_150 rfl rfl ?_
      refine xr_icmp_ge (tgt := 194) (n := 154) dX8_cuts_151 (by decide) rfl (fun h151 => ?_) (fun h151 => by (exfalso; ((try simp (disch := omega) only [i_lt, i_le, i_eq, nt, i_m1, Int32.toInt_zero] at *); omega)))
      refine xr_aload_n (n := 195) dX8_cuts_194 rfl rfl ?_
      refine xr_get (n := 198) dX8_cuts_195 fl_X8_19 (by first | exact mput_0 _ _ _ | exact mput_r (by decide)) (by rfl) rfl ?_
      refine xr_iconst (v := nI 0) (n := 199) dX8_cuts_198 (by decide) rfl ?_
      refine xr_iload_n (n := 200) dX8_cuts_199 rfl rfl ?_
      refine xq_iastore (n := 201) dX8_cuts_200 (by first | exact mput_0 _ _ _ | exact mput_r (by decide)) (by first | exact vp_in_nI (by omega) (by omega)) rfl ?_
      simp (disch := omega) only [nI_clamp, List.set, mw_0, mw_1, mw_2, mw_3, mw_4, mw_5, mw_6, mw_7, mw_8, mw_9, mw_10, mw_11, mw_12, mw_13, mw_14, mw_15, mw_16, mw_17, mw_18, mw_19]
      refine xr_return dX8_cuts_201 rfl rfl ?_
      refine hq _ (up2_5 hν) ⟨?_, fun j w hj hw => ?_⟩
      · exact up2_ss _ _ _ _
      · rw [show (up2 ν 5 0 (nI (n - z))) 5 (1 + 7 * j + w) = ν 5 (1 + 7 * j + w) from up2_sn _ _ _ (by omega), hPν.2 j w (by omega) hw]
        subst hz
        congr 1
        unfold pc2 pcut
        by_cases e : j < s
        · rw [if_neg (by omega), if_pos e]
        · rw [if_pos ⟨by omega, hj⟩, if_neg e]
    · intro k hk ih hsk ν hν hPν
      have inn : ∀ c, c ≤ 7 → ∀ ν : xS, (∀ i, i ≠ 5 → ν i = μ i) → isPg (ν 5) n (pc3 P s z k c) → xX G (d + 2) mX8_cuts r r (xΦ G r r Q) 157 [(0, .ref m), (1, .int (nI s)), (2, .int (nI (z))), (3, .int (nI (n - z))), (4, .int (nI k)), (5, .int (nI c))] [] (mput f m ν, r) := by
        refine nat_down (P := fun c => ∀ ν : xS, (∀ i, i ≠ 5 → ν i = μ i) → isPg (ν 5) n (pc3 P s z k c) → xX G (d + 2) mX8_cuts r r (xΦ G r r Q) 157 [(0, .ref m), (1, .int (nI s)), (2, .int (nI (z))), (3, .int (nI (n - z))), (4, .int (nI k)), (5, .int (nI c))] [] (mput f m ν, r)) (N := 7) ?_ ?_
        · intro ν hν hPν
          refine xr_iload (n := 159) dX8_cuts_157 rfl rfl ?_
          refine xr_bipush (v := nI 7) (n := 161) dX8_cuts_159 (by decide) rfl ?_
          refine xr_icmp_ge (tgt := 188) (n := 164) dX8_cuts_161 (by decide) rfl (fun h161 => ?_) (fun h161 => by (exfalso; ((try simp (disch := omega) only [i_lt, i_le, i_eq, nt, i_m1, Int32.toInt_zero] at *); omega)))
          refine xr_iinc (n := 191) dX8_cuts_188 rfl rfl (rfl) rfl ?_
          simp only [xst, Nat.beq, List.filter, Bool.not_true, Bool.not_false]
          try simp (disch := omega) only [nI_clamp, pk_mul, nI_add, oi1, up2_a, ur_a, Nat.reduceEqDiff, Nat.reduceMul, Nat.reduceAdd, reduceIte, if_pos, if_neg]
          refine xr_goto (n := 148) dX8_cuts_191 (by decide) ?_
          refine xX.drop 5 ?_
          simp only [xst, Nat.beq, List.filter, Bool.not_true, Bool.not_false]
          refine ih (by omega) ν hν (isPg.congr (fun j w hj hw => ?_) hPν)
          unfold pc3 pc2
          by_cases e : j = k
          · subst e; rw [if_pos ⟨rfl, hw⟩, if_pos ⟨by omega, by omega⟩]
          · rw [if_neg (by omega)]
            by_cases e2 : s ≤ j ∧ j < k
            · rw [if_pos e2, if_pos ⟨e2.1, by omega⟩]
            · rw [if_neg e2, if_neg (by omega)]
        · intro c hc ih2 ν hν hPν
          have gv : ν 5 (1 + 7 * (k + z) + c) = nI (pc0 P s z (k + z) c) := by
            rw [hPν.2 (k + z) c (by omega) hc]
            congr 1
            unfold pc3 pc2
            rw [if_neg (by omega), if_neg (by omega)]
          refine xr_iload (n := 159) dX8_cuts_157 rfl rfl ?_
          refine xr_bipush (v := nI 7) (n := 161) dX8_cuts_159 (by decide) rfl ?_
          refine xr_icmp_ge (tgt := 188) (n := 164) dX8_cuts_161 (by decide) rfl (fun h161 => by (exfalso; ((try simp (disch := omega) only [i_lt, i_le, i_eq, nt, i_m1, Int32.toInt_zero] at *); omega))) (fun h161 => ?_)
          refine xr_aload_n (n := 165) dX8_cuts_164 rfl rfl ?_
          refine xr_iload (n := 167) dX8_cuts_165 rfl rfl ?_
          refine xr_iload (n := 169) dX8_cuts_167 rfl rfl ?_
          refine xr_aload_n (n := 170) dX8_cuts_169 rfl rfl ?_
          refine xr_iload (n := 172) dX8_cuts_170 rfl rfl ?_
          refine xr_iload_n (n := 173) dX8_cuts_172 rfl rfl ?_
          refine xr_iadd (n := 174) dX8_cuts_173 rfl ?_
          try simp (disch := omega) only [nI_clamp, pk_mul, nI_add, oi1, up2_a, ur_a, Nat.reduceEqDiff, Nat.reduceMul, Nat.reduceAdd, reduceIte, if_pos, if_neg]
          refine xr_iload (n := 176) dX8_cuts_174 rfl rfl ?_
          refine xr_callV (y2 := mX8_of) (As := [_, _]) (n := 179) dX8_cuts_176 lm_X8_124 pm_X8_of pi_X8_of (by first | exact mput_0 _ _ _ | exact mput_r (by decide)) rfl rfl rfl (by simp [Value.category]) rfl ⟨Nat.le_refl _, Nat.le_refl _⟩ ?_
          refine s_X8_of (by omega) (by omega) ?_
          dsimp only [xK, xps]
          try simp (disch := omega) only [nI_clamp, pk_mul, nI_add, oi1, up2_a, ur_a, Nat.reduceEqDiff, Nat.reduceMul, Nat.reduceAdd, reduceIte, if_pos, if_neg]
          rw [gv]
          refine xr_callV (y2 := mX8_put) (As := [_, _, _]) (n := 182) dX8_cuts_179 lm_X8_83 pm_X8_put pi_X8_put (by first | exact mput_0 _ _ _ | exact mput_r (by decide)) rfl rfl rfl (by simp [Value.category]) rfl ⟨Nat.le_refl _, Nat.le_refl _⟩ ?_
          refine s_X8_put (by omega) (by omega) ?_
          dsimp only [xK, xps]
          refine xr_iinc (n := 185) dX8_cuts_182 rfl rfl (rfl) rfl ?_
          simp only [xst, Nat.beq, List.filter, Bool.not_true, Bool.not_false]
          try simp (disch := omega) only [nI_clamp, pk_mul, nI_add, oi1, up2_a, ur_a, Nat.reduceEqDiff, Nat.reduceMul, Nat.reduceAdd, reduceIte, if_pos, if_neg]
          refine xr_goto (n := 157) dX8_cuts_185 (by decide) ?_
          refine ih2 _ (up2_5 hν) ?_
          rw [up2_s]
          refine isPg.congr (fun j w hj hw => ?_) (hPν.up (s := k) (w := c) hc)
          unfold pc3
          by_cases e : j = k ∧ w = c
          · rw [if_pos e, if_pos ⟨e.1, by omega⟩]; obtain ⟨rfl, rfl⟩ := e; rfl
          · rw [if_neg e]
            by_cases e2 : j = k ∧ w < c
            · rw [if_pos e2, if_pos ⟨e2.1, by omega⟩]
            · rw [if_neg e2, if_neg (by omega)]
      refine xr_iload (n := 150) dX8_cuts_148 rfl rfl ?_
      refine xr_iload_n (n := 151) dX8_cuts_150 rfl rfl ?_
      refine xr_icmp_ge (tgt := 194) (n := 154) dX8_cuts_151 (by decide) rfl (fun h151 => by (exfalso; ((try simp (disch := omega) only [i_lt, i_le, i_eq, nt, i_m1, Int32.toInt_zero] at *); omega))) (fun h151 => ?_)
      refine xr_iconst (v := nI 0) (n := 155) dX8_cuts_154 (by decide) rfl ?_
      refine xr_istore (n := 157) dX8_cuts_155 rfl rfl ?_
      simp only [xst, Nat.beq, List.filter, Bool.not_true, Bool.not_false]
      refine inn 0 (by omega) ν hν (isPg.congr (fun j w hj hw => ?_) hPν)
      unfold pc3
      rw [if_neg (by omega)]
  have outA : ∀ k, k ≤ n → ∀ ν : xS, (∀ i, i ≠ 5 → ν i = μ i) → isPg (ν 5) n (pc1 P s z k) → xX G (d + 2) mX8_cuts r r (xΦ G r r Q) 18 [(0, .ref m), (1, .int (nI s)), (2, .int (nI (z))), (3, .int (nI (n - z))), (4, .int (nI k))] [] (mput f m ν, r) := by
    refine nat_down (P := fun k => ∀ ν : xS, (∀ i, i ≠ 5 → ν i = μ i) → isPg (ν 5) n (pc1 P s z k) → xX G (d + 2) mX8_cuts r r (xΦ G r r Q) 18 [(0, .ref m), (1, .int (nI s)), (2, .int (nI (z))), (3, .int (nI (n - z))), (4, .int (nI k))] [] (mput f m ν, r)) (N := n) ?_ ?_
    · intro ν hν hPν
      have hν0 := hPν.1
      refine xr_iload (n := 20) dX8_cuts_18 rfl rfl ?_
      refine xr_aload_n (n := 21) dX8_cuts_20 rfl rfl ?_
      refine xr_get (n := 24) dX8_cuts_21 fl_X8_19 (by first | exact mput_0 _ _ _ | exact mput_r (by decide)) (by rfl) rfl ?_
      refine xr_iconst (v := nI 0) (n := 25) dX8_cuts_24 (by decide) rfl ?_
      refine xr_iaload (n := 26) dX8_cuts_25 (by first | exact mput_0 _ _ _ | exact mput_r (by decide)) (by first | exact vp_in_nI (by omega) (by omega)) rfl ?_
      try simp (disch := omega) only [nI_clamp, pk_mul, nI_add, oi1, up2_a, ur_a, Nat.reduceEqDiff, Nat.reduceMul, Nat.reduceAdd, reduceIte, if_pos, if_neg, hν0]
      refine xr_icmp_ge (tgt := 145) (n := 29) dX8_cuts_26 (by decide) rfl (fun h26 => ?_) (fun h26 => by (exfalso; ((try simp (disch := omega) only [i_lt, i_le, i_eq, nt, i_m1, Int32.toInt_zero] at *); omega)))
      refine xr_iload_n (n := 146) dX8_cuts_145 rfl rfl ?_
      refine xr_istore (n := 148) dX8_cuts_146 rfl rfl ?_
      simp only [xst, Nat.beq, List.filter, Bool.not_true, Bool.not_false]
      refine outB s (Nat.le_refl _) (by omega) ν hν (isPg.congr (fun j w hj hw => ?_) hPν)
      unfold pc1 pc2
      rw [if_pos hj, if_neg (by omega)]
    · intro k hk ih ν hν hPν
      have hν0 := hPν.1
      obtain ⟨k0, k1, k2, k3, k4, k6, k5⟩ := hO.2 k hk
      have g0 : ν 5 (1 + 7 * k + 0) = nI (P k 0) := by rw [hPν.2 k 0 hk (by omega)]; congr 1; unfold pc1; rw [if_neg (Nat.lt_irrefl k)]
      have g5 : ν 5 (1 + 7 * k + 5) = nI (P k 5) := by rw [hPν.2 k 5 hk (by omega)]; congr 1; unfold pc1; rw [if_neg (Nat.lt_irrefl k)]
      have g6 : ν 5 (1 + 7 * k + 6) = nI (P k 6) := by rw [hPν.2 k 6 hk (by omega)]; congr 1; unfold pc1; rw [if_neg (Nat.lt_irrefl k)]
      refine xr_iload (n := 20) dX8_cuts_18 rfl rfl ?_
      refine xr_aload_n (n := 21) dX8_cuts_20 rfl rfl ?_
      refine xr_get (n := 24) dX8_cuts_21 fl_X8_19 (by first | exact mput_0 _ _ _ | exact mput_r (by decide)) (by rfl) rfl ?_
      refine xr_iconst (v := nI 0) (n := 25) dX8_cuts_24 (by decide) rfl ?_
      refine xr_iaload (n := 26) dX8_cuts_25 (by first | exact mput_0 _ _ _ | exact mput_r (by decide)) (by first | exact vp_in_nI (by omega) (by omega)) rfl ?_
      try simp (disch := omega) only [nI_clamp, pk_mul, nI_add, oi1, up2_a, ur_a, Nat.reduceEqDiff, Nat.reduceMul, Nat.reduceAdd, reduceIte, if_pos, if_neg, hν0, g0, g5, g6, pk_sub]
      refine xr_icmp_ge (tgt := 145) (n := 29) dX8_cuts_26 (by decide) rfl (fun h26 => by (exfalso; ((try simp (disch := omega) only [i_lt, i_le, i_eq, nt, i_m1, Int32.toInt_zero] at *); omega))) (fun h26 => ?_)
      refine xr_aload_n (n := 30) dX8_cuts_29 rfl rfl ?_
      refine xr_iload (n := 32) dX8_cuts_30 rfl rfl ?_
      refine xr_iconst (v := nI 0) (n := 33) dX8_cuts_32 (by decide) rfl ?_
      refine xr_callV (y2 := mX8_of) (As := [_, _]) (n := 36) dX8_cuts_33 lm_X8_124 pm_X8_of pi_X8_of (by first | exact mput_0 _ _ _ | exact mput_r (by decide)) rfl rfl rfl (by simp [Value.category]) rfl ⟨Nat.le_refl _, Nat.le_refl _⟩ ?_
      refine s_X8_of (by omega) (by omega) ?_
      dsimp only [xK, xps]
      try simp (disch := omega) only [nI_clamp, pk_mul, nI_add, oi1, up2_a, ur_a, Nat.reduceEqDiff, Nat.reduceMul, Nat.reduceAdd, reduceIte, if_pos, if_neg, hν0, g0, g5, g6, pk_sub]
      refine xr_iconst (v := nI 3) (n := 37) dX8_cuts_36 (by decide) rfl ?_
      refine xr_icmp_lt (tgt := 58) (n := 40) dX8_cuts_37 (by decide) rfl (fun h37 => ?_) (fun h37 => ?_)
      · have e3 : ¬ 3 ≤ P k 0 := by ((try simp (disch := omega) only [i_lt, i_le, i_eq, nt, i_m1, Int32.toInt_zero] at *); omega)
        have eo : ¬ (3 ≤ P k 0 ∧ (k < s ∨ s + z ≤ k)) := fun q => e3 q.1
        refine xr_iconst (v := nI 0) (n := 59) dX8_cuts_58 (by decide) rfl ?_
        refine xr_istore (n := 61) dX8_cuts_59 rfl rfl ?_
        simp only [xst, Nat.beq, List.filter, Bool.not_true, Bool.not_false]
        refine xr_iload (n := 63) dX8_cuts_61 rfl rfl ?_
        refine xr_if_eq (tgt := 96) (n := 66) dX8_cuts_63 (by decide) rfl (fun h63 => ?_) (fun h63 => by (exfalso; revert h63; decide))
        refine xr_iload (n := 98) dX8_cuts_96 rfl rfl ?_
        refine xr_if_eq (tgt := 139) (n := 101) dX8_cuts_98 (by decide) rfl (fun h98 => ?_) (fun h98 => by (exfalso; revert h98; decide))
        refine xr_iinc (n := 142) dX8_cuts_139 rfl rfl (rfl) rfl ?_
        simp only [xst, Nat.beq, List.filter, Bool.not_true, Bool.not_false]
        try simp (disch := omega) only [nI_clamp, pk_mul, nI_add, oi1, up2_a, ur_a, Nat.reduceEqDiff, Nat.reduceMul, Nat.reduceAdd, reduceIte, if_pos, if_neg, hν0, g0, g5, g6, pk_sub]
        refine xr_goto (n := 18) dX8_cuts_142 (by decide) ?_
        refine xX.drop 5 ?_
        simp only [xst, Nat.beq, List.filter, Bool.not_true, Bool.not_false]
        first
          | refine ih _ hν (isPg.congr (fun j w hj hw => ?_) hPν)
          | (refine ih _ (up2_5 hν) ?_; rw [up2_s]; refine isPg.congr (fun j w hj hw => ?_) (hPν.up (by omega)))
          | (refine ih _ (up2_5 (up2_5 hν)) ?_; rw [up2_s, up2_s]; refine isPg.congr (fun j w hj hw => ?_) ((hPν.up (by omega)).up (by omega)))
        have hjk : j < k ∨ j = k ∨ k < j := by omega
        rcases hjk with e | e | e
        · simp only [pc1]
          have e1 : ¬ j = k := by omega
          simp only [e1, false_and, if_false, if_pos e, if_pos (show j < k + 1 by omega)]
        · subst e
          simp only [pc1, if_neg (Nat.lt_irrefl j), if_pos (Nat.lt_succ_self j), true_and, pc0]
          clear hq ih hL hP hO
          by_cases w6 : w = 6 <;> by_cases w5 : w = 5 <;> (try simp_all) <;> (try (intros; omega))
        · simp only [pc1]
          have e1 : ¬ j = k := by omega
          simp only [e1, false_and, if_false, if_neg (show ¬ j < k by omega), if_neg (show ¬ j < k + 1 by omega)]
      · have e3 : 3 ≤ P k 0 := by ((try simp (disch := omega) only [i_lt, i_le, i_eq, nt, i_m1, Int32.toInt_zero] at *); omega)
        refine xr_iload (n := 42) dX8_cuts_40 rfl rfl ?_
        refine xr_iload_n (n := 43) dX8_cuts_42 rfl rfl ?_
        refine xr_icmp_lt (tgt := 54) (n := 46) dX8_cuts_43 (by decide) rfl (fun h43 => ?_) (fun h43 => ?_)
        · have eo : 3 ≤ P k 0 ∧ (k < s ∨ s + z ≤ k) := ⟨e3, Or.inl (by ((try simp (disch := omega) only [i_lt, i_le, i_eq, nt, i_m1, Int32.toInt_zero] at *); omega))⟩
          refine xr_iconst (v := nI 1) (n := 55) dX8_cuts_54 (by decide) rfl ?_
          refine xr_goto (n := 59) dX8_cuts_55 (by decide) ?_
          refine xr_istore (n := 61) dX8_cuts_59 rfl rfl ?_
          simp only [xst, Nat.beq, List.filter, Bool.not_true, Bool.not_false]
          refine xr_iload (n := 63) dX8_cuts_61 rfl rfl ?_
          refine xr_if_eq (tgt := 96) (n := 66) dX8_cuts_63 (by decide) rfl (fun h63 => by (exfalso; revert h63; decide)) (fun h63 => ?_)
          refine xr_aload_n (n := 67) dX8_cuts_66 rfl rfl ?_
          refine xr_iload (n := 69) dX8_cuts_67 rfl rfl ?_
          refine xr_bipush (v := nI 6) (n := 71) dX8_cuts_69 (by decide) rfl ?_
          refine xr_callV (y2 := mX8_of) (As := [_, _]) (n := 74) dX8_cuts_71 lm_X8_124 pm_X8_of pi_X8_of (by first | exact mput_0 _ _ _ | exact mput_r (by decide)) rfl rfl rfl (by simp [Value.category]) rfl ⟨Nat.le_refl _, Nat.le_refl _⟩ ?_
          refine s_X8_of (by omega) (by omega) ?_
          dsimp only [xK, xps]
          try simp (disch := omega) only [nI_clamp, pk_mul, nI_add, oi1, up2_a, ur_a, Nat.reduceEqDiff, Nat.reduceMul, Nat.reduceAdd, reduceIte, if_pos, if_neg, hν0, g0, g5, g6, pk_sub]
          refine xr_iload_n (n := 75) dX8_cuts_74 rfl rfl ?_
          refine xr_icmp_le (tgt := 96) (n := 78) dX8_cuts_75 (by decide) rfl (fun h75 => ?_) (fun h75 => ?_)
          · have e6 : ¬ s < P k 6 := by ((try simp (disch := omega) only [i_lt, i_le, i_eq, nt, i_m1, Int32.toInt_zero] at *); omega)
            refine xr_iload (n := 98) dX8_cuts_96 rfl rfl ?_
            refine xr_if_eq (tgt := 139) (n := 101) dX8_cuts_98 (by decide) rfl (fun h98 => by (exfalso; revert h98; decide)) (fun h98 => ?_)
            refine xr_aload_n (n := 102) dX8_cuts_101 rfl rfl ?_
            refine xr_iload (n := 104) dX8_cuts_102 rfl rfl ?_
            refine xr_iconst (v := nI 0) (n := 105) dX8_cuts_104 (by decide) rfl ?_
            refine xr_callV (y2 := mX8_of) (As := [_, _]) (n := 108) dX8_cuts_105 lm_X8_124 pm_X8_of pi_X8_of (by first | exact mput_0 _ _ _ | exact mput_r (by decide)) rfl rfl rfl (by simp [Value.category]) rfl ⟨Nat.le_refl _, Nat.le_refl _⟩ ?_
            refine s_X8_of (by omega) (by omega) ?_
            dsimp only [xK, xps]
            try simp (disch := omega) only [nI_clamp, pk_mul, nI_add, oi1, up2_a, ur_a, Nat.reduceEqDiff, Nat.reduceMul, Nat.reduceAdd, reduceIte, if_pos, if_neg, hν0, g0, g5, g6, pk_sub]
            refine xr_iconst (v := nI 4) (n := 109) dX8_cuts_108 (by decide) rfl ?_
            refine xr_icmp_ne (tgt := 139) (n := 112) dX8_cuts_109 (by decide) rfl (fun h109 => ?_) (fun h109 => ?_)
            · have e4 : ¬ P k 0 = 4 := by ((try simp (disch := omega) only [i_lt, i_le, i_eq, nt, i_m1, Int32.toInt_zero] at *); omega)
              refine xr_iinc (n := 142) dX8_cuts_139 rfl rfl (rfl) rfl ?_
              simp only [xst, Nat.beq, List.filter, Bool.not_true, Bool.not_false]
              try simp (disch := omega) only [nI_clamp, pk_mul, nI_add, oi1, up2_a, ur_a, Nat.reduceEqDiff, Nat.reduceMul, Nat.reduceAdd, reduceIte, if_pos, if_neg, hν0, g0, g5, g6, pk_sub]
              refine xr_goto (n := 18) dX8_cuts_142 (by decide) ?_
              refine xX.drop 5 ?_
              simp only [xst, Nat.beq, List.filter, Bool.not_true, Bool.not_false]
              first
                | refine ih _ hν (isPg.congr (fun j w hj hw => ?_) hPν)
                | (refine ih _ (up2_5 hν) ?_; rw [up2_s]; refine isPg.congr (fun j w hj hw => ?_) (hPν.up (by omega)))
                | (refine ih _ (up2_5 (up2_5 hν)) ?_; rw [up2_s, up2_s]; refine isPg.congr (fun j w hj hw => ?_) ((hPν.up (by omega)).up (by omega)))
              have hjk : j < k ∨ j = k ∨ k < j := by omega
              rcases hjk with e | e | e
              · simp only [pc1]
                have e1 : ¬ j = k := by omega
                simp only [e1, false_and, if_false, if_pos e, if_pos (show j < k + 1 by omega)]
              · subst e
                simp only [pc1, if_neg (Nat.lt_irrefl j), if_pos (Nat.lt_succ_self j), true_and, pc0]
                clear hq ih hL hP hO
                by_cases w6 : w = 6 <;> by_cases w5 : w = 5 <;> (try simp_all) <;> (try (intros; omega))
              · simp only [pc1]
                have e1 : ¬ j = k := by omega
                simp only [e1, false_and, if_false, if_neg (show ¬ j < k by omega), if_neg (show ¬ j < k + 1 by omega)]
            · have e4 : P k 0 = 4 := by ((try simp (disch := omega) only [i_lt, i_le, i_eq, nt, i_m1, Int32.toInt_zero] at *); omega)
              refine xr_aload_n (n := 113) dX8_cuts_112 rfl rfl ?_
              refine xr_iload (n := 115) dX8_cuts_113 rfl rfl ?_
              refine xr_iconst (v := nI 5) (n := 116) dX8_cuts_115 (by decide) rfl ?_
              refine xr_callV (y2 := mX8_of) (As := [_, _]) (n := 119) dX8_cuts_116 lm_X8_124 pm_X8_of pi_X8_of (by first | exact mput_0 _ _ _ | exact mput_r (by decide)) rfl rfl rfl (by simp [Value.category]) rfl ⟨Nat.le_refl _, Nat.le_refl _⟩ ?_
              refine s_X8_of (by omega) (by omega) ?_
              dsimp only [xK, xps]
              try simp (disch := omega) only [nI_clamp, pk_mul, nI_add, oi1, up2_a, ur_a, Nat.reduceEqDiff, Nat.reduceMul, Nat.reduceAdd, reduceIte, if_pos, if_neg, hν0, g0, g5, g6, pk_sub]
              refine xr_iload_n (n := 120) dX8_cuts_119 rfl rfl ?_
              refine xr_icmp_le (tgt := 139) (n := 123) dX8_cuts_120 (by decide) rfl (fun h120 => ?_) (fun h120 => ?_)
              · have e5 : ¬ s < P k 5 := by ((try simp (disch := omega) only [i_lt, i_le, i_eq, nt, i_m1, Int32.toInt_zero] at *); omega)
                refine xr_iinc (n := 142) dX8_cuts_139 rfl rfl (rfl) rfl ?_
                simp only [xst, Nat.beq, List.filter, Bool.not_true, Bool.not_false]
                try simp (disch := omega) only [nI_clamp, pk_mul, nI_add, oi1, up2_a, ur_a, Nat.reduceEqDiff, Nat.reduceMul, Nat.reduceAdd, reduceIte, if_pos, if_neg, hν0, g0, g5, g6, pk_sub]
                refine xr_goto (n := 18) dX8_cuts_142 (by decide) ?_
                refine xX.drop 5 ?_
                simp only [xst, Nat.beq, List.filter, Bool.not_true, Bool.not_false]
                first
                  | refine ih _ hν (isPg.congr (fun j w hj hw => ?_) hPν)
                  | (refine ih _ (up2_5 hν) ?_; rw [up2_s]; refine isPg.congr (fun j w hj hw => ?_) (hPν.up (by omega)))
                  | (refine ih _ (up2_5 (up2_5 hν)) ?_; rw [up2_s, up2_s]; refine isPg.congr (fun j w hj hw => ?_) ((hPν.up (by omega)).up (by omega)))
                have hjk : j < k ∨ j = k ∨ k < j := by omega
                rcases hjk with e | e | e
                · simp only [pc1]
                  have e1 : ¬ j = k := by omega
                  simp only [e1, false_and, if_false, if_pos e, if_pos (show j < k + 1 by omega)]
                · subst e
                  simp only [pc1, if_neg (Nat.lt_irrefl j), if_pos (Nat.lt_succ_self j), true_and, pc0]
                  clear hq ih hL hP hO
                  by_cases w6 : w = 6 <;> by_cases w5 : w = 5 <;> (try simp_all) <;> (try (intros; omega))
                · simp only [pc1]
                  have e1 : ¬ j = k := by omega
                  simp only [e1, false_and, if_false, if_neg (show ¬ j < k by omega), if_neg (show ¬ j < k + 1 by omega)]
              · have e5 : s < P k 5 := by ((try simp (disch := omega) only [i_lt, i_le, i_eq, nt, i_m1, Int32.toInt_zero] at *); omega)
                have b5 := cut_b5 hO hL hs hk e4 (hz ▸ eo.2) e5
                rw [hz] at b5
                refine xr_aload_n (n := 124) dX8_cuts_123 rfl rfl ?_
                refine xr_iload (n := 126) dX8_cuts_124 rfl rfl ?_
                refine xr_iconst (v := nI 5) (n := 127) dX8_cuts_126 (by decide) rfl ?_
                refine xr_aload_n (n := 128) dX8_cuts_127 rfl rfl ?_
                refine xr_iload (n := 130) dX8_cuts_128 rfl rfl ?_
                refine xr_iconst (v := nI 5) (n := 131) dX8_cuts_130 (by decide) rfl ?_
                refine xr_callV (y2 := mX8_of) (As := [_, _]) (n := 134) dX8_cuts_131 lm_X8_124 pm_X8_of pi_X8_of (by first | exact mput_0 _ _ _ | exact mput_r (by decide)) rfl rfl rfl (by simp [Value.category]) rfl ⟨Nat.le_refl _, Nat.le_refl _⟩ ?_
                refine s_X8_of (by omega) (by omega) ?_
                dsimp only [xK, xps]
                try simp (disch := omega) only [nI_clamp, pk_mul, nI_add, oi1, up2_a, ur_a, Nat.reduceEqDiff, Nat.reduceMul, Nat.reduceAdd, reduceIte, if_pos, if_neg, hν0, g0, g5, g6, pk_sub]
                refine xr_iload_n (n := 135) dX8_cuts_134 rfl rfl ?_
                refine xr_isub (n := 136) dX8_cuts_135 rfl ?_
                try simp (disch := omega) only [nI_clamp, pk_mul, nI_add, oi1, up2_a, ur_a, Nat.reduceEqDiff, Nat.reduceMul, Nat.reduceAdd, reduceIte, if_pos, if_neg, hν0, g0, g5, g6, pk_sub]
                refine xr_callV (y2 := mX8_put) (As := [_, _, _]) (n := 139) dX8_cuts_136 lm_X8_83 pm_X8_put pi_X8_put (by first | exact mput_0 _ _ _ | exact mput_r (by decide)) rfl rfl rfl (by simp [Value.category]) rfl ⟨Nat.le_refl _, Nat.le_refl _⟩ ?_
                refine s_X8_put (by omega) (by omega) ?_
                dsimp only [xK, xps]
                refine xr_iinc (n := 142) dX8_cuts_139 rfl rfl (rfl) rfl ?_
                simp only [xst, Nat.beq, List.filter, Bool.not_true, Bool.not_false]
                try simp (disch := omega) only [nI_clamp, pk_mul, nI_add, oi1, up2_a, ur_a, Nat.reduceEqDiff, Nat.reduceMul, Nat.reduceAdd, reduceIte, if_pos, if_neg, hν0, g0, g5, g6, pk_sub]
                refine xr_goto (n := 18) dX8_cuts_142 (by decide) ?_
                refine xX.drop 5 ?_
                simp only [xst, Nat.beq, List.filter, Bool.not_true, Bool.not_false]
                first
                  | refine ih _ hν (isPg.congr (fun j w hj hw => ?_) hPν)
                  | (refine ih _ (up2_5 hν) ?_; rw [up2_s]; refine isPg.congr (fun j w hj hw => ?_) (hPν.up (by omega)))
                  | (refine ih _ (up2_5 (up2_5 hν)) ?_; rw [up2_s, up2_s]; refine isPg.congr (fun j w hj hw => ?_) ((hPν.up (by omega)).up (by omega)))
                have hjk : j < k ∨ j = k ∨ k < j := by omega
                rcases hjk with e | e | e
                · simp only [pc1]
                  have e1 : ¬ j = k := by omega
                  simp only [e1, false_and, if_false, if_pos e, if_pos (show j < k + 1 by omega)]
                · subst e
                  simp only [pc1, if_neg (Nat.lt_irrefl j), if_pos (Nat.lt_succ_self j), true_and, pc0]
                  clear hq ih hL hP hO
                  by_cases w6 : w = 6 <;> by_cases w5 : w = 5 <;> (try simp_all) <;> (try (intros; omega))
                · simp only [pc1]
                  have e1 : ¬ j = k := by omega
                  simp only [e1, false_and, if_false, if_neg (show ¬ j < k by omega), if_neg (show ¬ j < k + 1 by omega)]
          · have e6 : s < P k 6 := by ((try simp (disch := omega) only [i_lt, i_le, i_eq, nt, i_m1, Int32.toInt_zero] at *); omega)
            have b6 := cut_b6 hO hL hs hk e3 (hz ▸ eo.2) e6
            rw [hz] at b6
            refine xr_aload_n (n := 79) dX8_cuts_78 rfl rfl ?_
            refine xr_iload (n := 81) dX8_cuts_79 rfl rfl ?_
            refine xr_bipush (v := nI 6) (n := 83) dX8_cuts_81 (by decide) rfl ?_
            refine xr_aload_n (n := 84) dX8_cuts_83 rfl rfl ?_
            refine xr_iload (n := 86) dX8_cuts_84 rfl rfl ?_
            refine xr_bipush (v := nI 6) (n := 88) dX8_cuts_86 (by decide) rfl ?_
            refine xr_callV (y2 := mX8_of) (As := [_, _]) (n := 91) dX8_cuts_88 lm_X8_124 pm_X8_of pi_X8_of (by first | exact mput_0 _ _ _ | exact mput_r (by decide)) rfl rfl rfl (by simp [Value.category]) rfl ⟨Nat.le_refl _, Nat.le_refl _⟩ ?_
            refine s_X8_of (by omega) (by omega) ?_
            dsimp only [xK, xps]
            try simp (disch := omega) only [nI_clamp, pk_mul, nI_add, oi1, up2_a, ur_a, Nat.reduceEqDiff, Nat.reduceMul, Nat.reduceAdd, reduceIte, if_pos, if_neg, hν0, g0, g5, g6, pk_sub]
            refine xr_iload_n (n := 92) dX8_cuts_91 rfl rfl ?_
            refine xr_isub (n := 93) dX8_cuts_92 rfl ?_
            try simp (disch := omega) only [nI_clamp, pk_mul, nI_add, oi1, up2_a, ur_a, Nat.reduceEqDiff, Nat.reduceMul, Nat.reduceAdd, reduceIte, if_pos, if_neg, hν0, g0, g5, g6, pk_sub]
            refine xr_callV (y2 := mX8_put) (As := [_, _, _]) (n := 96) dX8_cuts_93 lm_X8_83 pm_X8_put pi_X8_put (by first | exact mput_0 _ _ _ | exact mput_r (by decide)) rfl rfl rfl (by simp [Value.category]) rfl ⟨Nat.le_refl _, Nat.le_refl _⟩ ?_
            refine s_X8_put (by omega) (by omega) ?_
            dsimp only [xK, xps]
            refine xr_iload (n := 98) dX8_cuts_96 rfl rfl ?_
            refine xr_if_eq (tgt := 139) (n := 101) dX8_cuts_98 (by decide) rfl (fun h98 => by (exfalso; revert h98; decide)) (fun h98 => ?_)
            refine xr_aload_n (n := 102) dX8_cuts_101 rfl rfl ?_
            refine xr_iload (n := 104) dX8_cuts_102 rfl rfl ?_
            refine xr_iconst (v := nI 0) (n := 105) dX8_cuts_104 (by decide) rfl ?_
            refine xr_callV (y2 := mX8_of) (As := [_, _]) (n := 108) dX8_cuts_105 lm_X8_124 pm_X8_of pi_X8_of (by first | exact mput_0 _ _ _ | exact mput_r (by decide)) rfl rfl rfl (by simp [Value.category]) rfl ⟨Nat.le_refl _, Nat.le_refl _⟩ ?_
            refine s_X8_of (by omega) (by omega) ?_
            dsimp only [xK, xps]
            try simp (disch := omega) only [nI_clamp, pk_mul, nI_add, oi1, up2_a, ur_a, Nat.reduceEqDiff, Nat.reduceMul, Nat.reduceAdd, reduceIte, if_pos, if_neg, hν0, g0, g5, g6, pk_sub]
            refine xr_iconst (v := nI 4) (n := 109) dX8_cuts_108 (by decide) rfl ?_
            refine xr_icmp_ne (tgt := 139) (n := 112) dX8_cuts_109 (by decide) rfl (fun h109 => ?_) (fun h109 => ?_)
            · have e4 : ¬ P k 0 = 4 := by ((try simp (disch := omega) only [i_lt, i_le, i_eq, nt, i_m1, Int32.toInt_zero] at *); omega)
              refine xr_iinc (n := 142) dX8_cuts_139 rfl rfl (rfl) rfl ?_
              simp only [xst, Nat.beq, List.filter, Bool.not_true, Bool.not_false]
              try simp (disch := omega) only [nI_clamp, pk_mul, nI_add, oi1, up2_a, ur_a, Nat.reduceEqDiff, Nat.reduceMul, Nat.reduceAdd, reduceIte, if_pos, if_neg, hν0, g0, g5, g6, pk_sub]
              refine xr_goto (n := 18) dX8_cuts_142 (by decide) ?_
              refine xX.drop 5 ?_
              simp only [xst, Nat.beq, List.filter, Bool.not_true, Bool.not_false]
              first
                | refine ih _ hν (isPg.congr (fun j w hj hw => ?_) hPν)
                | (refine ih _ (up2_5 hν) ?_; rw [up2_s]; refine isPg.congr (fun j w hj hw => ?_) (hPν.up (by omega)))
                | (refine ih _ (up2_5 (up2_5 hν)) ?_; rw [up2_s, up2_s]; refine isPg.congr (fun j w hj hw => ?_) ((hPν.up (by omega)).up (by omega)))
              have hjk : j < k ∨ j = k ∨ k < j := by omega
              rcases hjk with e | e | e
              · simp only [pc1]
                have e1 : ¬ j = k := by omega
                simp only [e1, false_and, if_false, if_pos e, if_pos (show j < k + 1 by omega)]
              · subst e
                simp only [pc1, if_neg (Nat.lt_irrefl j), if_pos (Nat.lt_succ_self j), true_and, pc0]
                clear hq ih hL hP hO
                by_cases w6 : w = 6 <;> by_cases w5 : w = 5 <;> (try simp_all) <;> (try (intros; omega))
              · simp only [pc1]
                have e1 : ¬ j = k := by omega
                simp only [e1, false_and, if_false, if_neg (show ¬ j < k by omega), if_neg (show ¬ j < k + 1 by omega)]
            · have e4 : P k 0 = 4 := by ((try simp (disch := omega) only [i_lt, i_le, i_eq, nt, i_m1, Int32.toInt_zero] at *); omega)
              refine xr_aload_n (n := 113) dX8_cuts_112 rfl rfl ?_
              refine xr_iload (n := 115) dX8_cuts_113 rfl rfl ?_
              refine xr_iconst (v := nI 5) (n := 116) dX8_cuts_115 (by decide) rfl ?_
              refine xr_callV (y2 := mX8_of) (As := [_, _]) (n := 119) dX8_cuts_116 lm_X8_124 pm_X8_of pi_X8_of (by first | exact mput_0 _ _ _ | exact mput_r (by decide)) rfl rfl rfl (by simp [Value.category]) rfl ⟨Nat.le_refl _, Nat.le_refl _⟩ ?_
              refine s_X8_of (by omega) (by omega) ?_
              dsimp only [xK, xps]
              try simp (disch := omega) only [nI_clamp, pk_mul, nI_add, oi1, up2_a, ur_a, Nat.reduceEqDiff, Nat.reduceMul, Nat.reduceAdd, reduceIte, if_pos, if_neg, hν0, g0, g5, g6, pk_sub]
              refine xr_iload_n (n := 120) dX8_cuts_119 rfl rfl ?_
              refine xr_icmp_le (tgt := 139) (n := 123) dX8_cuts_120 (by decide) rfl (fun h120 => ?_) (fun h120 => ?_)
              · have e5 : ¬ s < P k 5 := by ((try simp (disch := omega) only [i_lt, i_le, i_eq, nt, i_m1, Int32.toInt_zero] at *); omega)
                refine xr_iinc (n := 142) dX8_cuts_139 rfl rfl (rfl) rfl ?_
                simp only [xst, Nat.beq, List.filter, Bool.not_true, Bool.not_false]
                try simp (disch := omega) only [nI_clamp, pk_mul, nI_add, oi1, up2_a, ur_a, Nat.reduceEqDiff, Nat.reduceMul, Nat.reduceAdd, reduceIte, if_pos, if_neg, hν0, g0, g5, g6, pk_sub]
                refine xr_goto (n := 18) dX8_cuts_142 (by decide) ?_
                refine xX.drop 5 ?_
                simp only [xst, Nat.beq, List.filter, Bool.not_true, Bool.not_false]
                first
                  | refine ih _ hν (isPg.congr (fun j w hj hw => ?_) hPν)
                  | (refine ih _ (up2_5 hν) ?_; rw [up2_s]; refine isPg.congr (fun j w hj hw => ?_) (hPν.up (by omega)))
                  | (refine ih _ (up2_5 (up2_5 hν)) ?_; rw [up2_s, up2_s]; refine isPg.congr (fun j w hj hw => ?_) ((hPν.up (by omega)).up (by omega)))
                have hjk : j < k ∨ j = k ∨ k < j := by omega
                rcases hjk with e | e | e
                · simp only [pc1]
                  have e1 : ¬ j = k := by omega
                  simp only [e1, false_and, if_false, if_pos e, if_pos (show j < k + 1 by omega)]
                · subst e
                  simp only [pc1, if_neg (Nat.lt_irrefl j), if_pos (Nat.lt_succ_self j), true_and, pc0]
                  clear hq ih hL hP hO
                  by_cases w6 : w = 6 <;> by_cases w5 : w = 5 <;> (try simp_all) <;> (try (intros; omega))
                · simp only [pc1]
                  have e1 : ¬ j = k := by omega
                  simp only [e1, false_and, if_false, if_neg (show ¬ j < k by omega), if_neg (show ¬ j < k + 1 by omega)]
              · have e5 : s < P k 5 := by ((try simp (disch := omega) only [i_lt, i_le, i_eq, nt, i_m1, Int32.toInt_zero] at *); omega)
                have b5 := cut_b5 hO hL hs hk e4 (hz ▸ eo.2) e5
                rw [hz] at b5
                refine xr_aload_n (n := 124) dX8_cuts_123 rfl rfl ?_
                refine xr_iload (n := 126) dX8_cuts_124 rfl rfl ?_
                refine xr_iconst (v := nI 5) (n := 127) dX8_cuts_126 (by decide) rfl ?_
                refine xr_aload_n (n := 128) dX8_cuts_127 rfl rfl ?_
                refine xr_iload (n := 130) dX8_cuts_128 rfl rfl ?_
                refine xr_iconst (v := nI 5) (n := 131) dX8_cuts_130 (by decide) rfl ?_
                refine xr_callV (y2 := mX8_of) (As := [_, _]) (n := 134) dX8_cuts_131 lm_X8_124 pm_X8_of pi_X8_of (by first | exact mput_0 _ _ _ | exact mput_r (by decide)) rfl rfl rfl (by simp [Value.category]) rfl ⟨Nat.le_refl _, Nat.le_refl _⟩ ?_
                refine s_X8_of (by omega) (by omega) ?_
                dsimp only [xK, xps]
                try simp (disch := omega) only [nI_clamp, pk_mul, nI_add, oi1, up2_a, ur_a, Nat.reduceEqDiff, Nat.reduceMul, Nat.reduceAdd, reduceIte, if_pos, if_neg, hν0, g0, g5, g6, pk_sub]
                refine xr_iload_n (n := 135) dX8_cuts_134 rfl rfl ?_
                refine xr_isub (n := 136) dX8_cuts_135 rfl ?_
                try simp (disch := omega) only [nI_clamp, pk_mul, nI_add, oi1, up2_a, ur_a, Nat.reduceEqDiff, Nat.reduceMul, Nat.reduceAdd, reduceIte, if_pos, if_neg, hν0, g0, g5, g6, pk_sub]
                refine xr_callV (y2 := mX8_put) (As := [_, _, _]) (n := 139) dX8_cuts_136 lm_X8_83 pm_X8_put pi_X8_put (by first | exact mput_0 _ _ _ | exact mput_r (by decide)) rfl rfl rfl (by simp [Value.category]) rfl ⟨Nat.le_refl _, Nat.le_refl _⟩ ?_
                refine s_X8_put (by omega) (by omega) ?_
                dsimp only [xK, xps]
                refine xr_iinc (n := 142) dX8_cuts_139 rfl rfl (rfl) rfl ?_
                simp only [xst, Nat.beq, List.filter, Bool.not_true, Bool.not_false]
                try simp (disch := omega) only [nI_clamp, pk_mul, nI_add, oi1, up2_a, ur_a, Nat.reduceEqDiff, Nat.reduceMul, Nat.reduceAdd, reduceIte, if_pos, if_neg, hν0, g0, g5, g6, pk_sub]
                refine xr_goto (n := 18) dX8_cuts_142 (by decide) ?_
                refine xX.drop 5 ?_
                simp only [xst, Nat.beq, List.filter, Bool.not_true, Bool.not_false]
                first
                  | refine ih _ hν (isPg.congr (fun j w hj hw => ?_) hPν)
                  | (refine ih _ (up2_5 hν) ?_; rw [up2_s]; refine isPg.congr (fun j w hj hw => ?_) (hPν.up (by omega)))
                  | (refine ih _ (up2_5 (up2_5 hν)) ?_; rw [up2_s, up2_s]; refine isPg.congr (fun j w hj hw => ?_) ((hPν.up (by omega)).up (by omega)))
                have hjk : j < k ∨ j = k ∨ k < j := by omega
                rcases hjk with e | e | e
                · simp only [pc1]
                  have e1 : ¬ j = k := by omega
                  simp only [e1, false_and, if_false, if_pos e, if_pos (show j < k + 1 by omega)]
                · subst e
                  simp only [pc1, if_neg (Nat.lt_irrefl j), if_pos (Nat.lt_succ_self j), true_and, pc0]
                  clear hq ih hL hP hO
                  by_cases w6 : w = 6 <;> by_cases w5 : w = 5 <;> (try simp_all) <;> (try (intros; omega))
                · simp only [pc1]
                  have e1 : ¬ j = k := by omega
                  simp only [e1, false_and, if_false, if_neg (show ¬ j < k by omega), if_neg (show ¬ j < k + 1 by omega)]
        · refine xr_iload (n := 48) dX8_cuts_46 rfl rfl ?_
          refine xr_iload_n (n := 49) dX8_cuts_48 rfl rfl ?_
          refine xr_iload_n (n := 50) dX8_cuts_49 rfl rfl ?_
          refine xr_iadd (n := 51) dX8_cuts_50 rfl ?_
          try simp (disch := omega) only [nI_clamp, pk_mul, nI_add, oi1, up2_a, ur_a, Nat.reduceEqDiff, Nat.reduceMul, Nat.reduceAdd, reduceIte, if_pos, if_neg, hν0, g0, g5, g6, pk_sub]
          refine xr_icmp_lt (tgt := 58) (n := 54) dX8_cuts_51 (by decide) rfl (fun h51 => ?_) (fun h51 => ?_)
          · have eo : ¬ (3 ≤ P k 0 ∧ (k < s ∨ s + z ≤ k)) := fun q => by ((try simp (disch := omega) only [i_lt, i_le, i_eq, nt, i_m1, Int32.toInt_zero] at *); omega)
            refine xr_iconst (v := nI 0) (n := 59) dX8_cuts_58 (by decide) rfl ?_
            refine xr_istore (n := 61) dX8_cuts_59 rfl rfl ?_
            simp only [xst, Nat.beq, List.filter, Bool.not_true, Bool.not_false]
            refine xr_iload (n := 63) dX8_cuts_61 rfl rfl ?_
            refine xr_if_eq (tgt := 96) (n := 66) dX8_cuts_63 (by decide) rfl (fun h63 => ?_) (fun h63 => by (exfalso; revert h63; decide))
            refine xr_iload (n := 98) dX8_cuts_96 rfl rfl ?_
            refine xr_if_eq (tgt := 139) (n := 101) dX8_cuts_98 (by decide) rfl (fun h98 => ?_) (fun h98 => by (exfalso; revert h98; decide))
            refine xr_iinc (n := 142) dX8_cuts_139 rfl rfl (rfl) rfl ?_
            simp only [xst, Nat.beq, List.filter, Bool.not_true, Bool.not_false]
            try simp (disch := omega) only [nI_clamp, pk_mul, nI_add, oi1, up2_a, ur_a, Nat.reduceEqDiff, Nat.reduceMul, Nat.reduceAdd, reduceIte, if_pos, if_neg, hν0, g0, g5, g6, pk_sub]
            refine xr_goto (n := 18) dX8_cuts_142 (by decide) ?_
            refine xX.drop 5 ?_
            simp only [xst, Nat.beq, List.filter, Bool.not_true, Bool.not_false]
            first
              | refine ih _ hν (isPg.congr (fun j w hj hw => ?_) hPν)
              | (refine ih _ (up2_5 hν) ?_; rw [up2_s]; refine isPg.congr (fun j w hj hw => ?_) (hPν.up (by omega)))
              | (refine ih _ (up2_5 (up2_5 hν)) ?_; rw [up2_s, up2_s]; refine isPg.congr (fun j w hj hw => ?_) ((hPν.up (by omega)).up (by omega)))
            have hjk : j < k ∨ j = k ∨ k < j := by omega
            rcases hjk with e | e | e
            · simp only [pc1]
              have e1 : ¬ j = k := by omega
              simp only [e1, false_and, if_false, if_pos e, if_pos (show j < k + 1 by omega)]
            · subst e
              simp only [pc1, if_neg (Nat.lt_irrefl j), if_pos (Nat.lt_succ_self j), true_and, pc0]
              clear hq ih hL hP hO
              by_cases w6 : w = 6 <;> by_cases w5 : w = 5 <;> (try simp_all) <;> (try (intros; omega))
            · simp only [pc1]
              have e1 : ¬ j = k := by omega
              simp only [e1, false_and, if_false, if_neg (show ¬ j < k by omega), if_neg (show ¬ j < k + 1 by omega)]
          · have eo : 3 ≤ P k 0 ∧ (k < s ∨ s + z ≤ k) := ⟨e3, Or.inr (by ((try simp (disch := omega) only [i_lt, i_le, i_eq, nt, i_m1, Int32.toInt_zero] at *); omega))⟩
            refine xr_iconst (v := nI 1) (n := 55) dX8_cuts_54 (by decide) rfl ?_
            refine xr_goto (n := 59) dX8_cuts_55 (by decide) ?_
            refine xr_istore (n := 61) dX8_cuts_59 rfl rfl ?_
            simp only [xst, Nat.beq, List.filter, Bool.not_true, Bool.not_false]
            refine xr_iload (n := 63) dX8_cuts_61 rfl rfl ?_
            refine xr_if_eq (tgt := 96) (n := 66) dX8_cuts_63 (by decide) rfl (fun h63 => by (exfalso; revert h63; decide)) (fun h63 => ?_)
            refine xr_aload_n (n := 67) dX8_cuts_66 rfl rfl ?_
            refine xr_iload (n := 69) dX8_cuts_67 rfl rfl ?_
            refine xr_bipush (v := nI 6) (n := 71) dX8_cuts_69 (by decide) rfl ?_
            refine xr_callV (y2 := mX8_of) (As := [_, _]) (n := 74) dX8_cuts_71 lm_X8_124 pm_X8_of pi_X8_of (by first | exact mput_0 _ _ _ | exact mput_r (by decide)) rfl rfl rfl (by simp [Value.category]) rfl ⟨Nat.le_refl _, Nat.le_refl _⟩ ?_
            refine s_X8_of (by omega) (by omega) ?_
            dsimp only [xK, xps]
            try simp (disch := omega) only [nI_clamp, pk_mul, nI_add, oi1, up2_a, ur_a, Nat.reduceEqDiff, Nat.reduceMul, Nat.reduceAdd, reduceIte, if_pos, if_neg, hν0, g0, g5, g6, pk_sub]
            refine xr_iload_n (n := 75) dX8_cuts_74 rfl rfl ?_
            refine xr_icmp_le (tgt := 96) (n := 78) dX8_cuts_75 (by decide) rfl (fun h75 => ?_) (fun h75 => ?_)
            · have e6 : ¬ s < P k 6 := by ((try simp (disch := omega) only [i_lt, i_le, i_eq, nt, i_m1, Int32.toInt_zero] at *); omega)
              refine xr_iload (n := 98) dX8_cuts_96 rfl rfl ?_
              refine xr_if_eq (tgt := 139) (n := 101) dX8_cuts_98 (by decide) rfl (fun h98 => by (exfalso; revert h98; decide)) (fun h98 => ?_)
              refine xr_aload_n (n := 102) dX8_cuts_101 rfl rfl ?_
              refine xr_iload (n := 104) dX8_cuts_102 rfl rfl ?_
              refine xr_iconst (v := nI 0) (n := 105) dX8_cuts_104 (by decide) rfl ?_
              refine xr_callV (y2 := mX8_of) (As := [_, _]) (n := 108) dX8_cuts_105 lm_X8_124 pm_X8_of pi_X8_of (by first | exact mput_0 _ _ _ | exact mput_r (by decide)) rfl rfl rfl (by simp [Value.category]) rfl ⟨Nat.le_refl _, Nat.le_refl _⟩ ?_
              refine s_X8_of (by omega) (by omega) ?_
              dsimp only [xK, xps]
              try simp (disch := omega) only [nI_clamp, pk_mul, nI_add, oi1, up2_a, ur_a, Nat.reduceEqDiff, Nat.reduceMul, Nat.reduceAdd, reduceIte, if_pos, if_neg, hν0, g0, g5, g6, pk_sub]
              refine xr_iconst (v := nI 4) (n := 109) dX8_cuts_108 (by decide) rfl ?_
              refine xr_icmp_ne (tgt := 139) (n := 112) dX8_cuts_109 (by decide) rfl (fun h109 => ?_) (fun h109 => ?_)
              · have e4 : ¬ P k 0 = 4 := by ((try simp (disch := omega) only [i_lt, i_le, i_eq, nt, i_m1, Int32.toInt_zero] at *); omega)
                refine xr_iinc (n := 142) dX8_cuts_139 rfl rfl (rfl) rfl ?_
                simp only [xst, Nat.beq, List.filter, Bool.not_true, Bool.not_false]
                try simp (disch := omega) only [nI_clamp, pk_mul, nI_add, oi1, up2_a, ur_a, Nat.reduceEqDiff, Nat.reduceMul, Nat.reduceAdd, reduceIte, if_pos, if_neg, hν0, g0, g5, g6, pk_sub]
                refine xr_goto (n := 18) dX8_cuts_142 (by decide) ?_
                refine xX.drop 5 ?_
                simp only [xst, Nat.beq, List.filter, Bool.not_true, Bool.not_false]
                first
                  | refine ih _ hν (isPg.congr (fun j w hj hw => ?_) hPν)
                  | (refine ih _ (up2_5 hν) ?_; rw [up2_s]; refine isPg.congr (fun j w hj hw => ?_) (hPν.up (by omega)))
                  | (refine ih _ (up2_5 (up2_5 hν)) ?_; rw [up2_s, up2_s]; refine isPg.congr (fun j w hj hw => ?_) ((hPν.up (by omega)).up (by omega)))
                have hjk : j < k ∨ j = k ∨ k < j := by omega
                rcases hjk with e | e | e
                · simp only [pc1]
                  have e1 : ¬ j = k := by omega
                  simp only [e1, false_and, if_false, if_pos e, if_pos (show j < k + 1 by omega)]
                · subst e
                  simp only [pc1, if_neg (Nat.lt_irrefl j), if_pos (Nat.lt_succ_self j), true_and, pc0]
                  clear hq ih hL hP hO
                  by_cases w6 : w = 6 <;> by_cases w5 : w = 5 <;> (try simp_all) <;> (try (intros; omega))
                · simp only [pc1]
                  have e1 : ¬ j = k := by omega
                  simp only [e1, false_and, if_false, if_neg (show ¬ j < k by omega), if_neg (show ¬ j < k + 1 by omega)]
              · have e4 : P k 0 = 4 := by ((try simp (disch := omega) only [i_lt, i_le, i_eq, nt, i_m1, Int32.toInt_zero] at *); omega)
                refine xr_aload_n (n := 113) dX8_cuts_112 rfl rfl ?_
                refine xr_iload (n := 115) dX8_cuts_113 rfl rfl ?_
                refine xr_iconst (v := nI 5) (n := 116) dX8_cuts_115 (by decide) rfl ?_
                refine xr_callV (y2 := mX8_of) (As := [_, _]) (n := 119) dX8_cuts_116 lm_X8_124 pm_X8_of pi_X8_of (by first | exact mput_0 _ _ _ | exact mput_r (by decide)) rfl rfl rfl (by simp [Value.category]) rfl ⟨Nat.le_refl _, Nat.le_refl _⟩ ?_
                refine s_X8_of (by omega) (by omega) ?_
                dsimp only [xK, xps]
                try simp (disch := omega) only [nI_clamp, pk_mul, nI_add, oi1, up2_a, ur_a, Nat.reduceEqDiff, Nat.reduceMul, Nat.reduceAdd, reduceIte, if_pos, if_neg, hν0, g0, g5, g6, pk_sub]
                refine xr_iload_n (n := 120) dX8_cuts_119 rfl rfl ?_
                refine xr_icmp_le (tgt := 139) (n := 123) dX8_cuts_120 (by decide) rfl (fun h120 => ?_) (fun h120 => ?_)
                · have e5 : ¬ s < P k 5 := by ((try simp (disch := omega) only [i_lt, i_le, i_eq, nt, i_m1, Int32.toInt_zero] at *); omega)
                  refine xr_iinc (n := 142) dX8_cuts_139 rfl rfl (rfl) rfl ?_
                  simp only [xst, Nat.beq, List.filter, Bool.not_true, Bool.not_false]
                  try simp (disch := omega) only [nI_clamp, pk_mul, nI_add, oi1, up2_a, ur_a, Nat.reduceEqDiff, Nat.reduceMul, Nat.reduceAdd, reduceIte, if_pos, if_neg, hν0, g0, g5, g6, pk_sub]
                  refine xr_goto (n := 18) dX8_cuts_142 (by decide) ?_
                  refine xX.drop 5 ?_
                  simp only [xst, Nat.beq, List.filter, Bool.not_true, Bool.not_false]
                  first
                    | refine ih _ hν (isPg.congr (fun j w hj hw => ?_) hPν)
                    | (refine ih _ (up2_5 hν) ?_; rw [up2_s]; refine isPg.congr (fun j w hj hw => ?_) (hPν.up (by omega)))
                    | (refine ih _ (up2_5 (up2_5 hν)) ?_; rw [up2_s, up2_s]; refine isPg.congr (fun j w hj hw => ?_) ((hPν.up (by omega)).up (by omega)))
                  have hjk : j < k ∨ j = k ∨ k < j := by omega
                  rcases hjk with e | e | e
                  · simp only [pc1]
                    have e1 : ¬ j = k := by omega
                    simp only [e1, false_and, if_false, if_pos e, if_pos (show j < k + 1 by omega)]
                  · subst e
                    simp only [pc1, if_neg (Nat.lt_irrefl j), if_pos (Nat.lt_succ_self j), true_and, pc0]
                    clear hq ih hL hP hO
                    by_cases w6 : w = 6 <;> by_cases w5 : w = 5 <;> (try simp_all) <;> (try (intros; omega))
                  · simp only [pc1]
                    have e1 : ¬ j = k := by omega
                    simp only [e1, false_and, if_false, if_neg (show ¬ j < k by omega), if_neg (show ¬ j < k + 1 by omega)]
                · have e5 : s < P k 5 := by ((try simp (disch := omega) only [i_lt, i_le, i_eq, nt, i_m1, Int32.toInt_zero] at *); omega)
                  have b5 := cut_b5 hO hL hs hk e4 (hz ▸ eo.2) e5
                  rw [hz] at b5
                  refine xr_aload_n (n := 124) dX8_cuts_123 rfl rfl ?_
                  refine xr_iload (n := 126) dX8_cuts_124 rfl rfl ?_
                  refine xr_iconst (v := nI 5) (n := 127) dX8_cuts_126 (by decide) rfl ?_
                  refine xr_aload_n (n := 128) dX8_cuts_127 rfl rfl ?_
                  refine xr_iload (n := 130) dX8_cuts_128 rfl rfl ?_
                  refine xr_iconst (v := nI 5) (n := 131) dX8_cuts_130 (by decide) rfl ?_
                  refine xr_callV (y2 := mX8_of) (As := [_, _]) (n := 134) dX8_cuts_131 lm_X8_124 pm_X8_of pi_X8_of (by first | exact mput_0 _ _ _ | exact mput_r (by decide)) rfl rfl rfl (by simp [Value.category]) rfl ⟨Nat.le_refl _, Nat.le_refl _⟩ ?_
                  refine s_X8_of (by omega) (by omega) ?_
                  dsimp only [xK, xps]
                  try simp (disch := omega) only [nI_clamp, pk_mul, nI_add, oi1, up2_a, ur_a, Nat.reduceEqDiff, Nat.reduceMul, Nat.reduceAdd, reduceIte, if_pos, if_neg, hν0, g0, g5, g6, pk_sub]
                  refine xr_iload_n (n := 135) dX8_cuts_134 rfl rfl ?_
                  refine xr_isub (n := 136) dX8_cuts_135 rfl ?_
                  try simp (disch := omega) only [nI_clamp, pk_mul, nI_add, oi1, up2_a, ur_a, Nat.reduceEqDiff, Nat.reduceMul, Nat.reduceAdd, reduceIte, if_pos, if_neg, hν0, g0, g5, g6, pk_sub]
                  refine xr_callV (y2 := mX8_put) (As := [_, _, _]) (n := 139) dX8_cuts_136 lm_X8_83 pm_X8_put pi_X8_put (by first | exact mput_0 _ _ _ | exact mput_r (by decide)) rfl rfl rfl (by simp [Value.category]) rfl ⟨Nat.le_refl _, Nat.le_refl _⟩ ?_
                  refine s_X8_put (by omega) (by omega) ?_
                  dsimp only [xK, xps]
                  refine xr_iinc (n := 142) dX8_cuts_139 rfl rfl (rfl) rfl ?_
                  simp only [xst, Nat.beq, List.filter, Bool.not_true, Bool.not_false]
                  try simp (disch := omega) only [nI_clamp, pk_mul, nI_add, oi1, up2_a, ur_a, Nat.reduceEqDiff, Nat.reduceMul, Nat.reduceAdd, reduceIte, if_pos, if_neg, hν0, g0, g5, g6, pk_sub]
                  refine xr_goto (n := 18) dX8_cuts_142 (by decide) ?_
                  refine xX.drop 5 ?_
                  simp only [xst, Nat.beq, List.filter, Bool.not_true, Bool.not_false]
                  first
                    | refine ih _ hν (isPg.congr (fun j w hj hw => ?_) hPν)
                    | (refine ih _ (up2_5 hν) ?_; rw [up2_s]; refine isPg.congr (fun j w hj hw => ?_) (hPν.up (by omega)))
                    | (refine ih _ (up2_5 (up2_5 hν)) ?_; rw [up2_s, up2_s]; refine isPg.congr (fun j w hj hw => ?_) ((hPν.up (by omega)).up (by omega)))
                  have hjk : j < k ∨ j = k ∨ k < j := by omega
                  rcases hjk with e | e | e
                  · simp only [pc1]
                    have e1 : ¬ j = k := by omega
                    simp only [e1, false_and, if_false, if_pos e, if_pos (show j < k + 1 by omega)]
                  · subst e
                    simp only [pc1, if_neg (Nat.lt_irrefl j), if_pos (Nat.lt_succ_self j), true_and, pc0]
                    clear hq ih hL hP hO
                    by_cases w6 : w = 6 <;> by_cases w5 : w = 5 <;> (try simp_all) <;> (try (intros; omega))
                  · simp only [pc1]
                    have e1 : ¬ j = k := by omega
                    simp only [e1, false_and, if_false, if_neg (show ¬ j < k by omega), if_neg (show ¬ j < k + 1 by omega)]
            · have e6 : s < P k 6 := by ((try simp (disch := omega) only [i_lt, i_le, i_eq, nt, i_m1, Int32.toInt_zero] at *); omega)
              have b6 := cut_b6 hO hL hs hk e3 (hz ▸ eo.2) e6
              rw [hz] at b6
              refine xr_aload_n (n := 79) dX8_cuts_78 rfl rfl ?_
              refine xr_iload (n := 81) dX8_cuts_79 rfl rfl ?_
              refine xr_bipush (v := nI 6) (n := 83) dX8_cuts_81 (by decide) rfl ?_
              refine xr_aload_n (n := 84) dX8_cuts_83 rfl rfl ?_
              refine xr_iload (n := 86) dX8_cuts_84 rfl rfl ?_
              refine xr_bipush (v := nI 6) (n := 88) dX8_cuts_86 (by decide) rfl ?_
              refine xr_callV (y2 := mX8_of) (As := [_, _]) (n := 91) dX8_cuts_88 lm_X8_124 pm_X8_of pi_X8_of (by first | exact mput_0 _ _ _ | exact mput_r (by decide)) rfl rfl rfl (by simp [Value.category]) rfl ⟨Nat.le_refl _, Nat.le_refl _⟩ ?_
              refine s_X8_of (by omega) (by omega) ?_
              dsimp only [xK, xps]
              try simp (disch := omega) only [nI_clamp, pk_mul, nI_add, oi1, up2_a, ur_a, Nat.reduceEqDiff, Nat.reduceMul, Nat.reduceAdd, reduceIte, if_pos, if_neg, hν0, g0, g5, g6, pk_sub]
              refine xr_iload_n (n := 92) dX8_cuts_91 rfl rfl ?_
              refine xr_isub (n := 93) dX8_cuts_92 rfl ?_
              try simp (disch := omega) only [nI_clamp, pk_mul, nI_add, oi1, up2_a, ur_a, Nat.reduceEqDiff, Nat.reduceMul, Nat.reduceAdd, reduceIte, if_pos, if_neg, hν0, g0, g5, g6, pk_sub]
              refine xr_callV (y2 := mX8_put) (As := [_, _, _]) (n := 96) dX8_cuts_93 lm_X8_83 pm_X8_put pi_X8_put (by first | exact mput_0 _ _ _ | exact mput_r (by decide)) rfl rfl rfl (by simp [Value.category]) rfl ⟨Nat.le_refl _, Nat.le_refl _⟩ ?_
              refine s_X8_put (by omega) (by omega) ?_
              dsimp only [xK, xps]
              refine xr_iload (n := 98) dX8_cuts_96 rfl rfl ?_
              refine xr_if_eq (tgt := 139) (n := 101) dX8_cuts_98 (by decide) rfl (fun h98 => by (exfalso; revert h98; decide)) (fun h98 => ?_)
              refine xr_aload_n (n := 102) dX8_cuts_101 rfl rfl ?_
              refine xr_iload (n := 104) dX8_cuts_102 rfl rfl ?_
              refine xr_iconst (v := nI 0) (n := 105) dX8_cuts_104 (by decide) rfl ?_
              refine xr_callV (y2 := mX8_of) (As := [_, _]) (n := 108) dX8_cuts_105 lm_X8_124 pm_X8_of pi_X8_of (by first | exact mput_0 _ _ _ | exact mput_r (by decide)) rfl rfl rfl (by simp [Value.category]) rfl ⟨Nat.le_refl _, Nat.le_refl _⟩ ?_
              refine s_X8_of (by omega) (by omega) ?_
              dsimp only [xK, xps]
              try simp (disch := omega) only [nI_clamp, pk_mul, nI_add, oi1, up2_a, ur_a, Nat.reduceEqDiff, Nat.reduceMul, Nat.reduceAdd, reduceIte, if_pos, if_neg, hν0, g0, g5, g6, pk_sub]
              refine xr_iconst (v := nI 4) (n := 109) dX8_cuts_108 (by decide) rfl ?_
              refine xr_icmp_ne (tgt := 139) (n := 112) dX8_cuts_109 (by decide) rfl (fun h109 => ?_) (fun h109 => ?_)
              · have e4 : ¬ P k 0 = 4 := by ((try simp (disch := omega) only [i_lt, i_le, i_eq, nt, i_m1, Int32.toInt_zero] at *); omega)
                refine xr_iinc (n := 142) dX8_cuts_139 rfl rfl (rfl) rfl ?_
                simp only [xst, Nat.beq, List.filter, Bool.not_true, Bool.not_false]
                try simp (disch := omega) only [nI_clamp, pk_mul, nI_add, oi1, up2_a, ur_a, Nat.reduceEqDiff, Nat.reduceMul, Nat.reduceAdd, reduceIte, if_pos, if_neg, hν0, g0, g5, g6, pk_sub]
                refine xr_goto (n := 18) dX8_cuts_142 (by decide) ?_
                refine xX.drop 5 ?_
                simp only [xst, Nat.beq, List.filter, Bool.not_true, Bool.not_false]
                first
                  | refine ih _ hν (isPg.congr (fun j w hj hw => ?_) hPν)
                  | (refine ih _ (up2_5 hν) ?_; rw [up2_s]; refine isPg.congr (fun j w hj hw => ?_) (hPν.up (by omega)))
                  | (refine ih _ (up2_5 (up2_5 hν)) ?_; rw [up2_s, up2_s]; refine isPg.congr (fun j w hj hw => ?_) ((hPν.up (by omega)).up (by omega)))
                have hjk : j < k ∨ j = k ∨ k < j := by omega
                rcases hjk with e | e | e
                · simp only [pc1]
                  have e1 : ¬ j = k := by omega
                  simp only [e1, false_and, if_false, if_pos e, if_pos (show j < k + 1 by omega)]
                · subst e
                  simp only [pc1, if_neg (Nat.lt_irrefl j), if_pos (Nat.lt_succ_self j), true_and, pc0]
                  clear hq ih hL hP hO
                  by_cases w6 : w = 6 <;> by_cases w5 : w = 5 <;> (try simp_all) <;> (try (intros; omega))
                · simp only [pc1]
                  have e1 : ¬ j = k := by omega
                  simp only [e1, false_and, if_false, if_neg (show ¬ j < k by omega), if_neg (show ¬ j < k + 1 by omega)]
              · have e4 : P k 0 = 4 := by ((try simp (disch := omega) only [i_lt, i_le, i_eq, nt, i_m1, Int32.toInt_zero] at *); omega)
                refine xr_aload_n (n := 113) dX8_cuts_112 rfl rfl ?_
                refine xr_iload (n := 115) dX8_cuts_113 rfl rfl ?_
                refine xr_iconst (v := nI 5) (n := 116) dX8_cuts_115 (by decide) rfl ?_
                refine xr_callV (y2 := mX8_of) (As := [_, _]) (n := 119) dX8_cuts_116 lm_X8_124 pm_X8_of pi_X8_of (by first | exact mput_0 _ _ _ | exact mput_r (by decide)) rfl rfl rfl (by simp [Value.category]) rfl ⟨Nat.le_refl _, Nat.le_refl _⟩ ?_
                refine s_X8_of (by omega) (by omega) ?_
                dsimp only [xK, xps]
                try simp (disch := omega) only [nI_clamp, pk_mul, nI_add, oi1, up2_a, ur_a, Nat.reduceEqDiff, Nat.reduceMul, Nat.reduceAdd, reduceIte, if_pos, if_neg, hν0, g0, g5, g6, pk_sub]
                refine xr_iload_n (n := 120) dX8_cuts_119 rfl rfl ?_
                refine xr_icmp_le (tgt := 139) (n := 123) dX8_cuts_120 (by decide) rfl (fun h120 => ?_) (fun h120 => ?_)
                · have e5 : ¬ s < P k 5 := by ((try simp (disch := omega) only [i_lt, i_le, i_eq, nt, i_m1, Int32.toInt_zero] at *); omega)
                  refine xr_iinc (n := 142) dX8_cuts_139 rfl rfl (rfl) rfl ?_
                  simp only [xst, Nat.beq, List.filter, Bool.not_true, Bool.not_false]
                  try simp (disch := omega) only [nI_clamp, pk_mul, nI_add, oi1, up2_a, ur_a, Nat.reduceEqDiff, Nat.reduceMul, Nat.reduceAdd, reduceIte, if_pos, if_neg, hν0, g0, g5, g6, pk_sub]
                  refine xr_goto (n := 18) dX8_cuts_142 (by decide) ?_
                  refine xX.drop 5 ?_
                  simp only [xst, Nat.beq, List.filter, Bool.not_true, Bool.not_false]
                  first
                    | refine ih _ hν (isPg.congr (fun j w hj hw => ?_) hPν)
                    | (refine ih _ (up2_5 hν) ?_; rw [up2_s]; refine isPg.congr (fun j w hj hw => ?_) (hPν.up (by omega)))
                    | (refine ih _ (up2_5 (up2_5 hν)) ?_; rw [up2_s, up2_s]; refine isPg.congr (fun j w hj hw => ?_) ((hPν.up (by omega)).up (by omega)))
                  have hjk : j < k ∨ j = k ∨ k < j := by omega
                  rcases hjk with e | e | e
                  · simp only [pc1]
                    have e1 : ¬ j = k := by omega
                    simp only [e1, false_and, if_false, if_pos e, if_pos (show j < k + 1 by omega)]
                  · subst e
                    simp only [pc1, if_neg (Nat.lt_irrefl j), if_pos (Nat.lt_succ_self j), true_and, pc0]
                    clear hq ih hL hP hO
                    by_cases w6 : w = 6 <;> by_cases w5 : w = 5 <;> (try simp_all) <;> (try (intros; omega))
                  · simp only [pc1]
                    have e1 : ¬ j = k := by omega
                    simp only [e1, false_and, if_false, if_neg (show ¬ j < k by omega), if_neg (show ¬ j < k + 1 by omega)]
                · have e5 : s < P k 5 := by ((try simp (disch := omega) only [i_lt, i_le, i_eq, nt, i_m1, Int32.toInt_zero] at *); omega)
                  have b5 := cut_b5 hO hL hs hk e4 (hz ▸ eo.2) e5
                  rw [hz] at b5
                  refine xr_aload_n (n := 124) dX8_cuts_123 rfl rfl ?_
                  refine xr_iload (n := 126) dX8_cuts_124 rfl rfl ?_
                  refine xr_iconst (v := nI 5) (n := 127) dX8_cuts_126 (by decide) rfl ?_
                  refine xr_aload_n (n := 128) dX8_cuts_127 rfl rfl ?_
                  refine xr_iload (n := 130) dX8_cuts_128 rfl rfl ?_
                  refine xr_iconst (v := nI 5) (n := 131) dX8_cuts_130 (by decide) rfl ?_
                  refine xr_callV (y2 := mX8_of) (As := [_, _]) (n := 134) dX8_cuts_131 lm_X8_124 pm_X8_of pi_X8_of (by first | exact mput_0 _ _ _ | exact mput_r (by decide)) rfl rfl rfl (by simp [Value.category]) rfl ⟨Nat.le_refl _, Nat.le_refl _⟩ ?_
                  refine s_X8_of (by omega) (by omega) ?_
                  dsimp only [xK, xps]
                  try simp (disch := omega) only [nI_clamp, pk_mul, nI_add, oi1, up2_a, ur_a, Nat.reduceEqDiff, Nat.reduceMul, Nat.reduceAdd, reduceIte, if_pos, if_neg, hν0, g0, g5, g6, pk_sub]
                  refine xr_iload_n (n := 135) dX8_cuts_134 rfl rfl ?_
                  refine xr_isub (n := 136) dX8_cuts_135 rfl ?_
                  try simp (disch := omega) only [nI_clamp, pk_mul, nI_add, oi1, up2_a, ur_a, Nat.reduceEqDiff, Nat.reduceMul, Nat.reduceAdd, reduceIte, if_pos, if_neg, hν0, g0, g5, g6, pk_sub]
                  refine xr_callV (y2 := mX8_put) (As := [_, _, _]) (n := 139) dX8_cuts_136 lm_X8_83 pm_X8_put pi_X8_put (by first | exact mput_0 _ _ _ | exact mput_r (by decide)) rfl rfl rfl (by simp [Value.category]) rfl ⟨Nat.le_refl _, Nat.le_refl _⟩ ?_
                  refine s_X8_put (by omega) (by omega) ?_
                  dsimp only [xK, xps]
                  refine xr_iinc (n := 142) dX8_cuts_139 rfl rfl (rfl) rfl ?_
                  simp only [xst, Nat.beq, List.filter, Bool.not_true, Bool.not_false]
                  try simp (disch := omega) only [nI_clamp, pk_mul, nI_add, oi1, up2_a, ur_a, Nat.reduceEqDiff, Nat.reduceMul, Nat.reduceAdd, reduceIte, if_pos, if_neg, hν0, g0, g5, g6, pk_sub]
                  refine xr_goto (n := 18) dX8_cuts_142 (by decide) ?_
                  refine xX.drop 5 ?_
                  simp only [xst, Nat.beq, List.filter, Bool.not_true, Bool.not_false]
                  first
                    | refine ih _ hν (isPg.congr (fun j w hj hw => ?_) hPν)
                    | (refine ih _ (up2_5 hν) ?_; rw [up2_s]; refine isPg.congr (fun j w hj hw => ?_) (hPν.up (by omega)))
                    | (refine ih _ (up2_5 (up2_5 hν)) ?_; rw [up2_s, up2_s]; refine isPg.congr (fun j w hj hw => ?_) ((hPν.up (by omega)).up (by omega)))
                  have hjk : j < k ∨ j = k ∨ k < j := by omega
                  rcases hjk with e | e | e
                  · simp only [pc1]
                    have e1 : ¬ j = k := by omega
                    simp only [e1, false_and, if_false, if_pos e, if_pos (show j < k + 1 by omega)]
                  · subst e
                    simp only [pc1, if_neg (Nat.lt_irrefl j), if_pos (Nat.lt_succ_self j), true_and, pc0]
                    clear hq ih hL hP hO
                    by_cases w6 : w = 6 <;> by_cases w5 : w = 5 <;> (try simp_all) <;> (try (intros; omega))
                  · simp only [pc1]
                    have e1 : ¬ j = k := by omega
                    simp only [e1, false_and, if_false, if_neg (show ¬ j < k by omega), if_neg (show ¬ j < k + 1 by omega)]
  exact outA 0 (Nat.zero_le _) μ (fun i _ => rfl) (isPg.congr (fun j w hj hw => by simp only [pc1]; rw [if_neg (by omega)]) hP)
