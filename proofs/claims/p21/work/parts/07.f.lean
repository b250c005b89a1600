/-! the class: agree, idle -/
theorem agN_k {t : Nat × Option (Nat × Nat)} {i j : Nat} {q : Nat × Nat} (h : t.2 = some q) (b : Bool) : (agN t i j b).2 = some q := by
  cases b with
  | true => exact h
  | false =>
    show (match t.2 with | none => some (i, j) | some q => some q) = some q
    rw [h]
theorem agC_k {g : Nat → Nat → Bool} {s : Nat × Option (Nat × Nat)} {i : Nat} {q : Nat × Nat} (h : s.2 = some q) : ∀ j, (agC g s i j).2 = some q
  | 0 => h
  | j + 1 => agN_k (agC_k h j) _
theorem agC_m {g : Nat → Nat → Bool} {s : Nat × Option (Nat × Nat)} {i j : Nat} {q : Nat × Nat} (h : (agC g s i j).2 = some q) : ∀ k, (agC g s i (j + k)).2 = some q
  | 0 => h
  | k + 1 => agN_k (agC_m h k) _
theorem agR_m {g : Nat → Nat → Bool} {w i : Nat} {q : Nat × Nat} (h : (agR g w i).2 = some q) : ∀ k, (agR g w (i + k)).2 = some q
  | 0 => h
  | k + 1 => agC_k (agR_m h k) w
theorem ag_fst {g : Nat → Nat → Bool} {w i j : Nat} (hi : i < w) (hj : j < w) (hn : (agC g (agR g w i) i j).2 = none) (hg : g i j = false) : (agR g w w).2 = some (i, j) := by
  have h1 : (agC g (agR g w i) i (j + 1)).2 = some (i, j) := by
    rw [agC_s, hg]
    show (match (agC g (agR g w i) i j).2 with | none => some (i, j) | some q => some q) = some (i, j)
    rw [hn]
  have h2 := agC_m h1 (w - (j + 1))
  rw [show j + 1 + (w - (j + 1)) = w by omega] at h2
  have h3 : (agR g w (i + 1)).2 = some (i, j) := h2
  have h4 := agR_m h3 (w - (i + 1))
  rw [show i + 1 + (w - (i + 1)) = w by omega] at h4
  exact h4
theorem agB_tr {N : Nat → Nat} {P : Nat → Nat → Nat → Nat} {lo : Int32} {i j : Nat} {δ ε : xS} (h : trR δ (N 0) (P 0) (av lo i) (av lo j)) (h2 : trR ε (N 1) (P 1) (av lo i) (av lo j)) : (δ 10 0 = nI 0 ∧ ε 10 0 = nI 0 ∧ δ 9 0 = ε 9 0 ∧ fdv (0, δ) (0, ε) = (-10009)) ↔ agB N P lo i j = true := by
  unfold agB
  rw [decide_eq_true_iff, h.2, h2.2, h.1.2.2.1.2.2.2.2, h2.1.2.2.1.2.2.2.2, fd_sim h.1 h2.1 0 0]
  exact Iff.rfl
theorem fdF_cg {A B A' B' : Nat × xS} (h : ∀ k, valA A k = valA A' k) (h2 : ∀ k, valA B k = valA B' k) : ∀ g k, fdF A B g k = fdF A' B' g k
  | 0, _ => rfl
  | g + 1, k => by
    unfold fdF
    rw [h, h2, fdF_cg h h2 g (k + 1)]
theorem fdF_all {A B : Nat × xS} : ∀ g k, k + g ≤ 40 → fdF A B g k = (-10009) → ∀ j, k ≤ j → j < k + g → valA A j = valA B j
  | 0, k, _, _, j, h1, h2 => by omega
  | g + 1, k, hk, h, j, h1, h2 => by
    unfold fdF at h
    by_cases e : valA A k = valA B k
    · by_cases ej : j = k
      · subst ej; exact e
      · first
          | rw [if_pos e] at h
          | rw [if_neg (fun z => z e)] at h
        exact fdF_all g (k + 1) (by omega) h j (by omega) (by omega)
    · exfalso
      first
        | rw [if_neg e] at h
        | rw [if_pos e] at h
      have e2 : (-10009 : Int32).toInt = -10009 := by decide +kernel
      have e3 := nt k (by omega)
      rw [h, e2] at e3
      omega
def kpo (τ : xS) (n : Nat) (P : Nat → Nat → Nat) (k : Nat) : Prop := τ 9 0 = (runD n P (nI (k / 4)) (nI (k % 4))).2 9 0 ∧ τ 10 0 = cutD n (runD n P (nI (k / 4)) (nI (k % 4))) ∧ ∀ i, i < 40 → i < ix ((runD n P (nI (k / 4)) (nI (k % 4))).2 9 0) → τ 0 i = (runD n P (nI (k / 4)) (nI (k % 4))).2 0 i
theorem kpo_v {τ : xS} {n k : Nat} {P : Nat → Nat → Nat} (h : kpo τ n P k) (j : Nat) : valA (0, τ) j = valA (runD n P (nI (k / 4)) (nI (k % 4))) j := by
  unfold valA
  show (if j < 40 ∧ j < ix (τ 9 0) then τ 0 j else (-10009)) = _
  rw [h.1]
  split
  · rename_i e
    exact h.2.2 j e.1 e.2
  · rfl
theorem smo_c {τ δ : xS} {n n' k : Nat} {P P' : Nat → Nat → Nat} (h : kpo τ n P k) (h2 : trR δ n' P' (nI (k / 4)) (nI (k % 4))) : (τ 10 0 = δ 10 0 ∧ (τ 9 0 = δ 9 0 ∧ fdv (0, τ) (0, δ) = (-10009))) ↔ smo n (runD n P (nI (k / 4)) (nI (k % 4))) n' (runD n' P' (nI (k / 4)) (nI (k % 4))) := by
  have e9 := h2.1.2.2.1.2.2.2.2
  have ef : fdv (0, τ) (0, δ) = fdv (runD n P (nI (k / 4)) (nI (k % 4))) (runD n' P' (nI (k / 4)) (nI (k % 4))) := fdF_cg (kpo_v h) (va_sim h2.1 0) 40 0
  rw [ef, h.1, h.2.1, h2.2, e9]
  generalize runD n P (nI (k / 4)) (nI (k % 4)) = A
  generalize runD n' P' (nI (k / 4)) (nI (k % 4)) = B
  refine ⟨fun ⟨c, a, v⟩ => ⟨a.symm, c.symm, fun i h1 h3 => ?_⟩, fun ⟨a, c, v⟩ => ⟨c.symm, a.symm, ?_⟩⟩
  · have := fdF_all 40 0 (by omega) v i (by omega) (by omega)
    unfold valA at this
    rw [if_pos ⟨h1, h3⟩, if_pos ⟨h1, by rw [← a]; exact h3⟩] at this
    exact this
  · refine fdF_end 40 0 (fun j _ => ?_)
    unfold valA
    rw [a]
    split
    · rename_i e
      exact v j e.1 e.2
    · rfl
theorem cut01 (n : Nat) (A : Nat × xS) : cutD n A = nI 0 ∨ cutD n A = nI 1 := by
  unfold cutD
  split
  · exact Or.inr rfl
  · exact Or.inl rfl
section
variable {z n sv : Nat} {rl : Nat → Nat} {S : Nat → xS} {t : Nat → Int32} {N : Nat → Nat} {P : Nat → Nat → Nat → Nat} {HN : Nat → Nat → Nat} {HP : Nat → Nat → Nat → Nat → Nat} {f f1 : Nat → xC}
theorem CV.udr (h : CV f z rl sv S t n N P HN HP) (h5 : sv ≤ 5) (τ : xS) : CV (lput f (z + 3) τ) z rl sv (ss S 12 τ) t n N P HN HP ∧ rgn z f (lput f (z + 3) τ) := by
  obtain ⟨c, r⟩ := h.1.ud τ
  exact ⟨h.sm h5 c (fun i hi => ss_n (by omega)) (ss_n (by omega)) (by rw [ss_n (by omega)]; exact h.2.2.1), r⟩
theorem CV.uou (h : CV f z rl sv S t n N P HN HP) (h5 : sv ≤ 5) {k : Nat} (hk : k < 16) (τ : xS) : CV (oput f (z + 135 + 2 * k) τ) z rl sv (ss S (17 + k) τ) t n N P HN HP ∧ rgn z f (oput f (z + 135 + 2 * k) τ) := by
  obtain ⟨c, r⟩ := h.1.uo hk τ
  exact ⟨h.sm h5 c (fun i hi => ss_n (by omega)) (ss_n (by omega)) (by rw [ss_n (by omega)]; exact h.2.2.1), r⟩
end
theorem s_X7_agree {G : xG} {d : Nat} {f : Nat → xC} {r : Nat × Nat} {Q : Option Value → xM → Prop} {z n sv : Nat} {rl : Nat → Nat} {S : Nat → xS} {t : Nat → Int32} {N : Nat → Nat} {P : Nat → Nat → Nat → Nat} {HN : Nat → Nat → Nat} {HP : Nat → Nat → Nat → Nat → Nat} {lo hi w : Int32} (hV : CV f z rl sv S t n N P HN HP) (hA : AI t n sv N P HN HP) (hq0 : ¬ ((-9 ≤ lo.toInt ∧ lo.toInt ≤ 9) ∧ (lo.toInt ≤ hi.toInt ∧ hi.toInt ≤ 9) ∧ (0 ≤ w.toInt ∧ w.toInt ≤ 2)) → Q (some (.int (-10001))) (f, r)) (hq : ∀ (wn : Nat), ((-9 ≤ lo.toInt ∧ lo.toInt ≤ 9) ∧ (lo.toInt ≤ hi.toInt ∧ hi.toInt ≤ 9) ∧ (0 ≤ w.toInt ∧ w.toInt ≤ 2)) → wn ≤ 2 → w = nI wn → ∀ f', CI f' z t n sv N P HN HP → rgn z f f' → Q (some (.int (agV N P lo hi wn))) (f', r)) : xMet G (d + 9) mX7_agree [.ref z, .int lo, .int hi, .int w] (f, r) r Q := by
  refine xMet_0 (by decide +kernel) rfl (Nat.le_of_ble_eq_true rfl) ?_
  show xX G (d + 9) mX7_agree r r (xΦ G r r Q) 0 [(0, .ref z), (1, .int lo), (2, .int hi), (3, .int w)] [] (f, r)
  have hC := hV.1
  refine xr_iload_n (n := 1) dX7_agree_0 rfl rfl ?_
  refine xr_bipush (v := (-9)) (n := 3) dX7_agree_1 (by decide) rfl ?_
  refine xr_bipush (v := nI 9) (n := 5) dX7_agree_3 (by decide) rfl ?_
  refine xr_callS (y2 := mX7_isWithin) (As := [_, _, _]) (n := 8) dX7_agree_5 lm_X7_59 pm_X7_isWithin kp_static_yX7_isWithin rfl rfl (by simp [Value.category]) rfl ⟨Nat.le_refl _, Nat.le_refl _⟩ ?_
  refine s_X7_isWithin ?_
  dsimp only [xK, xps]
  rw [b2i_iff (q := -9 ≤ lo.toInt ∧ lo.toInt ≤ 9) (by first | exact Iff.rfl | (simp only [im9, i9, nt 0 (by omega), nt 2 (by omega)]; exact Iff.rfl))]
  refine xr_beq (tgt := 30) (n := 11) dX7_agree_8 (by decide) rfl (fun h8 => ?_) (fun h8 => ?_)
  · refine xr_sipush (v := (-10001)) (n := 33) dX7_agree_30 (by decide) rfl ?_
    refine xr_ireturn dX7_agree_33 rfl rfl rfl ?_
    first | exact hq0 (fun q => h8 q.1) | exact hq0 (fun q => h18 q.2.1) | exact hq0 (fun q => h27 q.2.2)
  · refine xr_iload_n (n := 12) dX7_agree_11 rfl rfl ?_
    refine xr_iload_n (n := 13) dX7_agree_12 rfl rfl ?_
    refine xr_bipush (v := nI 9) (n := 15) dX7_agree_13 (by decide) rfl ?_
    refine xr_callS (y2 := mX7_isWithin) (As := [_, _, _]) (n := 18) dX7_agree_15 lm_X7_59 pm_X7_isWithin kp_static_yX7_isWithin rfl rfl (by simp [Value.category]) rfl ⟨Nat.le_refl _, Nat.le_refl _⟩ ?_
    refine s_X7_isWithin ?_
    dsimp only [xK, xps]
    rw [b2i_iff (q := lo.toInt ≤ hi.toInt ∧ hi.toInt ≤ 9) (by first | exact Iff.rfl | (simp only [im9, i9, nt 0 (by omega), nt 2 (by omega)]; exact Iff.rfl))]
    refine xr_beq (tgt := 30) (n := 21) dX7_agree_18 (by decide) rfl (fun h18 => ?_) (fun h18 => ?_)
    · refine xr_sipush (v := (-10001)) (n := 33) dX7_agree_30 (by decide) rfl ?_
      refine xr_ireturn dX7_agree_33 rfl rfl rfl ?_
      first | exact hq0 (fun q => h8 q.1) | exact hq0 (fun q => h18 q.2.1) | exact hq0 (fun q => h27 q.2.2)
    · refine xr_iload_n (n := 22) dX7_agree_21 rfl rfl ?_
      refine xr_iconst (v := nI 0) (n := 23) dX7_agree_22 (by decide) rfl ?_
      refine xr_iconst (v := nI 2) (n := 24) dX7_agree_23 (by decide) rfl ?_
      refine xr_callS (y2 := mX7_isWithin) (As := [_, _, _]) (n := 27) dX7_agree_24 lm_X7_59 pm_X7_isWithin kp_static_yX7_isWithin rfl rfl (by simp [Value.category]) rfl ⟨Nat.le_refl _, Nat.le_refl _⟩ ?_
      refine s_X7_isWithin ?_
      dsimp only [xK, xps]
      rw [b2i_iff (q := 0 ≤ w.toInt ∧ w.toInt ≤ 2) (by first | exact Iff.rfl | (simp only [im9, i9, nt 0 (by omega), nt 2 (by omega)]; exact Iff.rfl))]
      refine xr_bne (tgt := 34) (n := 30) dX7_agree_27 (by decide) rfl (fun h27 => ?_) (fun h27 => ?_)
      · obtain ⟨wn, hwn, rfl⟩ := k_of h27.1
        have hw6 : wn ≤ 2 := by ((try simp (disch := omega) only [i_lt, i_le, i_eq, nt, i_m1, Int32.toInt_zero] at *); omega)
        refine xr_iconst (v := nI 0) (n := 35) dX7_agree_34 (by decide) rfl ?_
        refine xr_istore (n := 37) dX7_agree_35 rfl rfl ?_
        simp only [xst, Nat.beq, List.filter, Bool.not_true, Bool.not_false]
        refine xr_iload_n (n := 38) dX7_agree_37 rfl rfl ?_
        refine xr_istore (n := 40) dX7_agree_38 rfl rfl ?_
        simp only [xst, Nat.beq, List.filter, Bool.not_true, Bool.not_false]
        have hwd := wid_le h8.1 h18.1 h18.2
        have key : ∀ i, i ≤ wid lo hi → ∀ f0 S0, CV f0 z rl sv S0 t n N P HN HP → rgn z f f0 → (wn = 0 ∨ (agR (agB N P lo) (wid lo hi) i).2 = none) → xX G (d + 9) mX7_agree r r (xΦ G r r Q) 40 [(0, .ref z), (1, .int lo), (2, .int hi), (3, .int (nI wn)), (4, .int (nI (agR (agB N P lo) (wid lo hi) i).1)), (5, .int (av lo i))] [] (f0, r) := by
          refine nat_down (P := fun i => ∀ f0 S0, CV f0 z rl sv S0 t n N P HN HP → rgn z f f0 → (wn = 0 ∨ (agR (agB N P lo) (wid lo hi) i).2 = none) → xX G (d + 9) mX7_agree r r (xΦ G r r Q) 40 [(0, .ref z), (1, .int lo), (2, .int hi), (3, .int (nI wn)), (4, .int (nI (agR (agB N P lo) (wid lo hi) i).1)), (5, .int (av lo i))] [] (f0, r)) (N := wid lo hi) ?_ ?_
          · intro f0 S0 hV0 hr0 hno
            refine xr_iload (n := 42) dX7_agree_40 rfl rfl ?_
            refine xr_iload_n (n := 43) dX7_agree_42 rfl rfl ?_
            refine xr_icmp_gt (tgt := 119) (n := 46) dX7_agree_43 (by decide) rfl (fun h43 => ?_) (fun h43 => by (exact absurd ((nidx h8.1 h18.1 h18.2 (Nat.le_refl _)).mpr (Nat.lt_irrefl _)) h43))
            refine xr_iload_n (n := 120) dX7_agree_119 rfl rfl ?_
            refine xr_if_ne (tgt := 128) (n := 123) dX7_agree_120 (by decide) rfl (fun h120 => ?_) (fun h120 => ?_)
            · refine xr_sipush (v := (-10009)) (n := 131) dX7_agree_128 (by decide) rfl ?_
              refine xr_ireturn dX7_agree_131 rfl rfl rfl ?_
              have h9 := hq wn ⟨h8, h18, h27⟩ hw6 rfl f0 ⟨_, _, hV0⟩ hr0
              unfold agV at h9
              first
                | (have w0 : wn = 0 := by ((try simp (disch := omega) only [i_lt, i_le, i_eq, nt, i_m1, Int32.toInt_zero] at *); omega)
                   rw [if_pos w0] at h9
                   exact h9)
                | (have w0 : ¬ wn = 0 := by ((try simp (disch := omega) only [i_lt, i_le, i_eq, nt, i_m1, Int32.toInt_zero] at *); omega)
                   have hn2 := hno.resolve_left w0
                   rw [if_neg w0, hn2] at h9
                   split at h9 <;> exact h9)
            · refine xr_iload (n := 125) dX7_agree_123 rfl rfl ?_
              refine xr_goto (n := 131) dX7_agree_125 (by decide) ?_
              refine xr_ireturn dX7_agree_131 rfl rfl rfl ?_
              have h9 := hq wn ⟨h8, h18, h27⟩ hw6 rfl f0 ⟨_, _, hV0⟩ hr0
              unfold agV at h9
              first
                | (have w0 : wn = 0 := by ((try simp (disch := omega) only [i_lt, i_le, i_eq, nt, i_m1, Int32.toInt_zero] at *); omega)
                   rw [if_pos w0] at h9
                   exact h9)
                | (have w0 : ¬ wn = 0 := by ((try simp (disch := omega) only [i_lt, i_le, i_eq, nt, i_m1, Int32.toInt_zero] at *); omega)
                   have hn2 := hno.resolve_left w0
                   rw [if_neg w0, hn2] at h9
                   split at h9 <;> exact h9)
          · intro i hI ih f0 S0 hV0 hr0 hno
            have hin : ∀ j, j ≤ wid lo hi → ∀ f0 S0, CV f0 z rl sv S0 t n N P HN HP → rgn z f f0 → (wn = 0 ∨ (agC (agB N P lo) (agR (agB N P lo) (wid lo hi) i) i j).2 = none) → xX G (d + 9) mX7_agree r r (xΦ G r r Q) 49 [(0, .ref z), (1, .int lo), (2, .int hi), (3, .int (nI wn)), (4, .int (nI (agC (agB N P lo) (agR (agB N P lo) (wid lo hi) i) i j).1)), (5, .int (av lo i)), (6, .int (av lo j))] [] (f0, r) := by
              refine nat_down (P := fun j => ∀ f0 S0, CV f0 z rl sv S0 t n N P HN HP → rgn z f f0 → (wn = 0 ∨ (agC (agB N P lo) (agR (agB N P lo) (wid lo hi) i) i j).2 = none) → xX G (d + 9) mX7_agree r r (xΦ G r r Q) 49 [(0, .ref z), (1, .int lo), (2, .int hi), (3, .int (nI wn)), (4, .int (nI (agC (agB N P lo) (agR (agB N P lo) (wid lo hi) i) i j).1)), (5, .int (av lo i)), (6, .int (av lo j))] [] (f0, r)) (N := wid lo hi) ?_ ?_
              · intro f0 S0 hV0 hr0 hno
                refine xr_iload (n := 51) dX7_agree_49 rfl rfl ?_
                refine xr_iload_n (n := 52) dX7_agree_51 rfl rfl ?_
                refine xr_icmp_gt (tgt := 113) (n := 55) dX7_agree_52 (by decide) rfl (fun h52 => ?_) (fun h52 => by (exact absurd ((nidx h8.1 h18.1 h18.2 (Nat.le_refl _)).mpr (Nat.lt_irrefl _)) h52))
                refine xr_iinc (n := 116) dX7_agree_113 rfl rfl (rfl) rfl ?_
                simp only [xst, Nat.beq, List.filter, Bool.not_true, Bool.not_false]
                rw [show Int32.ofInt 1 = nI 1 from rfl, av_s h8.1 h8.2 (by omega)]
                refine xr_goto (n := 40) dX7_agree_116 (by decide) ?_
                refine xX.drop 6 ?_
                simp only [xst, Nat.beq, List.filter, Bool.not_true, Bool.not_false]
                exact ih f0 S0 hV0 hr0 hno
              · intro j hj ih2 f0 S0 hV0 hr0 hno
                have hC0 := hV0.1
                have hij : inpt (av lo i) (av lo j) := by unfold inpt; rw [av_i h8.1 h8.2 (by omega), av_i h8.1 h8.2 (by omega)]; omega
                refine xr_iload (n := 51) dX7_agree_49 rfl rfl ?_
                refine xr_iload_n (n := 52) dX7_agree_51 rfl rfl ?_
                refine xr_icmp_gt (tgt := 113) (n := 55) dX7_agree_52 (by decide) rfl (fun h52 => by (exact absurd hj ((nidx h8.1 h18.1 h18.2 (by omega)).mp h52))) (fun h52 => ?_)
                refine xr_aload_n (n := 56) dX7_agree_55 rfl rfl ?_
                refine xr_get (n := 59) dX7_agree_56 fl_X7_42 (by first | assumption | exact hC.2.1.1 | exact hC.2.1.2.1 | exact hC.2.2.1.1 | exact xat_0 hC.x | exact lat_0 hC.d | exact lat_0 (hC.l (by omega)) | exact qat_0 hC.q | exact tat_0 hC.t0 | exact tat_0 hC.t1 | exact tat_r hC.t0 (i := 1) (by decide) | exact tat_r hC.t1 (i := 1) (by decide) | exact hC1.2.1.1 | exact hC1.2.1.2.1 | exact hC1.2.2.1.1 | exact xat_0 hC1.x | exact lat_0 hC1.d | exact lat_0 (hC1.l (by omega)) | exact qat_0 hC1.q | exact tat_0 hC1.t0 | exact tat_0 hC1.t1 | exact tat_r hC1.t0 (i := 1) (by decide) | exact tat_r hC1.t1 (i := 1) (by decide) | exact hC2.2.1.1 | exact hC2.2.1.2.1 | exact hC2.2.2.1.1 | exact xat_0 hC2.x | exact lat_0 hC2.d | exact lat_0 (hC2.l (by omega)) | exact qat_0 hC2.q | exact tat_0 hC2.t0 | exact tat_0 hC2.t1 | exact tat_r hC2.t0 (i := 1) (by decide) | exact tat_r hC2.t1 (i := 1) (by decide) | exact hC0.2.1.1 | exact hC0.2.1.2.1 | exact hC0.2.2.1.1 | exact xat_0 hC0.x | exact lat_0 hC0.d | exact lat_0 (hC0.l (by omega)) | exact qat_0 hC0.q | exact tat_0 hC0.t0 | exact tat_0 hC0.t1 | exact tat_r hC0.t0 (i := 1) (by decide) | exact tat_r hC0.t1 (i := 1) (by decide)) (by rfl) rfl ?_
                refine xr_aload_n (n := 60) dX7_agree_59 rfl rfl ?_
                refine xr_get (n := 63) dX7_agree_60 fl_X7_53 (by first | assumption | exact hC.2.1.1 | exact hC.2.1.2.1 | exact hC.2.2.1.1 | exact xat_0 hC.x | exact lat_0 hC.d | exact lat_0 (hC.l (by omega)) | exact qat_0 hC.q | exact tat_0 hC.t0 | exact tat_0 hC.t1 | exact tat_r hC.t0 (i := 1) (by decide) | exact tat_r hC.t1 (i := 1) (by decide) | exact hC1.2.1.1 | exact hC1.2.1.2.1 | exact hC1.2.2.1.1 | exact xat_0 hC1.x | exact lat_0 hC1.d | exact lat_0 (hC1.l (by omega)) | exact qat_0 hC1.q | exact tat_0 hC1.t0 | exact tat_0 hC1.t1 | exact tat_r hC1.t0 (i := 1) (by decide) | exact tat_r hC1.t1 (i := 1) (by decide) | exact hC2.2.1.1 | exact hC2.2.1.2.1 | exact hC2.2.2.1.1 | exact xat_0 hC2.x | exact lat_0 hC2.d | exact lat_0 (hC2.l (by omega)) | exact qat_0 hC2.q | exact tat_0 hC2.t0 | exact tat_0 hC2.t1 | exact tat_r hC2.t0 (i := 1) (by decide) | exact tat_r hC2.t1 (i := 1) (by decide) | exact hC0.2.1.1 | exact hC0.2.1.2.1 | exact hC0.2.2.1.1 | exact xat_0 hC0.x | exact lat_0 hC0.d | exact lat_0 (hC0.l (by omega)) | exact qat_0 hC0.q | exact tat_0 hC0.t0 | exact tat_0 hC0.t1 | exact tat_r hC0.t0 (i := 1) (by decide) | exact tat_r hC0.t1 (i := 1) (by decide)) (by rfl) rfl ?_
                refine xr_aload_n (n := 64) dX7_agree_63 rfl rfl ?_
                refine xr_get (n := 67) dX7_agree_64 fl_X7_56 (by first | assumption | exact hC.2.1.1 | exact hC.2.1.2.1 | exact hC.2.2.1.1 | exact xat_0 hC.x | exact lat_0 hC.d | exact lat_0 (hC.l (by omega)) | exact qat_0 hC.q | exact tat_0 hC.t0 | exact tat_0 hC.t1 | exact tat_r hC.t0 (i := 1) (by decide) | exact tat_r hC.t1 (i := 1) (by decide) | exact hC1.2.1.1 | exact hC1.2.1.2.1 | exact hC1.2.2.1.1 | exact xat_0 hC1.x | exact lat_0 hC1.d | exact lat_0 (hC1.l (by omega)) | exact qat_0 hC1.q | exact tat_0 hC1.t0 | exact tat_0 hC1.t1 | exact tat_r hC1.t0 (i := 1) (by decide) | exact tat_r hC1.t1 (i := 1) (by decide) | exact hC2.2.1.1 | exact hC2.2.1.2.1 | exact hC2.2.2.1.1 | exact xat_0 hC2.x | exact lat_0 hC2.d | exact lat_0 (hC2.l (by omega)) | exact qat_0 hC2.q | exact tat_0 hC2.t0 | exact tat_0 hC2.t1 | exact tat_r hC2.t0 (i := 1) (by decide) | exact tat_r hC2.t1 (i := 1) (by decide) | exact hC0.2.1.1 | exact hC0.2.1.2.1 | exact hC0.2.2.1.1 | exact xat_0 hC0.x | exact lat_0 hC0.d | exact lat_0 (hC0.l (by omega)) | exact qat_0 hC0.q | exact tat_0 hC0.t0 | exact tat_0 hC0.t1 | exact tat_r hC0.t0 (i := 1) (by decide) | exact tat_r hC0.t1 (i := 1) (by decide)) (by rfl) rfl ?_
                refine xr_iload (n := 69) dX7_agree_67 rfl rfl ?_
                refine xr_iload (n := 71) dX7_agree_69 rfl rfl ?_
                refine xr_callV (y2 := mX4_follow) (As := [_, _, _, _]) (n := 74) dX7_agree_71 lm_X7_168 pm_X4_follow pi_X4_follow (by first | assumption | exact hC.2.1.1 | exact hC.2.1.2.1 | exact hC.2.2.1.1 | exact xat_0 hC.x | exact lat_0 hC.d | exact lat_0 (hC.l (by omega)) | exact qat_0 hC.q | exact tat_0 hC.t0 | exact tat_0 hC.t1 | exact tat_r hC.t0 (i := 1) (by decide) | exact tat_r hC.t1 (i := 1) (by decide) | exact hC1.2.1.1 | exact hC1.2.1.2.1 | exact hC1.2.2.1.1 | exact xat_0 hC1.x | exact lat_0 hC1.d | exact lat_0 (hC1.l (by omega)) | exact qat_0 hC1.q | exact tat_0 hC1.t0 | exact tat_0 hC1.t1 | exact tat_r hC1.t0 (i := 1) (by decide) | exact tat_r hC1.t1 (i := 1) (by decide) | exact hC2.2.1.1 | exact hC2.2.1.2.1 | exact hC2.2.2.1.1 | exact xat_0 hC2.x | exact lat_0 hC2.d | exact lat_0 (hC2.l (by omega)) | exact qat_0 hC2.q | exact tat_0 hC2.t0 | exact tat_0 hC2.t1 | exact tat_r hC2.t0 (i := 1) (by decide) | exact tat_r hC2.t1 (i := 1) (by decide) | exact hC0.2.1.1 | exact hC0.2.1.2.1 | exact hC0.2.2.1.1 | exact xat_0 hC0.x | exact lat_0 hC0.d | exact lat_0 (hC0.l (by omega)) | exact qat_0 hC0.q | exact tat_0 hC0.t0 | exact tat_0 hC0.t1 | exact tat_r hC0.t0 (i := 1) (by decide) | exact tat_r hC0.t1 (i := 1) (by decide)) rfl rfl rfl (by simp [Value.category]) rfl ⟨Nat.le_refl _, Nat.le_refl _⟩ ?_
                refine s_X4_follow_p hV0 hA hij (fun f1 S1 hV1 hr1 htr htr2 => ?_)
                have hC1 := hV1.1
                obtain ⟨mk, tl, hmk, htl, e6, e9⟩ := htr.c (hA.2.2.2.1 0 (by omega)).1 hij
                obtain ⟨mk1, tl1, hmk1, htl1, e61, e91⟩ := htr2.c (hA.2.2.2.1 1 (by omega)).1 hij
                dsimp only [xK, xps]
                refine xr_aload_n (n := 75) dX7_agree_74 rfl rfl ?_
                refine xr_get (n := 78) dX7_agree_75 fl_X7_42 (by first | assumption | exact hC.2.1.1 | exact hC.2.1.2.1 | exact hC.2.2.1.1 | exact xat_0 hC.x | exact lat_0 hC.d | exact lat_0 (hC.l (by omega)) | exact qat_0 hC.q | exact tat_0 hC.t0 | exact tat_0 hC.t1 | exact tat_r hC.t0 (i := 1) (by decide) | exact tat_r hC.t1 (i := 1) (by decide) | exact hC1.2.1.1 | exact hC1.2.1.2.1 | exact hC1.2.2.1.1 | exact xat_0 hC1.x | exact lat_0 hC1.d | exact lat_0 (hC1.l (by omega)) | exact qat_0 hC1.q | exact tat_0 hC1.t0 | exact tat_0 hC1.t1 | exact tat_r hC1.t0 (i := 1) (by decide) | exact tat_r hC1.t1 (i := 1) (by decide) | exact hC2.2.1.1 | exact hC2.2.1.2.1 | exact hC2.2.2.1.1 | exact xat_0 hC2.x | exact lat_0 hC2.d | exact lat_0 (hC2.l (by omega)) | exact qat_0 hC2.q | exact tat_0 hC2.t0 | exact tat_0 hC2.t1 | exact tat_r hC2.t0 (i := 1) (by decide) | exact tat_r hC2.t1 (i := 1) (by decide) | exact hC0.2.1.1 | exact hC0.2.1.2.1 | exact hC0.2.2.1.1 | exact xat_0 hC0.x | exact lat_0 hC0.d | exact lat_0 (hC0.l (by omega)) | exact qat_0 hC0.q | exact tat_0 hC0.t0 | exact tat_0 hC0.t1 | exact tat_r hC0.t0 (i := 1) (by decide) | exact tat_r hC0.t1 (i := 1) (by decide)) (by rfl) rfl ?_
                refine xr_callV (y2 := mX4_inAgreement) (As := []) (n := 81) dX7_agree_78 lm_X7_196 pm_X4_inAgreement pi_X4_inAgreement (by first | assumption | exact hC.2.1.1 | exact hC.2.1.2.1 | exact hC.2.2.1.1 | exact xat_0 hC.x | exact lat_0 hC.d | exact lat_0 (hC.l (by omega)) | exact qat_0 hC.q | exact tat_0 hC.t0 | exact tat_0 hC.t1 | exact tat_r hC.t0 (i := 1) (by decide) | exact tat_r hC.t1 (i := 1) (by decide) | exact hC1.2.1.1 | exact hC1.2.1.2.1 | exact hC1.2.2.1.1 | exact xat_0 hC1.x | exact lat_0 hC1.d | exact lat_0 (hC1.l (by omega)) | exact qat_0 hC1.q | exact tat_0 hC1.t0 | exact tat_0 hC1.t1 | exact tat_r hC1.t0 (i := 1) (by decide) | exact tat_r hC1.t1 (i := 1) (by decide) | exact hC2.2.1.1 | exact hC2.2.1.2.1 | exact hC2.2.2.1.1 | exact xat_0 hC2.x | exact lat_0 hC2.d | exact lat_0 (hC2.l (by omega)) | exact qat_0 hC2.q | exact tat_0 hC2.t0 | exact tat_0 hC2.t1 | exact tat_r hC2.t0 (i := 1) (by decide) | exact tat_r hC2.t1 (i := 1) (by decide) | exact hC0.2.1.1 | exact hC0.2.1.2.1 | exact hC0.2.2.1.1 | exact xat_0 hC0.x | exact lat_0 hC0.d | exact lat_0 (hC0.l (by omega)) | exact qat_0 hC0.q | exact tat_0 hC0.t0 | exact tat_0 hC0.t1 | exact tat_r hC0.t0 (i := 1) (by decide) | exact tat_r hC0.t1 (i := 1) (by decide)) rfl rfl rfl (by simp [Value.category]) rfl ⟨Nat.le_refl _, Nat.le_refl _⟩ ?_
                refine s_X4_inAgreement hC1.2.1.2.1 hC1.t0 hC1.t1 e9 htl e91 htl1 ?_
                rw [b2i_iff (agB_tr htr htr2)]
                dsimp only [xK, xps]
                refine xr_beq (tgt := 90) (n := 84) dX7_agree_81 (by decide) rfl (fun h81 => ?_) (fun h81 => ?_)
                · have hf81 : agB N P lo i j = false := Bool.eq_false_iff.mpr h81
                  refine xr_iload_n (n := 91) dX7_agree_90 rfl rfl ?_
                  refine xr_if_eq (tgt := 107) (n := 94) dX7_agree_91 (by decide) rfl (fun h91 => ?_) (fun h91 => ?_)
                  · refine xr_iinc (n := 110) dX7_agree_107 rfl rfl (rfl) rfl ?_
                    simp only [xst, Nat.beq, List.filter, Bool.not_true, Bool.not_false]
                    rw [show Int32.ofInt 1 = nI 1 from rfl, av_s h8.1 h8.2 (by omega)]
                    refine xr_goto (n := 49) dX7_agree_110 (by decide) ?_
                    have w0 : wn = 0 := by ((try simp (disch := omega) only [i_lt, i_le, i_eq, nt, i_m1, Int32.toInt_zero] at *); omega)
                    have i2 := ih2 f1 S1 hV1 (hr0.tr hr1) (Or.inl w0)
                    rw [agC_s, hf81] at i2
                    exact i2
                  · refine xr_iload_n (n := 95) dX7_agree_94 rfl rfl ?_
                    refine xr_iconst (v := nI 1) (n := 96) dX7_agree_95 (by decide) rfl ?_
                    refine xr_icmp_ne (tgt := 104) (n := 99) dX7_agree_96 (by decide) rfl (fun h96 => ?_) (fun h96 => ?_)
                    · refine xr_iload (n := 106) dX7_agree_104 rfl rfl ?_
                      refine xr_ireturn dX7_agree_106 rfl rfl rfl ?_
                      have w0 : ¬ wn = 0 := by ((try simp (disch := omega) only [i_lt, i_le, i_eq, nt, i_m1, Int32.toInt_zero] at *); omega)
                      have hfs := ag_fst hI hj (hno.resolve_left w0) hf81
                      have h9 := hq wn ⟨h8, h18, h27⟩ hw6 rfl f1 ⟨_, _, hV1⟩ (hr0.tr hr1)
                      unfold agV at h9
                      rw [if_neg w0, hfs] at h9
                      first
                        | (rw [if_pos (by ((try simp (disch := omega) only [i_lt, i_le, i_eq, nt, i_m1, Int32.toInt_zero] at *); omega))] at h9; exact h9)
                        | (rw [if_neg (by ((try simp (disch := omega) only [i_lt, i_le, i_eq, nt, i_m1, Int32.toInt_zero] at *); omega))] at h9; exact h9)
                    · refine xr_iload (n := 101) dX7_agree_99 rfl rfl ?_
                      refine xr_goto (n := 106) dX7_agree_101 (by decide) ?_
                      refine xr_ireturn dX7_agree_106 rfl rfl rfl ?_
                      have w0 : ¬ wn = 0 := by ((try simp (disch := omega) only [i_lt, i_le, i_eq, nt, i_m1, Int32.toInt_zero] at *); omega)
                      have hfs := ag_fst hI hj (hno.resolve_left w0) hf81
                      have h9 := hq wn ⟨h8, h18, h27⟩ hw6 rfl f1 ⟨_, _, hV1⟩ (hr0.tr hr1)
                      unfold agV at h9
                      rw [if_neg w0, hfs] at h9
                      first
                        | (rw [if_pos (by ((try simp (disch := omega) only [i_lt, i_le, i_eq, nt, i_m1, Int32.toInt_zero] at *); omega))] at h9; exact h9)
                        | (rw [if_neg (by ((try simp (disch := omega) only [i_lt, i_le, i_eq, nt, i_m1, Int32.toInt_zero] at *); omega))] at h9; exact h9)
                · refine xr_iinc (n := 87) dX7_agree_84 rfl rfl (rfl) rfl ?_
                  simp only [xst, Nat.beq, List.filter, Bool.not_true, Bool.not_false]
                  rw [show Int32.ofInt 1 = nI 1 from rfl, nI_add]
                  refine xr_goto (n := 107) dX7_agree_87 (by decide) ?_
                  refine xr_iinc (n := 110) dX7_agree_107 rfl rfl (rfl) rfl ?_
                  simp only [xst, Nat.beq, List.filter, Bool.not_true, Bool.not_false]
                  rw [show Int32.ofInt 1 = nI 1 from rfl, av_s h8.1 h8.2 (by omega)]
                  refine xr_goto (n := 49) dX7_agree_110 (by decide) ?_
                  have i2 := ih2 f1 S1 hV1 (hr0.tr hr1)
                  rw [agC_s, h81] at i2
                  exact i2 hno
            refine xr_iload (n := 42) dX7_agree_40 rfl rfl ?_
            refine xr_iload_n (n := 43) dX7_agree_42 rfl rfl ?_
            refine xr_icmp_gt (tgt := 119) (n := 46) dX7_agree_43 (by decide) rfl (fun h43 => by (exact absurd hI ((nidx h8.1 h18.1 h18.2 (by omega)).mp h43))) (fun h43 => ?_)
            refine xr_iload_n (n := 47) dX7_agree_46 rfl rfl ?_
            refine xr_istore (n := 49) dX7_agree_47 rfl rfl ?_
            simp only [xst, Nat.beq, List.filter, Bool.not_true, Bool.not_false]
            have i0 := hin 0 (Nat.zero_le _) f0 S0 hV0 hr0 hno
            rw [av_0] at i0
            exact i0
        have k0 := key 0 (Nat.zero_le _) f S hV rgn.rfl' (Or.inr rfl)
        rw [av_0] at k0
        exact k0
      · refine xr_sipush (v := (-10001)) (n := 33) dX7_agree_30 (by decide) rfl ?_
        refine xr_ireturn dX7_agree_33 rfl rfl rfl ?_
        first | exact hq0 (fun q => h8 q.1) | exact hq0 (fun q => h18 q.2.1) | exact hq0 (fun q => h27 q.2.2)
