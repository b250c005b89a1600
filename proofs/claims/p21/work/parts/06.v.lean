/-! READING: a program while it is read, as numbers: the ends of what is open count as 1000 -/
def opv (P : Nat → Nat → Nat) (op : Nat → Nat) : Nat → Nat → Nat → Nat
  | 0 => P
  | d + 1 => fun j u => if u = 6 ∧ j = op d then 1000 else opv P op d j u
theorem opv_n {P : Nat → Nat → Nat} {op : Nat → Nat} {j u : Nat} (h : u ≠ 6) : ∀ d, opv P op d j u = P j u
  | 0 => rfl
  | d + 1 => (if_neg (fun z => h z.1)).trans (opv_n h d)
theorem opv_o {P : Nat → Nat → Nat} {op : Nat → Nat} {i : Nat} : ∀ {d : Nat}, i < d → opv P op d (op i) 6 = 1000
  | 0, h => by omega
  | d + 1, h => by
    show (if (6 : Nat) = 6 ∧ op i = op d then 1000 else opv P op d (op i) 6) = 1000
    by_cases e : op i = op d
    · rw [if_pos ⟨rfl, e⟩]
    · rw [if_neg (fun z => e z.2)]
      have : i ≠ d := fun z => e (by rw [z])
      exact opv_o (by omega)
theorem opv_c {P : Nat → Nat → Nat} {op : Nat → Nat} {j : Nat} : ∀ {d : Nat}, (∀ i, i < d → op i ≠ j) → opv P op d j 6 = P j 6
  | 0, _ => rfl
  | d + 1, h => (if_neg (fun z => h d (by omega) z.2.symm)).trans (opv_c (fun i hi => h i (by omega)))
theorem opv_e {P P' : Nat → Nat → Nat} {op op' : Nat → Nat} {j : Nat} : ∀ {d : Nat}, (∀ i, i < d → op' i = op i) → P' j 6 = P j 6 → opv P' op' d j 6 = opv P op d j 6
  | 0, _, h => h
  | d + 1, ho, h => by
    show (if (6 : Nat) = 6 ∧ j = op' d then 1000 else opv P' op' d j 6) = (if (6 : Nat) = 6 ∧ j = op d then 1000 else opv P op d j 6)
    rw [ho d (by omega), opv_e (fun i hi => ho i (by omega)) h]
theorem outr_e {P P' : Nat → Nat → Nat} {s : Nat} : ∀ {j : Nat}, (∀ i, i < j → P' i 0 = P i 0 ∧ (s < P' i 6 ↔ s < P i 6)) → outr P' s j = outr P s j
  | 0, _ => rfl
  | j + 1, h => by
    rw [outr_s, outr_s, outr_e (fun i hi => h i (by omega)), (h j (by omega)).1]
    by_cases e : s < P j 6
    · have e' := (h j (by omega)).2.mpr e
      by_cases z : 3 ≤ P j 0
      · rw [if_pos ⟨z, e'⟩, if_pos ⟨z, e⟩]
      · rw [if_neg (fun y => z y.1), if_neg (fun y => z y.1)]
    · rw [if_neg (fun y => e ((h j (by omega)).2.mp y.2)), if_neg (fun y => e y.2)]
theorem dep_e {P P' : Nat → Nat → Nat} : ∀ (s : Nat), (∀ t, t ≤ s → outr P' t t = outr P t t) → dep P' s s = dep P s s := by
  intro s
  induction s using Nat.strongRecOn with
  | _ s ih =>
    intro h
    cases e : outr P s s with
    | zero => rw [dep_0 e, dep_0 ((h s (Nat.le_refl _)).trans e)]
    | succ k =>
      have hk := (outr_k e).1
      rw [dep_k e, dep_k ((h s (Nat.le_refl _)).trans e), ih k hk (fun t ht => h t (by omega))]
def tpo (op : Nat → Nat) : Nat → Nat
  | 0 => 0
  | d + 1 => op d + 1
def opO (op : Nat → Nat) (dp s : Nat) : Prop := ∃ i, i < dp ∧ op i = s
def rdO (k : Nat) (P : Nat → Nat → Nat) (op ph : Nat → Nat) (i : Nat) : Prop := op i < k ∧ (∀ i', i' < i → op i' < op i) ∧ ((P (op i) 0 = 3 ∧ ph i = 93) ∨ (P (op i) 0 = 4 ∧ ph i = 58 ∧ P (op i) 5 = 0) ∨ (P (op i) 0 = 4 ∧ ph i = 46 ∧ op i < P (op i) 5))
def rdS (k : Nat) (P : Nat → Nat → Nat) (op : Nat → Nat) (dp s : Nat) : Prop := (P s 0 ≤ 4 ∧ P s 1 < 6 ∧ (P s 2 = 0 ∨ P s 2 = 42 ∨ P s 2 = 43 ∨ P s 2 = 45) ∧ okT (P s 3) ∧ okT (P s 4)) ∧ P s 5 ≤ k ∧ P s 6 ≤ k ∧ (3 ≤ P s 0 → opO op dp s ∨ (s < P s 6 ∧ (P s 0 = 4 → s < P s 5 ∧ P s 5 ≤ P s 6)))
def RDP (k : Nat) (P : Nat → Nat → Nat) (dp : Nat) (op ph : Nat → Nat) : Prop := k ≤ 60 ∧ dp ≤ 5 ∧ (∀ i, i < dp → rdO k P op ph i) ∧ (∀ s, s < k → rdS k P op dp s) ∧ lam k (opv P op dp) ∧ ∀ s, s < k → 3 ≤ P s 0 → dep (opv P op dp) s s ≤ 4
def zok (kd : Nat) (z : Nat → Nat) : Prop := z 0 = kd ∧ z 1 < 6 ∧ (z 2 = 0 ∨ z 2 = 42 ∨ z 2 = 43 ∨ z 2 = 45) ∧ okT (z 3) ∧ okT (z 4) ∧ z 5 = 0 ∧ z 6 = 0
section
variable {k dp : Nat} {P : Nat → Nat → Nat} {op ph : Nat → Nat}
theorem opv_O {s : Nat} (h : opO op dp s) : opv P op dp s 6 = 1000 := by
  obtain ⟨i, hi, rfl⟩ := h
  exact opv_o hi
theorem opv_C {s : Nat} (h : ¬ opO op dp s) : opv P op dp s 6 = P s 6 := opv_c (fun i hi e => h ⟨i, hi, e⟩)
theorem rp_0 : RDP 0 (fun _ _ => 0) 0 op ph := ⟨by omega, by omega, fun i hi => by omega, fun s hs => by omega, fun j k hj hk => by omega, fun s hs => by omega⟩
theorem rp_mono (h : RDP k P dp op ph) {i j : Nat} (hij : i < j) (hj : j < dp) : op i < op j := (h.2.2.1 j hj).2.1 i hij
theorem rp_kd (h : RDP k P dp op ph) {i : Nat} (hi : i < dp) : 3 ≤ P (op i) 0 := by
  rcases (h.2.2.1 i hi).2.2 with ⟨z, -⟩ | ⟨z, -⟩ | ⟨z, -⟩ <;> omega
/-- one that stands behind the innermost open one is closed -/
theorem rp_cl (h : RDP k P (dp + 1) op ph) {s : Nat} (hs : op dp < s) : ¬ opO op (dp + 1) s := by
  rintro ⟨i, hi, rfl⟩
  by_cases e : i = dp
  · subst e; omega
  · have := rp_mono h (show i < dp by omega) (by omega); omega
theorem rp_pend (h : RDP k P dp op ph) {s : Nat} (hs : s < k) (hc : ¬ opO op dp s) : pend (opv P op dp) s ≤ k := by
  unfold pend
  rw [opv_n (by omega), opv_C hc]
  split
  · exact (h.2.2.2.1 s hs).2.2.1
  · omega
theorem rp_top (h : RDP k P dp op ph) : outr (opv P op dp) k k = tpo op dp := by
  cases dp with
  | zero =>
    refine outr_is0 (fun i hi z => ?_)
    have := (h.2.2.2.1 i hi).2.2.1
    have h2 : k < P i 6 := z.2
    omega
  | succ d =>
    refine outr_is (h.2.2.1 d (by omega)).1 ?_ ?_ ?_
    · rw [opv_n (by omega)]; exact rp_kd h (by omega)
    · rw [opv_o (by omega)]; have := h.1; omega
    · intro i h1 h2 z
      rw [opv_C (rp_cl h h1)] at z
      have := (h.2.2.2.1 i h2).2.2.1
      omega
theorem rp_st (h : RDP k P dp op ph) {i : Nat} (hi : i < dp) : outr (opv P op dp) (op i) (op i) = tpo op i := by
  have hk := h.1
  have no : ∀ j, j < op i → ¬ opO op dp j → ¬ (3 ≤ opv P op dp j 0 ∧ op i < opv P op dp j 6) := by
    intro j hj hc z
    have hik := (h.2.2.1 i hi).1
    have hl := (h.2.2.2.2.1 j (op i) hj hik z.1).1 z.2
    unfold pend at hl
    rw [opv_n (by omega), if_pos (rp_kd h hi), opv_o hi, opv_C hc] at hl
    have := (h.2.2.2.1 j (by omega)).2.2.1
    omega
  cases i with
  | zero =>
    refine outr_is0 (fun j hj => no j hj ?_)
    rintro ⟨i', hi', rfl⟩
    by_cases e : i' = 0
    · subst e; omega
    · have := rp_mono h (show 0 < i' by omega) hi'; omega
  | succ i =>
    refine outr_is (rp_mono h (by omega) hi) ?_ ?_ ?_
    · rw [opv_n (by omega)]; exact rp_kd h (by omega)
    · rw [opv_o (by omega)]; have := (h.2.2.1 _ hi).1; omega
    · intro j h1 h2
      refine no j h2 ?_
      rintro ⟨i', hi', rfl⟩
      rcases Nat.lt_trichotomy i' i with e | e | e
      · have := rp_mono h e (by omega); omega
      · subst e; omega
      · by_cases e2 : i' = i + 1
        · subst e2; omega
        · have := rp_mono h (show i + 1 < i' by omega) hi'; omega
theorem rp_dep (h : RDP k P dp op ph) : ∀ {i : Nat}, i < dp → dep (opv P op dp) (op i) (op i) = i
  | 0, hi => dep_0 (rp_st h hi)
  | i + 1, hi => by rw [dep_k (rp_st h hi), rp_dep h (by omega)]
theorem rp_depk (h : RDP k P dp op ph) : dep (opv P op dp) k k = dp := by
  have e := rp_top h
  cases dp with
  | zero => exact dep_0 e
  | succ d => rw [dep_k e, rp_dep h (by omega)]
theorem padd_o {z : Nat → Nat} {j u : Nat} (h : j ≠ k) : padd P k z j u = P j u := if_neg h
theorem padd_k {z : Nat → Nat} {u : Nat} : padd P k z k u = z u := if_pos rfl
theorem opn_o {kd i : Nat} (h : i ≠ dp) (x : Nat → Nat) : opn x kd dp k i = x i := if_neg (fun z => h z.2)
theorem opn_k {kd : Nat} (h : 3 ≤ kd) (x : Nat → Nat) : opn x kd dp k dp = k := if_pos ⟨h, rfl⟩
/-- a statement more -/
theorem rp_add {z : Nat → Nat} {kd : Nat} (h : RDP k P dp op ph) (hz : zok kd z) (hkd : kd ≤ 4) (hk : k < 60) (hd : 3 ≤ kd → dp ≤ 4) : RDP (k + 1) (padd P k z) (if 3 ≤ kd then dp + 1 else dp) (opn op kd dp k) (opn ph kd dp (if kd = 3 then 93 else 58)) ∧ (∀ s, s < k → opv (padd P k z) (opn op kd dp k) (if 3 ≤ kd then dp + 1 else dp) s 6 = opv P op dp s 6) ∧ (∀ t, t ≤ k → outr (opv (padd P k z) (opn op kd dp k) (if 3 ≤ kd then dp + 1 else dp)) t t = outr (opv P op dp) t t) ∧ opv (padd P k z) (opn op kd dp k) (if 3 ≤ kd then dp + 1 else dp) k 6 = (if 3 ≤ kd then 1000 else 0) := by
  obtain ⟨h1, h2, h3, h4, h5, h6⟩ := h
  have h : RDP k P dp op ph := ⟨h1, h2, h3, h4, h5, h6⟩
  obtain ⟨z0, z1, z2, z3, z4, z5, z6⟩ := hz
  generalize hdp : (if 3 ≤ kd then dp + 1 else dp) = dp'
  have hdp1 : dp ≤ dp' := by rw [← hdp]; split <;> omega
  have hdp2 : dp' ≤ 5 := by rw [← hdp]; split <;> omega
  have hop : ∀ i, i < dp → opn op kd dp k i = op i := fun i hi => opn_o (by omega) op
  have hph : ∀ v i, i < dp → opn ph kd dp v i = ph i := fun v i hi => if_neg (fun z => absurd z.2 (by omega))
  have hv : ∀ s, s < k → opv (padd P k z) (opn op kd dp k) dp' s 6 = opv P op dp s 6 := by
    intro s hs
    rw [← hdp]
    split
    · show (if (6 : Nat) = 6 ∧ s = opn op kd dp k dp then 1000 else opv (padd P k z) (opn op kd dp k) dp s 6) = _
      rw [opn_k (by omega), if_neg (by omega)]
      exact opv_e hop (padd_o (by omega))
    · exact opv_e hop (padd_o (by omega))
  have hvw : ∀ s u, s < k → opv (padd P k z) (opn op kd dp k) dp' s u = opv P op dp s u := by
    intro s u hs
    by_cases e : u = 6
    · subst e; exact hv s hs
    · rw [opv_n e, opv_n e, padd_o (by omega)]
  have hou : ∀ t, t ≤ k → outr (opv (padd P k z) (opn op kd dp k) dp') t t = outr (opv P op dp) t t := fun t ht => outr_e (fun i hi => by rw [hvw _ _ (by omega), hvw _ _ (by omega)]; exact ⟨rfl, Iff.rfl⟩)
  refine ⟨⟨by omega, hdp2, ?_, ?_, ?_, ?_⟩, hv, hou, ?_⟩
  · intro i hi
    by_cases e : i < dp
    · obtain ⟨g1, g2, g3⟩ := h3 i e
      refine ⟨by rw [hop i e]; omega, fun i' hi' => by rw [hop i e, hop i' (by omega)]; exact g2 i' hi', ?_⟩
      rw [hop i e, hph _ i e, padd_o (by omega), padd_o (by omega)]
      exact g3
    · have h3' : 3 ≤ kd := by
        by_cases e3 : 3 ≤ kd
        · exact e3
        · rw [if_neg e3] at hdp; omega
      rw [if_pos h3'] at hdp
      have : i = dp := by omega
      subst this
      refine ⟨by rw [opn_k h3']; omega, fun i' hi' => by rw [opn_k h3', hop i' hi']; exact (h3 i' hi').1, ?_⟩
      rw [opn_k h3', padd_k, padd_k, z0, z5, opn, if_pos ⟨h3', rfl⟩]
      by_cases e3 : kd = 3
      · exact Or.inl ⟨e3, if_pos e3⟩
      · exact Or.inr (Or.inl ⟨by omega, if_neg e3, rfl⟩)
  · intro s hs
    by_cases e : s < k
    · obtain ⟨g1, g2, g3, g4⟩ := h4 s e
      have hp : ∀ u, padd P k z s u = P s u := fun u => padd_o (by omega)
      unfold rdS
      simp only [hp]
      refine ⟨g1, by omega, by omega, fun z3' => ?_⟩
      rcases g4 z3' with ⟨i, hi, g⟩ | g
      · exact Or.inl ⟨i, by omega, (hop i hi).trans g⟩
      · exact Or.inr g
    · have : s = k := by omega
      subst this
      unfold rdS
      simp only [padd_k]
      refine ⟨⟨by omega, z1, z2, z3, z4⟩, by omega, by omega, fun z3' => Or.inl ⟨dp, ?_, opn_k (by omega) op⟩⟩
      rw [← hdp, if_pos (by omega)]
      omega
  · intro j k' hj hk' hj3
    have hjk : j < k := by omega
    rw [hvw _ _ hjk] at hj3
    rw [hvw _ _ hjk, hvw _ _ hjk, hvw _ _ hjk]
    by_cases e : k' < k
    · have hp : pend (opv (padd P k z) (opn op kd dp k) dp') k' = pend (opv P op dp) k' := by
        unfold pend
        rw [hvw _ _ e, hvw _ _ e]
      rw [hp]
      exact h5 j k' hj e hj3
    · have : k' = k := by omega
      subst this
      refine ⟨fun q => ?_, fun _ q => ?_⟩
      · have hO : opO op dp j := Classical.byContradiction (fun hc => by
          rw [opv_C hc] at q
          have := (h4 j hjk).2.2.1
          omega)
        rw [opv_O hO]
        unfold pend
        rw [opv_n (by omega), padd_k, z0]
        split
        · rename_i h3'
          rw [if_pos h3'] at hdp
          subst hdp
          have := opv_o (P := padd P k' z) (op := opn op kd dp k') (show dp < dp + 1 by omega)
          rw [opn_k h3'] at this
          omega
        · omega
      · rw [opv_n (by omega)] at q
        have := (h4 j hjk).2.1
        omega
  · intro s hs s3
    have hde : dep (opv (padd P k z) (opn op kd dp k) dp') s s = dep (opv P op dp) s s := dep_e s (fun t ht => hou t (by omega))
    rw [hde]
    by_cases e : s < k
    · rw [padd_o (by omega)] at s3
      exact h6 s e s3
    · have : s = k := by omega
      subst this
      rw [padd_k, z0] at s3
      rw [rp_depk h]
      exact hd s3
  · rw [← hdp]
    split
    · rename_i h3'
      have := opv_o (P := padd P k z) (op := opn op kd dp k) (show dp < dp + 1 by omega)
      rw [opn_k h3'] at this
      exact this
    · rename_i h3'
      rw [opv_c (fun i hi => by rw [hop i hi]; have := (h3 i hi).1; omega), padd_k, z6]
/-- the end of a first part -/
theorem rp_col (h : RDP k P (dp + 1) op ph) (hc : ph dp = 58) : RDP k (pcl P (op dp) 5 k) (dp + 1) op (fun i => if i = dp then 46 else ph i) ∧ (∀ s u, u ≠ 5 → opv (pcl P (op dp) 5 k) op (dp + 1) s u = opv P op (dp + 1) s u) := by
  obtain ⟨h1, h2, h3, h4, h5, h6⟩ := h
  have h : RDP k P (dp + 1) op ph := ⟨h1, h2, h3, h4, h5, h6⟩
  obtain ⟨t1, t2, t3⟩ := h3 dp (by omega)
  have p6 : ∀ s u, u ≠ 5 → pcl P (op dp) 5 k s u = P s u := fun s u hu => if_neg (fun z => hu z.2)
  have p5 : pcl P (op dp) 5 k (op dp) 5 = k := if_pos ⟨rfl, rfl⟩
  have p50 : ∀ s, s ≠ op dp → pcl P (op dp) 5 k s 5 = P s 5 := fun s hs => if_neg (fun z => hs z.1)
  have hv : ∀ s u, u ≠ 5 → opv (pcl P (op dp) 5 k) op (dp + 1) s u = opv P op (dp + 1) s u := by
    intro s u hu
    by_cases e : u = 6
    · subst e; exact opv_e (fun _ _ => rfl) (p6 _ _ (by omega))
    · rw [opv_n e, opv_n e, p6 _ _ hu]
  have hou : ∀ t, outr (opv (pcl P (op dp) 5 k) op (dp + 1)) t t = outr (opv P op (dp + 1)) t t := fun t => outr_e (fun i hi => by rw [hv _ _ (by omega), hv _ _ (by omega)]; exact ⟨rfl, Iff.rfl⟩)
  have k4 : P (op dp) 0 = 4 := by rcases t3 with ⟨_, e⟩ | ⟨e, _⟩ | ⟨e, _⟩ <;> omega
  refine ⟨⟨h1, h2, ?_, ?_, ?_, ?_⟩, hv⟩
  · intro i hi
    obtain ⟨g1, g2, g3⟩ := h3 i hi
    refine ⟨g1, g2, ?_⟩
    rw [p6 _ _ (by omega)]
    by_cases e : i = dp
    · subst e
      dsimp only
      rw [p5, if_pos rfl]
      exact Or.inr (Or.inr ⟨k4, rfl, t1⟩)
    · dsimp only
      rw [if_neg e, p50 _ (fun z => by have := t2 i (by omega); omega)]
      exact g3
  · intro s hs
    obtain ⟨g1, g2, g3, g4⟩ := h4 s hs
    unfold rdS
    rw [p6 s 0 (by omega), p6 s 1 (by omega), p6 s 2 (by omega), p6 s 3 (by omega), p6 s 4 (by omega), p6 s 6 (by omega)]
    by_cases e : s = op dp
    · subst e
      rw [p5]
      exact ⟨g1, Nat.le_refl _, g3, fun _ => Or.inl ⟨dp, by omega, rfl⟩⟩
    · rw [p50 s e]
      exact ⟨g1, g2, g3, g4⟩
  · intro j k' hj hk' hj3
    rw [hv _ _ (by omega)] at hj3
    rw [hv j 0 (by omega), hv j 6 (by omega)]
    have hp : pend (opv (pcl P (op dp) 5 k) op (dp + 1)) k' = pend (opv P op (dp + 1)) k' := by
      unfold pend
      rw [hv _ _ (by omega), hv _ _ (by omega)]
    rw [hp]
    refine ⟨(h5 j k' hj hk' hj3).1, fun a b => ?_⟩
    rw [opv_n (by omega)] at b ⊢
    by_cases e : j = op dp
    · subst e
      rw [p5]
      exact rp_pend h hk' (rp_cl h hj)
    · rw [p50 j e] at b ⊢
      have := (h5 j k' hj hk' hj3).2 a
      rw [opv_n (by omega)] at this
      exact this b
  · intro s hs s3
    rw [p6 _ _ (by omega)] at s3
    rw [dep_e s (fun t _ => hou t)]
    exact h6 s hs s3
/-- the end of the innermost open one -/
theorem rp_close (h : RDP k P (dp + 1) op ph) (hc : ph dp ≠ 58) : RDP k (pcl P (op dp) 6 k) dp op (fun i => if i = dp then 46 else ph i) ∧ (∀ s u, s ≠ op dp ∨ u ≠ 6 → opv (pcl P (op dp) 6 k) op dp s u = opv P op (dp + 1) s u) ∧ opv (pcl P (op dp) 6 k) op dp (op dp) 6 = k ∧ ∀ t, t < k → outr (opv (pcl P (op dp) 6 k) op dp) t t = outr (opv P op (dp + 1)) t t := by
  obtain ⟨h1, h2, h3, h4, h5, h6⟩ := h
  have h : RDP k P (dp + 1) op ph := ⟨h1, h2, h3, h4, h5, h6⟩
  obtain ⟨t1, t2, t3⟩ := h3 dp (by omega)
  have p5 : ∀ s u, s ≠ op dp ∨ u ≠ 6 → pcl P (op dp) 6 k s u = P s u := fun s u hu => if_neg (fun z => by omega)
  have p6 : pcl P (op dp) 6 k (op dp) 6 = k := if_pos ⟨rfl, rfl⟩
  have hno : ∀ i, i < dp → op i ≠ op dp := fun i hi e => by have := t2 i hi; omega
  have hv : ∀ s u, s ≠ op dp ∨ u ≠ 6 → opv (pcl P (op dp) 6 k) op dp s u = opv P op (dp + 1) s u := by
    intro s u hu
    by_cases e : u = 6
    · subst e
      have hs : s ≠ op dp := by omega
      show _ = if (6 : Nat) = 6 ∧ s = op dp then 1000 else opv P op dp s 6
      rw [if_neg (fun z => hs z.2)]
      exact opv_e (fun _ _ => rfl) (p5 _ _ hu)
    · rw [opv_n e, opv_n e, p5 _ _ hu]
  have hv6 : opv (pcl P (op dp) 6 k) op dp (op dp) 6 = k := by rw [opv_c hno, p6]
  have ho6 : opv P op (dp + 1) (op dp) 6 = 1000 := opv_o (by omega)
  have hou : ∀ t, t < k → outr (opv (pcl P (op dp) 6 k) op dp) t t = outr (opv P op (dp + 1)) t t := fun t ht => outr_e (fun i hi => by
    rw [hv i 0 (by omega)]
    refine ⟨rfl, ?_⟩
    by_cases e : i = op dp
    · subst e; rw [hv6, ho6]; omega
    · rw [hv i 6 (Or.inl e)])
  refine ⟨⟨h1, by omega, ?_, ?_, ?_, ?_⟩, hv, hv6, hou⟩
  · intro i hi
    obtain ⟨g1, g2, g3⟩ := h3 i (by omega)
    refine ⟨g1, g2, ?_⟩
    dsimp only
    rw [p5 _ _ (by omega), p5 _ _ (by omega), if_neg (by omega)]
    exact g3
  · intro s hs
    obtain ⟨g1, g2, g3, g4⟩ := h4 s hs
    unfold rdS
    rw [p5 s 0 (by omega), p5 s 1 (by omega), p5 s 2 (by omega), p5 s 3 (by omega), p5 s 4 (by omega), p5 s 5 (by omega)]
    by_cases e : s = op dp
    · subst e
      rw [p6]
      refine ⟨g1, g2, Nat.le_refl _, fun _ => Or.inr ⟨t1, fun a => ?_⟩⟩
      rcases t3 with ⟨b, _⟩ | ⟨_, b, _⟩ | ⟨_, _, b⟩
      · omega
      · exact absurd b hc
      · exact ⟨b, g2⟩
    · rw [p5 s 6 (Or.inl e)]
      refine ⟨g1, g2, g3, fun a => ?_⟩
      rcases g4 a with ⟨i, hi, rfl⟩ | g
      · exact Or.inl ⟨i, by have : i ≠ dp := fun z => e (by rw [z])
                            omega, rfl⟩
      · exact Or.inr g
  · intro j k' hj hk' hj3
    rw [hv _ _ (by omega)] at hj3
    rw [hv j 0 (by omega), hv j 5 (by omega)]
    obtain ⟨l6, l5⟩ := h5 j k' hj hk' hj3
    by_cases ek : k' = op dp
    · subst ek
      have hpe : pend (opv P op (dp + 1)) (op dp) = 1000 := by
        unfold pend
        rw [opv_n (by omega), if_pos (rp_kd h (by omega)), ho6]
      have hpn : pend (opv (pcl P (op dp) 6 k) op dp) (op dp) = k := by
        unfold pend
        rw [hv _ 0 (by omega), opv_n (by omega), if_pos (rp_kd h (by omega)), hv6]
      rw [hpe] at l6 l5
      rw [hpn, hv j 6 (by omega)]
      refine ⟨fun q => ?_, fun a b => ?_⟩
      · have := l6 q; omega
      · have := l5 a b
        rw [opv_n (by omega)] at this
        have := (h4 j (by omega)).2.1
        omega
    · have hp : pend (opv (pcl P (op dp) 6 k) op dp) k' = pend (opv P op (dp + 1)) k' := by
        unfold pend
        rw [hv _ 0 (by omega), hv _ 6 (by omega)]
      rw [hp]
      refine ⟨fun q => ?_, l5⟩
      by_cases e : j = op dp
      · subst e
        rw [hv6]
        exact rp_pend h hk' (rp_cl h hj)
      · rw [hv j 6 (by omega)] at q ⊢
        exact l6 q
  · intro s hs s3
    rw [p5 _ _ (by omega)] at s3
    rw [dep_e s (fun t ht => hou t (by omega))]
    exact h6 s hs s3
theorem rp_wf (h : RDP k P 0 op ph) : wfP k P := by
  obtain ⟨h1, h2, h3, h4, h5, h6⟩ := h
  refine ⟨⟨h1, fun s hs => ?_⟩, h5, h6⟩
  obtain ⟨⟨a0, a1, a2, a3, a4⟩, g2, g3, g4⟩ := h4 s hs
  have no : ¬ opO op 0 s := fun z => by obtain ⟨i, hi, -⟩ := z; omega
  refine ⟨a0, a1, a2, a3, a4, fun q => ?_, fun q => ?_⟩
  · rcases g4 q with g | g
    · exact absurd g no
    · exact ⟨g.1, g3⟩
  · rcases g4 (by omega) with g | g
    · exact absurd g no
    · exact g.2 q
end
theorem zok_seR {c u v o : Nat} (hc : c < 6) (ho : o = 0 ∨ o = 42 ∨ o = 43 ∨ o = 45) (hu : okT u) (hv : okT v) : zok 0 (seR c o u v) := ⟨rfl, hc, ho, hu, hv, rfl, rfl⟩
theorem seF_ok {t : Nat → Int32} {n a : Nat} (ha : a ≤ n) (h : (seF t n a).1 = true) : zok 0 (seF t n a).2.2 := by
  have hs : ∀ a, a ≤ n → skp t n a ≤ n := fun a ha => (skp_ge t n _ a rfl).2 ha
  have o0 : okT 0 := Or.inl (by omega)
  by_cases hB : (ceF t n a).1 = true
  · have hF : seF t n a = sE2 t n (ceF t n a).2.1 (ceF t n a).2.2 := if_pos hB
    obtain ⟨c1, -, c3, -⟩ := ceF_b (t := t) ha
    rw [hF] at h ⊢
    unfold sE2 at h ⊢
    split at h
    · rename_i h61
      rw [if_pos h61]
      have hp := pas_le (t := t) (c := nI 61) c1 (nz 61 (by omega) (by omega))
      unfold sE3 at h ⊢
      split at h
      · rename_i hT
        rw [if_pos hT]
        obtain ⟨t1, -, t3⟩ := teF_b (t := t) hp
        have hu := t3 hT
        unfold sE4 at h ⊢
        split at h
        · rename_i hO
          rw [if_pos hO]
          split at h
          · rename_i hT2
            rw [if_pos hT2]
            have hlt : skp t n (teF t n (pas t n (ceF t n a).2.1 (nI 61))).2.1 < n := hr_lt (opc_n hO).2
            obtain ⟨-, -, t6⟩ := teF_b (t := t) (n := n) (a := skp t n (teF t n (pas t n (ceF t n a).2.1 (nI 61))).2.1 + 1) (by omega)
            refine zok_seR c3 ?_ hu (t6 hT2)
            rcases hO with e | e | e <;> rw [e, ix_n (by omega)] <;> omega
          · cases h
        · rename_i hO
          rw [if_neg hO]
          exact zok_seR c3 (Or.inl rfl) hu o0
      · cases h
    · cases h
  · have hF : seF t n a = (false, (ceF t n a).2.1, fun _ => 0) := if_neg hB
    rw [hF] at h
    cases h
theorem stF_ok {t : Nat → Int32} {n a kd : Nat} (ha : a < n) (hkd : kd ≤ 4) (h : (stF t n a kd).1 = true) : zok kd (stF t n a kd).2.2 := by
  have o0 : okT 0 := Or.inl (by omega)
  have ztc : ∀ c, c < 6 → zok kd (tc kd c) := fun c hc => ⟨rfl, hc, Or.inl rfl, o0, o0, rfl, rfl⟩
  obtain ⟨-, -, c3, -⟩ := ceF_b (t := t) (n := n) (a := a + 1) (by omega)
  by_cases k0 : kd = 0
  · subst k0
    exact seF_ok (by omega) h
  · by_cases k2 : kd = 2
    · subst k2
      exact ⟨rfl, show (0 : Nat) < 6 by omega, Or.inl rfl, o0, o0, rfl, rfl⟩
    · by_cases hB : (ceF t n (a + 1)).1 = true
      · have hF : stF t n a kd = _ := (if_neg k0).trans ((if_neg k2).trans (if_pos hB))
        rw [hF]
        split
        · rename_i k1
          subst k1
          exact ztc _ c3
        · exact ztc _ c3
      · have hF : stF t n a kd = (false, (ceF t n (a + 1)).2.1, fun _ => 0) := (if_neg k0).trans ((if_neg k2).trans (if_neg hB))
        rw [hF] at h
        cases h
