/-! what a cut leaves is a program again -/
def srcc (s z j : Nat) : Nat := if j < s then j else j + z
def pw (s z v : Nat) : Nat := if s < v then v - z else v
theorem srcc_out (s z j : Nat) : srcc s z j < s ∨ s + z ≤ srcc s z j := by
  unfold srcc
  split <;> omega
theorem srcc_lt {s z i j : Nat} (h : i < j) : srcc s z i < srcc s z j := by
  unfold srcc
  split <;> split <;> omega
theorem srcc_n {s z j n : Nat} (h : j < n - z) (hz : s + z ≤ n) : srcc s z j < n := by
  unfold srcc
  split <;> omega
theorem pw_mono {s z u v : Nat} (h : u ≤ v) (hv : s < v → s + z ≤ v) : pw s z u ≤ pw s z v := by
  unfold pw
  split <;> split <;> omega
section
variable {n s : Nat} {P : Nat → Nat → Nat}
theorem pcut_src (P : Nat → Nat → Nat) (s j w : Nat) : pcut P s j w = pc0 P s (psz P s) (srcc s (psz P s) j) w := by
  unfold pcut srcc
  by_cases e : j < s
  · rw [if_pos e, if_pos e]
  · rw [if_neg e, if_neg e]
theorem pcut_w {j w : Nat} (h5 : w ≠ 5) (h6 : w ≠ 6) : pcut P s j w = P (srcc s (psz P s) j) w := by
  rw [pcut_src]
  unfold pc0
  rw [if_neg (fun q => h6 q.1), if_neg (fun q => h5 q.1)]
theorem pcut_6 {j : Nat} (h3 : 3 ≤ P (srcc s (psz P s) j) 0) : pcut P s j 6 = pw s (psz P s) (P (srcc s (psz P s) j) 6) := by
  rw [pcut_src]
  unfold pc0 pw
  have ho := srcc_out s (psz P s) j
  by_cases e : s < P (srcc s (psz P s) j) 6
  · rw [if_pos ⟨rfl, ⟨h3, ho⟩, e⟩, if_pos e]
  · rw [if_neg (fun q => e q.2.2), if_neg (fun q => by omega), if_neg e]
theorem pcut_5 {j : Nat} (h3 : P (srcc s (psz P s) j) 0 = 4) : pcut P s j 5 = pw s (psz P s) (P (srcc s (psz P s) j) 5) := by
  rw [pcut_src]
  unfold pc0 pw
  have ho := srcc_out s (psz P s) j
  rw [if_neg (fun q => by omega)]
  by_cases e : s < P (srcc s (psz P s) j) 5
  · rw [if_pos ⟨rfl, ⟨by omega, ho⟩, h3, e⟩, if_pos e]
  · rw [if_neg (fun q => e q.2.2.2), if_neg e]
/-- j < v in the cut program just when the place that it comes from is below the value it comes from -/
theorem pw_lt {i j v : Nat} (hz : 0 < psz P s) (hi : srcc s (psz P s) i < v) (hv : s < v → s + psz P s ≤ v) : j < pw s (psz P s) v ↔ srcc s (psz P s) j < v := by
  unfold pw srcc at *
  by_cases e : s < v
  · have := hv e
    rw [if_pos e]
    split <;> omega
  · rw [if_neg e]
    split <;> omega
theorem pend_pcut {j : Nat} : pend (pcut P s) j = pw s (psz P s) (pend P (srcc s (psz P s) j)) := by
  unfold pend
  rw [pcut_w (w := 0) (by omega) (by omega)]
  by_cases h3 : 3 ≤ P (srcc s (psz P s) j) 0
  · rw [if_pos h3, if_pos h3, pcut_6 h3]
  · rw [if_neg h3, if_neg h3]
    unfold pw srcc
    split <;> split <;> omega
theorem mid_pcut {j : Nat} : mid (pcut P s) j = pw s (psz P s) (mid P (srcc s (psz P s) j)) := by
  unfold mid
  rw [pcut_w (w := 0) (by omega) (by omega)]
  by_cases h3 : P (srcc s (psz P s) j) 0 = 3
  · rw [if_pos h3, if_pos h3, pcut_6 (by omega)]
  · rw [if_neg h3, if_neg h3]
    by_cases h4 : P (srcc s (psz P s) j) 0 = 4
    · rw [if_pos h4, if_pos h4, pcut_5 h4]
    · rw [if_neg h4, if_neg h4]
      unfold pw srcc
      split <;> split <;> omega
theorem cov_pcut {i j : Nat} (hO : okP n P) (hL : lam n P) (hs : s < n) (hi : i < n - psz P s) : (3 ≤ pcut P s i 0 ∧ j < pcut P s i 6) ↔ (3 ≤ P (srcc s (psz P s) i) 0 ∧ srcc s (psz P s) j < P (srcc s (psz P s) i) 6) := by
  rw [pcut_w (w := 0) (by omega) (by omega)]
  obtain ⟨hz, hzn, -⟩ := psz_bd hO hs
  have hin := srcc_n (s := s) hi hzn
  refine ⟨fun h => ⟨h.1, ?_⟩, fun h => ⟨h.1, ?_⟩⟩
  · have h6 := (hO.2 _ hin).2.2.2.2.2.1 h.1
    rw [pcut_6 h.1] at h
    exact (pw_lt (i := i) hz h6.1 (fun q => cut_b6 hO hL hs hin h.1 (srcc_out _ _ _) q)).mp h.2
  · have h6 := (hO.2 _ hin).2.2.2.2.2.1 h.1
    rw [pcut_6 h.1]
    exact (pw_lt (i := i) hz h6.1 (fun q => cut_b6 hO hL hs hin h.1 (srcc_out _ _ _) q)).mpr h.2
/-- where the statement around one lies, it is not among those that go -/
theorem out_k {j k : Nat} (hO : okP n P) (hL : lam n P) (hs : s < n) (hj : srcc s (psz P s) j < n) (hk : k < srcc s (psz P s) j) (h3 : 3 ≤ P k 0) (h6 : srcc s (psz P s) j < P k 6) : ∃ k', k = srcc s (psz P s) k' ∧ k' < j ∧ k ≠ s := by
  obtain ⟨hz, hzn, hpe⟩ := psz_bd hO hs
  have hks : k < s ∨ s + psz P s ≤ k := by
    by_cases e : s ≤ k ∧ k < s + psz P s
    · exfalso
      have hjo := srcc_out s (psz P s) j
      by_cases e2 : k = s
      · subst e2
        unfold pend at hpe
        rw [if_pos h3] at hpe
        omega
      · have hs3 : 3 ≤ P s 0 := by
          by_cases q : 3 ≤ P s 0
          · exact q
          · unfold psz at e
            rw [if_neg q] at e
            omega
        have hpe2 := hpe
        unfold pend at hpe2
        rw [if_pos hs3] at hpe2
        have := (hL s k (by omega) (by omega) hs3).1 (by omega)
        unfold pend at this
        rw [if_pos h3] at this
        omega
    · omega
  rcases hks with e | e
  · refine ⟨k, ?_, ?_, by omega⟩
    · unfold srcc; rw [if_pos e]
    · unfold srcc at hk; split at hk <;> omega
  · refine ⟨k - psz P s, ?_, ?_, by omega⟩
    · unfold srcc; rw [if_neg (by omega)]; omega
    · unfold srcc at hk; split at hk <;> omega
theorem outr_pcut {j : Nat} (hO : okP n P) (hL : lam n P) (hs : s < n) (hj : j < n - psz P s) : (outr P (srcc s (psz P s) j) (srcc s (psz P s) j) = 0 → outr (pcut P s) j j = 0) ∧ ∀ k, outr P (srcc s (psz P s) j) (srcc s (psz P s) j) = k + 1 → ∃ k', k = srcc s (psz P s) k' ∧ k' < j ∧ k ≠ s ∧ outr (pcut P s) j j = k' + 1 := by
  obtain ⟨hz, hzn, hpe⟩ := psz_bd hO hs
  have hjn := srcc_n (s := s) hj hzn
  refine ⟨fun h => outr_is0 (fun i hi q => ?_), fun k h => ?_⟩
  · exact outr_0 h _ (srcc_lt hi) ((cov_pcut hO hL hs (by omega)).mp q)
  · obtain ⟨h1, h2, h3, h4⟩ := outr_k h
    obtain ⟨k', rfl, hk', hks⟩ := out_k hO hL hs hjn h1 h2 h3
    have hc := (cov_pcut (i := k') (j := j) hO hL hs (by omega)).mpr ⟨h2, h3⟩
    refine ⟨k', rfl, hk', hks, outr_is hk' hc.1 hc.2 (fun i g1 g2 q => ?_)⟩
    exact h4 _ (srcc_lt g1) (srcc_lt g2) ((cov_pcut hO hL hs (by omega)).mp q)
theorem dep_pcut (hO : okP n P) (hL : lam n P) (hs : s < n) : ∀ j, j < n - psz P s → dep (pcut P s) j j = dep P (srcc s (psz P s) j) (srcc s (psz P s) j) := by
  intro j
  induction j using Nat.strongRecOn with
  | _ j ih =>
    intro hj
    have ho := outr_pcut hO hL hs hj
    cases h : outr P (srcc s (psz P s) j) (srcc s (psz P s) j) with
    | zero => rw [dep_0 h, dep_0 (ho.1 h)]
    | succ k =>
      obtain ⟨k', rfl, hk', -, he⟩ := ho.2 k h
      rw [dep_k h, dep_k he, ih k' hk' (by omega)]
theorem ok_pcut (hO : okP n P) (hL : lam n P) (hs : s < n) : okP (n - psz P s) (pcut P s) := by
  obtain ⟨hz, hzn, hpe⟩ := psz_bd hO hs
  have hn := hO.1
  refine ⟨by omega, fun j hj => ?_⟩
  have hjn := srcc_n (s := s) hj hzn
  obtain ⟨k0, k1, k2, k3, k4, k6, k5⟩ := hO.2 _ hjn
  rw [pcut_w (w := 0) (by omega) (by omega), pcut_w (w := 1) (by omega) (by omega), pcut_w (w := 2) (by omega) (by omega), pcut_w (w := 3) (by omega) (by omega), pcut_w (w := 4) (by omega) (by omega)]
  refine ⟨k0, k1, k2, k3, k4, fun h3 => ?_, fun h4 => ?_⟩
  · have h6 := k6 h3
    have hc := (cov_pcut (i := j) (j := j) hO hL hs hj).mpr ⟨h3, h6.1⟩
    refine ⟨hc.2, ?_⟩
    rw [pcut_6 h3]
    have hb : s < P (srcc s (psz P s) j) 6 → s + psz P s ≤ P (srcc s (psz P s) j) 6 := fun q => cut_b6 hO hL hs hjn h3 (srcc_out _ _ _) q
    unfold pw
    split <;> omega
  · have h6 := k6 (by omega)
    have h5 := k5 h4
    have hb : s < P (srcc s (psz P s) j) 5 → s + psz P s ≤ P (srcc s (psz P s) j) 5 := fun q => cut_b5 hO hL hs hjn h4 (srcc_out _ _ _) q
    have hb6 : s < P (srcc s (psz P s) j) 6 → s + psz P s ≤ P (srcc s (psz P s) j) 6 := fun q => cut_b6 hO hL hs hjn (by omega) (srcc_out _ _ _) q
    rw [pcut_5 h4, pcut_6 (by omega)]
    exact ⟨(pw_lt (i := j) hz h5.1 hb).mpr h5.1, pw_mono h5.2 hb6⟩
theorem lam_pcut (hO : okP n P) (hL : lam n P) (hs : s < n) : lam (n - psz P s) (pcut P s) := by
  obtain ⟨hz, hzn, hpe⟩ := psz_bd hO hs
  intro j k hjk hk h3
  have hjn := srcc_n (s := s) (show j < n - psz P s by omega) hzn
  have hkn := srcc_n (s := s) hk hzn
  have h3' : 3 ≤ P (srcc s (psz P s) j) 0 := by rw [pcut_w (w := 0) (by omega) (by omega)] at h3; exact h3
  have hl := hL _ _ (srcc_lt (s := s) (z := psz P s) hjk) hkn h3'
  rw [pend_pcut]
  refine ⟨fun h6 => ?_, fun h4 h5 => ?_⟩
  · have hc := (cov_pcut (i := j) (j := k) hO hL hs (by omega)).mp ⟨h3, h6⟩
    rw [pcut_6 h3']
    exact pw_mono (hl.1 hc.2) (fun q => cut_b6 hO hL hs hjn h3' (srcc_out _ _ _) q)
  · have h4' : P (srcc s (psz P s) j) 0 = 4 := by rw [pcut_w (w := 0) (by omega) (by omega)] at h4; exact h4
    have hb : s < P (srcc s (psz P s) j) 5 → s + psz P s ≤ P (srcc s (psz P s) j) 5 := fun q => cut_b5 hO hL hs hjn h4' (srcc_out _ _ _) q
    have hj5 := (hO.2 _ hjn).2.2.2.2.2.2 h4'
    rw [pcut_5 h4'] at h5 ⊢
    exact pw_mono (hl.2 h4' ((pw_lt (i := j) hz hj5.1 hb).mp h5)) hb
theorem wf_pcut (hW : wfP n P) (hs : s < n) : wfP (n - psz P s) (pcut P s) := by
  obtain ⟨hO, hL, hD⟩ := hW
  obtain ⟨hz, hzn, hpe⟩ := psz_bd hO hs
  refine ⟨ok_pcut hO hL hs, lam_pcut hO hL hs, fun j hj h3 => ?_⟩
  rw [dep_pcut hO hL hs j hj]
  refine hD _ (srcc_n (s := s) hj hzn) ?_
  rw [pcut_w (w := 0) (by omega) (by omega)] at h3
  exact h3
end
