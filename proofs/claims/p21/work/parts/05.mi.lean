/-! RUNS: loops and choices, turn by turn -/
section RL2
variable {n : Nat} {P : Nat → Nat → Nat} {μ0 μ δ : xS} {sd : Nat} {fr : Nat → Nat × Nat} {dp s at_ t mk rd mo tl : Nat}
theorem RI_popL {d : Nat} (h : RIx n P μ0 sd fr (d + 1) s 0 at_ δ t mk rd mo tl μ) (hs : s = (fr d).2) (h3 : P (fr d).1 0 = 3) : RIx n P μ0 sd fr (d + 1) (fr d).1 1 at_ δ t mk rd mo tl μ := by
  obtain ⟨hC, hM, hT, hK, hR, hA, -⟩ := h
  obtain ⟨⟨g1, g2, g3, g4, g5⟩, hat⟩ := hA rfl
  refine ⟨hC, hM, hT, hK, hR, fun e => by omega, fun _ => ⟨d, rfl, ?_, h3, g1, g2, ?_⟩⟩
  · rcases g3 with ⟨a, b, c⟩ | ⟨a, b, c⟩ | ⟨a, b, c⟩
    · rw [← b]
    · omega
    · omega
  · rw [hat]
    show (if s = (fr d).2 then (if P (fr d).1 0 = 3 then (fr d).1 else _) else s) = _
    rw [if_pos hs, if_pos h3]
theorem RI_popC {d : Nat} (hW : wfP n P) (h : RIx n P μ0 sd fr (d + 1) s 0 at_ δ t mk rd mo tl μ) (hs : s = (fr d).2) (h3 : ¬ P (fr d).1 0 = 3) : RIx n P μ0 sd fr d (P (fr d).1 6) 0 at_ δ t mk rd mo tl μ := by
  obtain ⟨hC, hM, hT, hK, hR, hA, -⟩ := h
  obtain ⟨⟨g1, g2, g3, g4, g5⟩, hat⟩ := hA rfl
  have h4 : P (fr d).1 0 = 4 := by
    rcases g3 with ⟨a, b, c⟩ | ⟨a, b, c⟩ | ⟨a, b, c⟩
    · omega
    · exact a
    · exact a
  have hpe : pend P (fr d).1 = P (fr d).1 6 := if_pos (by omega)
  refine ⟨hC, hM, hT, fun i hi => hK i (by omega), fun k hk => ?_, fun _ => ⟨?_, ?_⟩, fun e => by omega⟩
  · refine hR k (fun i hi hi3 => ?_)
    by_cases e2 : i = d
    · subst e2; exact absurd hi3 h3
    · exact hk i (by omega) hi3
  · rw [← hpe]
    exact stk_sib hW.1 hW.2.1 g1 g2
  · rw [hat]
    show (if s = (fr d).2 then (if P (fr d).1 0 = 3 then (fr d).1 else resP P fr d (P (fr d).1 6)) else s) = _
    rw [if_pos hs, if_neg h3]
theorem sim_loop {i j k dq x : Nat} {a b c : Int32} (h : simD μ sd δ t mk rd mo tl) (h7 : δ 7 0 = nI rd) (h8 : δ 8 0 = nI mo) (h4 : δ 4 s = nI x) (hx : x ≤ 400) (hmo : mo ≤ 400) : simD (mround (up2 (up2 (up2 (up2 μ 13 (6 * sd) (nI (t + 1))) 16 i a) 14 j b) 15 k c) sd dq x rd mo) sd (ainc (alook s δ)) (t + 1) mk (rd + 1) (if mo < x + 1 then x + 1 else mo) tl := by
  obtain ⟨⟨a0, a1, a2, a3, a4, a5⟩, h2, h3, h4'⟩ := h
  refine ⟨⟨?_, ?_, ?_, ?_, ?_, ?_⟩, fun i hi => ?_, fun i hi hi2 => ?_, fun i hi hi2 => ?_⟩
  · unfold mround
    simp (disch := omega) only [up2_ss, up2_n, up2_sn]
  · unfold mround
    simp (disch := omega) only [up2_ss, up2_n, up2_sn]
    exact a1
  · unfold mround
    simp (disch := omega) only [up2_ss, up2_n, up2_sn]
    exact a2
  · unfold mround
    simp (disch := omega) only [up2_ss, up2_n, up2_sn]
    exact a3
  · unfold mround
    rw [up2_sn _ _ _ (by omega), up2_ss]
  · unfold mround
    rw [up2_ss]
  · exact h2 i hi
  · exact h3 i hi hi2
  · exact h4' i hi hi2
theorem oth_loop {i j k dq x : Nat} {a b c : Int32} (h : othS μ0 μ sd) : othS μ0 (mround (up2 (up2 (up2 (up2 μ 13 (6 * sd) (nI (t + 1))) 16 i a) 14 j b) 15 k c) sd dq x rd mo) sd := by
  unfold mround
  exact oth13 (oth13 (oth16 (oth15 (oth14 (oth16 (oth_inc h))))) (by omega)) (by omega)
theorem adC_loop {x : Nat} (hC : adC δ t mk rd mo tl) (h4 : δ 4 s = nI x) (hx : x ≤ t) (ht : t < 400) : adC (ainc (alook s δ)) (t + 1) mk (rd + 1) (if mo < x + 1 then x + 1 else mo) tl := by
  obtain ⟨c5, c6, c7, c8, c9, b6, b7, b8, b9, bt, c4⟩ := hC
  refine adC_inc c5 c6 ?_ ?_ c9 ht ?_ fun k => ?_
  · show δ 7 0 + nI 1 = _
    rw [c7, nI_add]
  · show (if δ 8 0 < δ 4 s + nI 1 then δ 4 s + nI 1 else δ 8 0) = _
    rw [c8, h4, nI_add]
    by_cases e : mo < x + 1
    · rw [if_pos e, if_pos (nI_lt e (by omega))]
    · rw [if_neg e, if_neg (nI_nlt (by omega) (by omega))]
  · refine ⟨by omega, by omega, ?_, by omega⟩
    split <;> omega
  · show ∃ y, y ≤ t + 1 ∧ (if k = s then δ 4 s + nI 1 else δ 4 k) = nI y
    by_cases e : k = s
    · rw [if_pos e, h4, nI_add]
      exact ⟨x + 1, by omega, rfl⟩
    · rw [if_neg e]
      obtain ⟨y, hy, e2⟩ := c4 k
      exact ⟨y, by omega, e2⟩
theorem al4 (k : Nat) : ainc (alook s δ) 4 k = if k = s then δ 4 s + nI 1 else δ 4 k := rfl
theorem ad_loop (h3 : P s 0 = 3) (hc : 0 < δ 1 (P s 1)) : adata P s δ = alook s δ := by
  unfold adata
  rw [if_neg (by omega), if_neg (by omega), if_neg (by omega), if_pos h3, if_pos hc]
theorem ad_left (h3 : P s 0 = 3) (hc : ¬ 0 < δ 1 (P s 1)) : adata P s δ = up2 δ 4 s (nI 0) := by
  unfold adata
  rw [if_neg (by omega), if_neg (by omega), if_neg (by omega), if_pos h3, if_neg hc]
theorem ad_choice (h3 : P s 0 = 4) : adata P s δ = δ := by
  unfold adata
  rw [if_neg (by omega), if_neg (by omega), if_neg (by omega), if_neg (by omega)]
/-- a loop that is come to, and begins -/
theorem RI_in0 (hW : wfP n P) (h : RIx n P μ0 sd fr dp s 0 at_ δ t mk rd mo tl μ) (hlt : s < topB n fr dp) (h3 : P s 0 = 3) (hc : 0 < δ 1 (P s 1)) (ht : t < 400) : at_ = s ∧ s < n ∧ dp ≤ 4 ∧ RIx n P μ0 sd (frp fr dp s (P s 6)) (dp + 1) (s + 1) 0 (anext P s δ) (ainc (adata P s δ)) (t + 1) mk (rd + 1) (if mo < 0 + 1 then 0 + 1 else mo) tl (mround (up2 (up2 (up2 (up2 μ 13 (6 * sd) (nI (t + 1))) 16 dp (nI 0)) 14 dp (nI s)) 15 dp (nI (P s 6))) sd dp 0 rd mo) := by
  obtain ⟨hC, hM, hT, hK, hR, hA, -⟩ := h
  obtain ⟨hst, hat⟩ := hA rfl
  have hsn := stk_lt hW.1 hst hlt
  rw [resP_lt hlt] at hat
  have hd4 : dp ≤ 4 := by
    have e := stk_dep hst hlt
    have := hW.2.2 s hsn (by omega)
    omega
  have hmono := stk_mono hW.1 hst
  have h4 : δ 4 s = nI 0 := hR s (fun i hi _ e => by have := hmono i hi; omega)
  obtain ⟨-, -, -, -, -, o6, o5⟩ := hW.1.2 s hsn
  have o6 := o6 (by omega)
  have hag : ∀ i, i < dp → fr i = frp fr dp s (P s 6) i := fun i hi => frp_a hi
  have hst2 : stk n P (frp fr dp s (P s 6)) (dp + 1) (s + 1) := stk_in hW.1 hW.2.1 (stk_agree hag hst) (by rw [← topB_agree hag]; exact hlt) (frp_s _ _ _ _) (Or.inl ⟨h3, rfl, rfl⟩)
  rw [ad_loop h3 hc]
  refine ⟨hat, hsn, hd4, adC_loop hC h4 (by omega) ht, sim_loop hM hC.2.2.1 hC.2.2.2.1 h4 (by omega) (by have := hC.2.2.2.2.2.2.2.1; omega), oth_loop hT, fun i hi => ?_, fun k hk => ?_, fun _ => ⟨hst2, ?_⟩, fun e => by omega⟩
  · by_cases e : i = dp
    · subst e
      rw [frp_s]
      refine ⟨?_, ?_, fun _ => ?_⟩
      · unfold mround
        simp (disch := omega) only [up2_ss, up2_n, up2_sn]
      · unfold mround
        simp (disch := omega) only [up2_ss, up2_n, up2_sn]
      · rw [al4, if_pos rfl, h4, nI_add]
        unfold mround
        simp (disch := omega) only [up2_ss, up2_n, up2_sn]
    · have hi2 : i < dp := by omega
      rw [← hag i hi2]
      obtain ⟨q1, q2, q3⟩ := hK i hi2
      refine ⟨?_, ?_, fun e3 => ?_⟩
      · unfold mround
        simp (disch := omega) only [up2_ss, up2_n, up2_sn]
        exact q1
      · unfold mround
        simp (disch := omega) only [up2_ss, up2_n, up2_sn]
        exact q2
      · rw [al4, if_neg (by have := hmono i hi2; omega)]
        unfold mround
        simp (disch := omega) only [up2_ss, up2_n, up2_sn]
        exact q3 e3
  · have e : k ≠ s := by
      have := hk dp (by omega)
      rw [frp_s] at this
      exact fun e => this h3 e.symm
    rw [al4, if_neg e]
    exact hR k (fun i hi hi3 => by
      have := hk i (by omega)
      rw [← hag i hi] at this
      exact this hi3)
  · unfold anext
    rw [if_neg (by omega), if_pos h3, if_pos hc]
    show _ = if s + 1 = (frp fr dp s (P s 6) dp).2 then (if P (frp fr dp s (P s 6) dp).1 0 = 3 then (frp fr dp s (P s 6) dp).1 else _) else s + 1
    rw [frp_s]
    show _ = if s + 1 = P s 6 then (if P s 0 = 3 then s else _) else s + 1
    by_cases e : s + 1 < P s 6
    · rw [if_pos e, if_neg (by omega)]
    · rw [if_neg e, if_pos (by omega), if_pos h3]
/-- a loop that is looked at again, and begins another round -/
theorem RI_in1 (hW : wfP n P) {d : Nat} (h : RIx n P μ0 sd fr (d + 1) s 1 at_ δ t mk rd mo tl μ) (hc : 0 < δ 1 (P s 1)) (ht : t < 400) : ∃ x, x ≤ t ∧ μ 16 d = nI x ∧ RIx n P μ0 sd fr (d + 1) (s + 1) 0 (anext P s δ) (ainc (adata P s δ)) (t + 1) mk (rd + 1) (if mo < x + 1 then x + 1 else mo) tl (mround (up2 (up2 (up2 (up2 μ 13 (6 * sd) (nI (t + 1))) 16 d (nI x)) 14 d (nI s)) 15 d (nI (P s 6))) sd d x rd mo) := by
  obtain ⟨hC, hM, hT, hK, hR, -, hA⟩ := h
  obtain ⟨d1, hd1, hf, h3, hst, hlt, hat⟩ := hA rfl
  have : d1 = d := by omega
  subst this
  have hsn := stk_lt hW.1 hst hlt
  obtain ⟨x, hx, h4⟩ := hC.2.2.2.2.2.2.2.2.2.2 s
  have hmono := stk_mono hW.1 hst
  obtain ⟨-, -, -, -, -, o6, o5⟩ := hW.1.2 s hsn
  have o6 := o6 (by omega)
  obtain ⟨p1, p2, p3⟩ := hK d1 (by omega)
  rw [hf] at p1 p2 p3
  have hst2 : stk n P fr (d1 + 1) (s + 1) := stk_in hW.1 hW.2.1 hst hlt hf (Or.inl ⟨h3, rfl, rfl⟩)
  have hmo : mo ≤ 400 := by have := hC.2.2.2.2.2.2.2.1; omega
  rw [ad_loop h3 hc]
  refine ⟨x, hx, by rw [← h4]; exact p3 h3, adC_loop hC h4 hx ht, sim_loop hM hC.2.2.1 hC.2.2.2.1 h4 (by omega) hmo, oth_loop hT, fun i hi => ?_, fun k hk => ?_, fun _ => ⟨hst2, ?_⟩, fun e => by omega⟩
  · by_cases e : i = d1
    · subst e
      rw [hf]
      refine ⟨?_, ?_, fun _ => ?_⟩
      · unfold mround
        simp (disch := omega) only [up2_ss, up2_n, up2_sn]
      · unfold mround
        simp (disch := omega) only [up2_ss, up2_n, up2_sn]
      · rw [al4, if_pos rfl, h4, nI_add]
        unfold mround
        simp (disch := omega) only [up2_ss, up2_n, up2_sn]
    · have hi2 : i < d1 := by omega
      obtain ⟨q1, q2, q3⟩ := hK i hi
      refine ⟨?_, ?_, fun e3 => ?_⟩
      · unfold mround
        simp (disch := omega) only [up2_ss, up2_n, up2_sn]
        exact q1
      · unfold mround
        simp (disch := omega) only [up2_ss, up2_n, up2_sn]
        exact q2
      · rw [al4, if_neg (by have := hmono i hi2; omega)]
        unfold mround
        simp (disch := omega) only [up2_ss, up2_n, up2_sn]
        exact q3 e3
  · have e : k ≠ s := by
      have := hk d1 (by omega)
      rw [hf] at this
      exact fun e => this h3 e.symm
    rw [al4, if_neg e]
    exact hR k hk
  · unfold anext
    rw [if_neg (by omega), if_pos h3, if_pos hc]
    show _ = if s + 1 = (fr d1).2 then (if P (fr d1).1 0 = 3 then (fr d1).1 else _) else s + 1
    rw [hf]
    show _ = if s + 1 = P s 6 then (if P s 0 = 3 then s else _) else s + 1
    by_cases e : s + 1 < P s 6
    · rw [if_pos e, if_neg (by omega)]
    · rw [if_neg e, if_pos (by omega), if_pos h3]
theorem adC_left (hC : adC δ t mk rd mo tl) (ht : t < 400) : adC (ainc (up2 δ 4 s (nI 0))) (t + 1) mk rd mo tl := by
  obtain ⟨c5, c6, c7, c8, c9, b6, b7, b8, b9, bt, c4⟩ := hC
  refine adC_inc c5 c6 c7 c8 c9 ht (by omega) fun k => ?_
  show ∃ y, y ≤ t + 1 ∧ (if k = s then nI 0 else δ 4 k) = nI y
  by_cases e : k = s
  · rw [if_pos e]
    exact ⟨0, by omega, rfl⟩
  · rw [if_neg e]
    obtain ⟨y, hy, e2⟩ := c4 k
    exact ⟨y, by omega, e2⟩
theorem sim_left (h : simD μ sd δ t mk rd mo tl) : simD (up2 μ 13 (6 * sd) (nI (t + 1))) sd (ainc (up2 δ 4 s (nI 0))) (t + 1) mk rd mo tl := simD_inc h
theorem al0 (k : Nat) : ainc (up2 δ 4 s (nI 0)) 4 k = if k = s then nI 0 else δ 4 k := rfl
/-- a loop that is come to, and not begun -/
theorem RI_out0 (hW : wfP n P) (h : RIx n P μ0 sd fr dp s 0 at_ δ t mk rd mo tl μ) (hlt : s < topB n fr dp) (h3 : P s 0 = 3) (hc : ¬ 0 < δ 1 (P s 1)) (ht : t < 400) : at_ = s ∧ s < n ∧ RIx n P μ0 sd fr dp (P s 6) 0 (anext P s δ) (ainc (adata P s δ)) (t + 1) mk rd mo tl (up2 μ 13 (6 * sd) (nI (t + 1))) := by
  obtain ⟨hC, hM, hT, hK, hR, hA, -⟩ := h
  obtain ⟨hst, hat⟩ := hA rfl
  have hsn := stk_lt hW.1 hst hlt
  rw [resP_lt hlt] at hat
  have hmono := stk_mono hW.1 hst
  have hpe : pend P s = P s 6 := if_pos (by omega)
  rw [ad_left h3 hc]
  refine ⟨hat, hsn, adC_left hC ht, sim_left hM, oth_inc hT, fun i hi => ?_, fun k hk => ?_, fun _ => ⟨by rw [← hpe]; exact stk_sib hW.1 hW.2.1 hst hlt, ?_⟩, fun e => by omega⟩
  · obtain ⟨q1, q2, q3⟩ := hK i hi
    refine ⟨q1, q2, fun e3 => ?_⟩
    rw [al0, if_neg (by have := hmono i hi; omega)]
    exact q3 e3
  · rw [al0]
    split
    · rfl
    · exact hR k hk
  · unfold anext
    rw [if_neg (by omega), if_pos h3, if_neg hc, fol_res hW.1 hW.2.1 hst hlt, hpe]
/-- a loop that is looked at again, and left -/
theorem RI_out1 (hW : wfP n P) {d : Nat} (h : RIx n P μ0 sd fr (d + 1) s 1 at_ δ t mk rd mo tl μ) (hc : ¬ 0 < δ 1 (P s 1)) (ht : t < 400) : RIx n P μ0 sd fr d (P s 6) 0 (anext P s δ) (ainc (adata P s δ)) (t + 1) mk rd mo tl (up2 μ 13 (6 * sd) (nI (t + 1))) := by
  obtain ⟨hC, hM, hT, hK, hR, -, hA⟩ := h
  obtain ⟨d1, hd1, hf, h3, hst, hlt, hat⟩ := hA rfl
  have : d1 = d := by omega
  subst this
  have hsn := stk_lt hW.1 hst hlt
  have hmono := stk_mono hW.1 hst
  have hpe : pend P s = P s 6 := if_pos (by omega)
  rw [ad_left h3 hc]
  refine ⟨adC_left hC ht, sim_left hM, oth_inc hT, fun i hi => ?_, fun k hk => ?_, fun _ => ⟨by rw [← hpe]; exact stk_sib hW.1 hW.2.1 hst hlt, ?_⟩, fun e => by omega⟩
  · obtain ⟨q1, q2, q3⟩ := hK i (by omega)
    refine ⟨q1, q2, fun e3 => ?_⟩
    rw [al0, if_neg (by have := hmono i hi; omega)]
    exact q3 e3
  · rw [al0]
    by_cases e : k = s
    · rw [if_pos e]
    · rw [if_neg e]
      refine hR k (fun i hi hi3 => ?_)
      by_cases e2 : i = d1
      · subst e2; rw [hf]; exact fun q => e q.symm
      · exact hk i (by omega) hi3
  · unfold anext
    rw [if_neg (by omega), if_pos h3, if_neg hc, fol_res hW.1 hW.2.1 hst hlt, hpe]
/-- a choice: its first part, or its second one -/
theorem RI_ch (hW : wfP n P) (h : RIx n P μ0 sd fr dp s 0 at_ δ t mk rd mo tl μ) (hlt : s < topB n fr dp) (h3 : P s 0 = 4) (ht : t < 400) : at_ = s ∧ s < n ∧ dp ≤ 4 ∧ (0 < δ 1 (P s 1) → RIx n P μ0 sd (frp fr dp s (P s 5)) (dp + 1) (s + 1) 0 (anext P s δ) (ainc (adata P s δ)) (t + 1) mk rd mo tl (up2 (up2 (up2 μ 13 (6 * sd) (nI (t + 1))) 14 dp (nI s)) 15 dp (nI (P s 5)))) ∧ (¬ 0 < δ 1 (P s 1) → RIx n P μ0 sd (frp fr dp s (P s 6)) (dp + 1) (P s 5) 0 (anext P s δ) (ainc (adata P s δ)) (t + 1) mk rd mo tl (up2 (up2 (up2 μ 13 (6 * sd) (nI (t + 1))) 14 dp (nI s)) 15 dp (nI (P s 6)))) := by
  obtain ⟨hC, hM, hT, hK, hR, hA, -⟩ := h
  obtain ⟨hst, hat⟩ := hA rfl
  have hsn := stk_lt hW.1 hst hlt
  rw [resP_lt hlt] at hat
  have hd4 : dp ≤ 4 := by
    have e := stk_dep hst hlt
    have := hW.2.2 s hsn (by omega)
    omega
  obtain ⟨-, -, -, -, -, o6, o5⟩ := hW.1.2 s hsn
  have o6 := o6 (by omega)
  have o5 := o5 h3
  have hpe : pend P s = P s 6 := if_pos (by omega)
  obtain ⟨c5, c6, c7, c8, c9, b6, b7, b8, b9, bt, c4⟩ := id hC
  have hC2 : adC (ainc δ) (t + 1) mk rd mo tl := adC_inc c5 c6 c7 c8 c9 ht (by omega) (fun k => by obtain ⟨y, hy, e⟩ := c4 k; exact ⟨y, by omega, e⟩)
  have hM2 : ∀ u : Nat, simD (up2 (up2 (up2 μ 13 (6 * sd) (nI (t + 1))) 14 dp (nI s)) 15 dp (nI u)) sd (ainc δ) (t + 1) mk rd mo tl := fun u => simD_inc hM
  have hT2 : ∀ u : Nat, othS μ0 (up2 (up2 (up2 μ 13 (6 * sd) (nI (t + 1))) 14 dp (nI s)) 15 dp (nI u)) sd := fun u => oth15 (oth14 (oth_inc hT))
  have hK2 : ∀ u : Nat, stkA (up2 (up2 (up2 μ 13 (6 * sd) (nI (t + 1))) 14 dp (nI s)) 15 dp (nI u)) (ainc δ) P (frp fr dp s u) (dp + 1) := by
    intro u i hi
    by_cases e : i = dp
    · subst e
      rw [frp_s]
      refine ⟨?_, up2_ss _ _ _ _, fun e3 => ?_⟩
      · simp (disch := omega) only [up2_ss, up2_n, up2_sn]
      · have e3 : P s 0 = 3 := e3
        omega
    · have hi2 : i < dp := by omega
      rw [← frp_a (fr := fr) (x := s) (u := u) hi2]
      obtain ⟨q1, q2, q3⟩ := hK i hi2
      refine ⟨?_, ?_, q3⟩
      · simp (disch := omega) only [up2_ss, up2_n, up2_sn]
        exact q1
      · simp (disch := omega) only [up2_ss, up2_n, up2_sn]
        exact q2
  have hR2 : ∀ u : Nat, rs0 (ainc δ) P (frp fr dp s u) (dp + 1) := by
    intro u k hk
    show δ 4 k = _
    refine hR k (fun i hi hi3 => ?_)
    have := hk i (by omega)
    rw [← frp_a (fr := fr) (x := s) (u := u) hi] at this
    exact this hi3
  have hag : ∀ u i, i < dp → fr i = frp fr dp s u i := fun u i hi => frp_a hi
  rw [ad_choice h3]
  refine ⟨hat, hsn, hd4, fun hc => ⟨hC2, hM2 _, hT2 _, hK2 _, hR2 _, fun _ => ⟨stk_in hW.1 hW.2.1 (stk_agree (hag _) hst) (by rw [← topB_agree (hag _)]; exact hlt) (frp_s _ _ _ _) (Or.inr (Or.inl ⟨h3, rfl, rfl⟩)), ?_⟩, fun e => by omega⟩, fun hc => ⟨hC2, hM2 _, hT2 _, hK2 _, hR2 _, fun _ => ⟨stk_in hW.1 hW.2.1 (stk_agree (hag _) hst) (by rw [← topB_agree (hag _)]; exact hlt) (frp_s _ _ _ _) (Or.inr (Or.inr ⟨h3, rfl, rfl⟩)), ?_⟩, fun e => by omega⟩⟩
  · unfold anext
    rw [if_neg (by omega), if_neg (by omega), if_pos hc]
    show _ = if s + 1 = (frp fr dp s (P s 5) dp).2 then (if P (frp fr dp s (P s 5) dp).1 0 = 3 then (frp fr dp s (P s 5) dp).1 else resP P (frp fr dp s (P s 5)) dp (P (frp fr dp s (P s 5) dp).1 6)) else s + 1
    rw [frp_s]
    show _ = if s + 1 = P s 5 then (if P s 0 = 3 then s else resP P (frp fr dp s (P s 5)) dp (P s 6)) else s + 1
    by_cases e : s + 1 < P s 5
    · rw [if_pos e, if_neg (by omega)]
    · rw [if_neg e, if_pos (by omega), if_neg (by omega), fol_res hW.1 hW.2.1 hst hlt, hpe]
      exact resP_agree _ (hag _)
  · unfold anext
    rw [if_neg (by omega), if_neg (by omega), if_neg hc]
    show _ = if P s 5 = (frp fr dp s (P s 6) dp).2 then (if P (frp fr dp s (P s 6) dp).1 0 = 3 then (frp fr dp s (P s 6) dp).1 else resP P (frp fr dp s (P s 6)) dp (P (frp fr dp s (P s 6) dp).1 6)) else P s 5
    rw [frp_s]
    show _ = if P s 5 = P s 6 then (if P s 0 = 3 then s else resP P (frp fr dp s (P s 6)) dp (P s 6)) else P s 5
    by_cases e : P s 5 < P s 6
    · rw [if_pos e, if_neg (by omega)]
    · rw [if_neg e, if_pos (by omega), if_neg (by omega), fol_res hW.1 hW.2.1 hst hlt, hpe]
      exact resP_agree _ (hag _)
end RL2
