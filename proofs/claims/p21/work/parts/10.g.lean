/-! THE LAW's kept and runFits -/
def kp (x : Nat) : Nat := if x < 41 then x else 40
theorem kp_b (x : Nat) : kp x ≤ 40 ∧ kp x ≤ x := by unfold kp; split <;> omega
theorem valA_l {A : Nat × xS} {tl k : Nat} (h9 : A.2 9 0 = nI tl) (htl : tl ≤ 400) : valA A k = if k < kp tl then A.2 0 k else (-10009) := by
  unfold valA kp
  rw [h9, ix_n (by omega)]
  by_cases e : k < 40 ∧ k < tl
  · rw [if_pos e, if_pos (by split <;> omega)]
  · rw [if_neg e, if_neg (by split <;> omega)]
theorem celA_l {A : Nat × xS} {mk k c : Nat} (h6 : A.2 6 0 = nI mk) (hmk : mk ≤ 400) : celA A k c = if k < kp mk then A.2 2 (6 * k + c) else (-10009) := by
  unfold celA kp
  rw [h6, ix_n (by omega)]
  by_cases e : k < 40 ∧ k < mk
  · rw [if_pos e, if_pos (by split <;> omega)]
  · rw [if_neg e, if_neg (by split <;> omega)]
theorem bd_no {δ : xS} (h : bdS δ) {w : Nat} (hw : w ≤ 2) (i : Nat) : ¬ δ w i = (-10009) := fun e => by
  have h1 := h w i hw
  have h2 : (-10009 : Int32).toInt = -10009 := by decide +kernel
  rw [e, h2] at h1
  omega
theorem s_L_kept_t {G : xG} {d : Nat} {f : Nat → xC} {r : Nat × Nat} {Q : Option Value → xM → Prop} {z p tl : Nat} {a b : Int32} {o : xO} (hO : OI f z o) (hp : p ≤ 1) (hin : inpt a b) (h9 : (RO o p a b).2 9 0 = nI tl) (htl : tl ≤ 400) (hq : ∀ f', OI f' z o → Q (some (.int (nI (kp tl)))) (f', r)) : xMet G (d + 10) mL_kept [.ref z, .int (nI p), .int a, .int b, .int (nI 1)] (f, r) r Q := by
  refine xMet_0 (by decide +kernel) rfl (Nat.le_of_ble_eq_true rfl) ?_
  show xX G (d + 10) mL_kept r r (xΦ G r r Q) 0 [(0, .ref z), (1, .int (nI p)), (2, .int a), (3, .int b), (4, .int (nI 1))] [] (f, r)
  have hk40 := kp_b tl
  have hbd := bd_D (n := oN o p) (P := oP o p) hin
  have hva := fun k => valA_l (k := k) h9 htl
  refine xr_iconst (v := nI 0) (n := 1) dL_kept_0 (by decide) rfl ?_
  refine xr_istore (n := 3) dL_kept_1 rfl rfl ?_
  simp only [xst, Nat.beq, List.filter, Bool.not_true, Bool.not_false]
  have key : ∀ k, k ≤ kp tl → ∀ f, OI f z o → xX G (d + 10) mL_kept r r (xΦ G r r Q) 3 [(0, .ref z), (1, .int (nI p)), (2, .int a), (3, .int b), (4, .int (nI 1)), (5, .int (nI k))] [] (f, r) := by
    refine nat_down (P := fun k => ∀ f, OI f z o → xX G (d + 10) mL_kept r r (xΦ G r r Q) 3 [(0, .ref z), (1, .int (nI p)), (2, .int a), (3, .int b), (4, .int (nI 1)), (5, .int (nI k))] [] (f, r)) (N := kp tl) ?_ ?_
    · intro f hO
      refine xr_iload (n := 5) dL_kept_3 rfl rfl ?_
      refine xr_bipush (v := nI 50) (n := 7) dL_kept_5 (by decide) rfl ?_
      refine xr_icmp_ge (tgt := 49) (n := 10) dL_kept_7 (by decide) rfl (fun h7 => by (exfalso; ((try simp (disch := omega) only [i_lt, i_le, i_eq, nt, i_m1, Int32.toInt_zero] at *); omega))) (fun h7 => ?_)
      refine xr_iload (n := 12) dL_kept_10 rfl rfl ?_
      refine xr_if_eq (tgt := 27) (n := 15) dL_kept_12 (by decide) rfl (fun h12 => by (exfalso; revert h12; decide)) (fun h12 => ?_)
      refine xr_aload_n (n := 16) dL_kept_15 rfl rfl ?_
      refine xr_iload_n (n := 17) dL_kept_16 rfl rfl ?_
      refine xr_iload_n (n := 18) dL_kept_17 rfl rfl ?_
      refine xr_iload_n (n := 19) dL_kept_18 rfl rfl ?_
      refine xr_iload (n := 21) dL_kept_19 rfl rfl ?_
      refine xr_callV (y2 := mX7_told) (As := [_, _, _, _]) (n := 24) dL_kept_21 lm_L_40 pm_X7_told pi_X7_told (by exact Exists.choose_spec hO.z) rfl rfl rfl (by simp [Value.category]) rfl ⟨Nat.le_refl _, Nat.le_refl _⟩ ?_
      refine q_told hO (by omega) hin (by omega) (fun f hO => ?_)
      dsimp only [xK, xps]
      refine xr_goto (n := 37) dL_kept_24 (by decide) ?_
      refine xr_sipush (v := (-10009)) (n := 40) dL_kept_37 (by decide) rfl ?_
      refine xr_icmp_eq (tgt := 49) (n := 43) dL_kept_40 (by decide) rfl (fun h40 => ?_) (fun h40 => by (exact absurd (by rw [hva, if_neg (by omega)]) h40))
      refine xr_iload (n := 51) dL_kept_49 rfl rfl ?_
      refine xr_ireturn dL_kept_51 rfl rfl rfl ?_
      exact hq f hO
    · intro k hkk ih f hO
      refine xr_iload (n := 5) dL_kept_3 rfl rfl ?_
      refine xr_bipush (v := nI 50) (n := 7) dL_kept_5 (by decide) rfl ?_
      refine xr_icmp_ge (tgt := 49) (n := 10) dL_kept_7 (by decide) rfl (fun h7 => by (exfalso; ((try simp (disch := omega) only [i_lt, i_le, i_eq, nt, i_m1, Int32.toInt_zero] at *); omega))) (fun h7 => ?_)
      refine xr_iload (n := 12) dL_kept_10 rfl rfl ?_
      refine xr_if_eq (tgt := 27) (n := 15) dL_kept_12 (by decide) rfl (fun h12 => by (exfalso; revert h12; decide)) (fun h12 => ?_)
      refine xr_aload_n (n := 16) dL_kept_15 rfl rfl ?_
      refine xr_iload_n (n := 17) dL_kept_16 rfl rfl ?_
      refine xr_iload_n (n := 18) dL_kept_17 rfl rfl ?_
      refine xr_iload_n (n := 19) dL_kept_18 rfl rfl ?_
      refine xr_iload (n := 21) dL_kept_19 rfl rfl ?_
      refine xr_callV (y2 := mX7_told) (As := [_, _, _, _]) (n := 24) dL_kept_21 lm_L_40 pm_X7_told pi_X7_told (by exact Exists.choose_spec hO.z) rfl rfl rfl (by simp [Value.category]) rfl ⟨Nat.le_refl _, Nat.le_refl _⟩ ?_
      refine q_told hO (by omega) hin (by omega) (fun f hO => ?_)
      dsimp only [xK, xps]
      refine xr_goto (n := 37) dL_kept_24 (by decide) ?_
      refine xr_sipush (v := (-10009)) (n := 40) dL_kept_37 (by decide) rfl ?_
      refine xr_icmp_eq (tgt := 49) (n := 43) dL_kept_40 (by decide) rfl (fun h40 => by (exfalso; rw [hva, if_pos hkk] at h40; exact bd_no hbd (by omega) _ h40)) (fun h40 => ?_)
      refine xr_iinc (n := 46) dL_kept_43 rfl rfl (rfl) rfl ?_
      simp only [xst, Nat.beq, List.filter, Bool.not_true, Bool.not_false]
      (first | (simp (disch := omega) only [nI_clamp, pk_mul, nI_add, oi1, Nat.reduceMul, Nat.reduceAdd, Nat.add_zero]) | skip)
      refine xr_goto (n := 3) dL_kept_46 (by decide) ?_
      exact ih f hO
  exact key 0 (by omega) f hO


theorem s_L_kept_c {G : xG} {d : Nat} {f : Nat → xC} {r : Nat × Nat} {Q : Option Value → xM → Prop} {z p tl : Nat} {a b : Int32} {o : xO} (hO : OI f z o) (hp : p ≤ 1) (hin : inpt a b) (h9 : (RO o p a b).2 6 0 = nI tl) (htl : tl ≤ 400) (hq : ∀ f', OI f' z o → Q (some (.int (nI (kp tl)))) (f', r)) : xMet G (d + 10) mL_kept [.ref z, .int (nI p), .int a, .int b, .int (nI 0)] (f, r) r Q := by
  refine xMet_0 (by decide +kernel) rfl (Nat.le_of_ble_eq_true rfl) ?_
  show xX G (d + 10) mL_kept r r (xΦ G r r Q) 0 [(0, .ref z), (1, .int (nI p)), (2, .int a), (3, .int b), (4, .int (nI 0))] [] (f, r)
  have hk40 := kp_b tl
  have hbd := bd_D (n := oN o p) (P := oP o p) hin
  have hva := fun k => celA_l (k := k) (c := 0) h9 htl
  refine xr_iconst (v := nI 0) (n := 1) dL_kept_0 (by decide) rfl ?_
  refine xr_istore (n := 3) dL_kept_1 rfl rfl ?_
  simp only [xst, Nat.beq, List.filter, Bool.not_true, Bool.not_false]
  have key : ∀ k, k ≤ kp tl → ∀ f, OI f z o → xX G (d + 10) mL_kept r r (xΦ G r r Q) 3 [(0, .ref z), (1, .int (nI p)), (2, .int a), (3, .int b), (4, .int (nI 0)), (5, .int (nI k))] [] (f, r) := by
    refine nat_down (P := fun k => ∀ f, OI f z o → xX G (d + 10) mL_kept r r (xΦ G r r Q) 3 [(0, .ref z), (1, .int (nI p)), (2, .int a), (3, .int b), (4, .int (nI 0)), (5, .int (nI k))] [] (f, r)) (N := kp tl) ?_ ?_
    · intro f hO
      refine xr_iload (n := 5) dL_kept_3 rfl rfl ?_
      refine xr_bipush (v := nI 50) (n := 7) dL_kept_5 (by decide) rfl ?_
      refine xr_icmp_ge (tgt := 49) (n := 10) dL_kept_7 (by decide) rfl (fun h7 => by (exfalso; ((try simp (disch := omega) only [i_lt, i_le, i_eq, nt, i_m1, Int32.toInt_zero] at *); omega))) (fun h7 => ?_)
      refine xr_iload (n := 12) dL_kept_10 rfl rfl ?_
      refine xr_if_eq (tgt := 27) (n := 15) dL_kept_12 (by decide) rfl (fun h12 => ?_) (fun h12 => by (exfalso; revert h12; decide))
      refine xr_aload_n (n := 28) dL_kept_27 rfl rfl ?_
      refine xr_iload_n (n := 29) dL_kept_28 rfl rfl ?_
      refine xr_iload_n (n := 30) dL_kept_29 rfl rfl ?_
      refine xr_iload_n (n := 31) dL_kept_30 rfl rfl ?_
      refine xr_iload (n := 33) dL_kept_31 rfl rfl ?_
      refine xr_iconst (v := nI 0) (n := 34) dL_kept_33 (by decide) rfl ?_
      refine xr_callV (y2 := mX7_cell) (As := [_, _, _, _, _]) (n := 37) dL_kept_34 lm_L_32 pm_X7_cell pi_X7_cell (by exact Exists.choose_spec hO.z) rfl rfl rfl (by simp [Value.category]) rfl ⟨Nat.le_refl _, Nat.le_refl _⟩ ?_
      refine q_cell hO (by omega) hin (by omega) (by omega) (fun f hO => ?_)
      dsimp only [xK, xps]
      refine xr_sipush (v := (-10009)) (n := 40) dL_kept_37 (by decide) rfl ?_
      refine xr_icmp_eq (tgt := 49) (n := 43) dL_kept_40 (by decide) rfl (fun h40 => ?_) (fun h40 => by (exact absurd (by rw [hva, if_neg (by omega)]) h40))
      refine xr_iload (n := 51) dL_kept_49 rfl rfl ?_
      refine xr_ireturn dL_kept_51 rfl rfl rfl ?_
      exact hq f hO
    · intro k hkk ih f hO
      refine xr_iload (n := 5) dL_kept_3 rfl rfl ?_
      refine xr_bipush (v := nI 50) (n := 7) dL_kept_5 (by decide) rfl ?_
      refine xr_icmp_ge (tgt := 49) (n := 10) dL_kept_7 (by decide) rfl (fun h7 => by (exfalso; ((try simp (disch := omega) only [i_lt, i_le, i_eq, nt, i_m1, Int32.toInt_zero] at *); omega))) (fun h7 => ?_)
      refine xr_iload (n := 12) dL_kept_10 rfl rfl ?_
      refine xr_if_eq (tgt := 27) (n := 15) dL_kept_12 (by decide) rfl (fun h12 => ?_) (fun h12 => by (exfalso; revert h12; decide))
      refine xr_aload_n (n := 28) dL_kept_27 rfl rfl ?_
      refine xr_iload_n (n := 29) dL_kept_28 rfl rfl ?_
      refine xr_iload_n (n := 30) dL_kept_29 rfl rfl ?_
      refine xr_iload_n (n := 31) dL_kept_30 rfl rfl ?_
      refine xr_iload (n := 33) dL_kept_31 rfl rfl ?_
      refine xr_iconst (v := nI 0) (n := 34) dL_kept_33 (by decide) rfl ?_
      refine xr_callV (y2 := mX7_cell) (As := [_, _, _, _, _]) (n := 37) dL_kept_34 lm_L_32 pm_X7_cell pi_X7_cell (by exact Exists.choose_spec hO.z) rfl rfl rfl (by simp [Value.category]) rfl ⟨Nat.le_refl _, Nat.le_refl _⟩ ?_
      refine q_cell hO (by omega) hin (by omega) (by omega) (fun f hO => ?_)
      dsimp only [xK, xps]
      refine xr_sipush (v := (-10009)) (n := 40) dL_kept_37 (by decide) rfl ?_
      refine xr_icmp_eq (tgt := 49) (n := 43) dL_kept_40 (by decide) rfl (fun h40 => by (exfalso; rw [hva, if_pos hkk] at h40; exact bd_no hbd (by omega) _ h40)) (fun h40 => ?_)
      refine xr_iinc (n := 46) dL_kept_43 rfl rfl (rfl) rfl ?_
      simp only [xst, Nat.beq, List.filter, Bool.not_true, Bool.not_false]
      (first | (simp (disch := omega) only [nI_clamp, pk_mul, nI_add, oi1, Nat.reduceMul, Nat.reduceAdd, Nat.add_zero]) | skip)
      refine xr_goto (n := 3) dL_kept_46 (by decide) ?_
      exact ih f hO
  exact key 0 (by omega) f hO


theorem s_L_runFits {G : xG} {d : Nat} {f : Nat → xC} {r : Nat × Nat} {Q : Option Value → xM → Prop} {z p : Nat} {a b : Int32} {o : xO} (hO : OI f z o) (hp : p ≤ 1) (hin : inpt a b) (hq : ∀ f', OI f' z o → Q (some (.int (nI 1))) (f', r)) : xMet G (d + 11) mL_runFits [.ref z, .int (nI p), .int a, .int b] (f, r) r Q := by
  refine xMet_0 (by decide +kernel) rfl (Nat.le_of_ble_eq_true rfl) ?_
  show xX G (d + 11) mL_runFits r r (xΦ G r r Q) 0 [(0, .ref z), (1, .int (nI p)), (2, .int a), (3, .int b)] [] (f, r)
  have hw := hO.2.wf hp
  have h60 := hO.2.n60 hp
  obtain ⟨t, mk, rd, mo, tl, ⟨h5, h6, h7, h8, h9, hs, hm, hm2, ht, -⟩, hcu⟩ := rn_D (n := oN o p) (P := oP o p) (a := a) (b := b)
  have hbd := bd_D (n := oN o p) (P := oP o p) hin
  obtain ⟨cu, hcv, hc1, hc2⟩ : ∃ cu : Nat, cutD (oN o p) (RO o p a b) = nI cu ∧ cu ≤ 1 ∧ (cu = 1 → t = 400 ∧ (RO o p a b).1 < oN o p) := by
    unfold cutD
    split
    · rename_i q
      exact ⟨1, rfl, by omega, fun _ => ⟨hcu q, q⟩⟩
    · exact ⟨0, rfl, by omega, fun q => by omega⟩
  have hnl : cntk (oP o p) 3 (oN o p) = 0 → cu = 0 ∧ t ≤ oN o p := fun q => by
    obtain ⟨q1, t', q2, q3⟩ := nl_D (a := a) (b := b) hw q
    have q4 := nI_inj (by omega) (by omega) (h5.symm.trans q3)
    refine ⟨?_, by omega⟩
    rcases Nat.eq_zero_or_pos cu with q5 | q5
    · exact q5
    · exact absurd (hc2 (by omega)).2 q1
  have hst : cntk (oP o p) 3 (oN o p) = 0 → cntk (oP o p) 4 (oN o p) = 0 → t = oN o p := fun q q' => nI_inj (by omega) (by omega) (h5.symm.trans (st_D hw q q'))
  have hset : ∀ c, c < 6 → ¬ bt (setb (oP o p) (oN o p)) c = true → (RO o p a b).2 1 c = gini a b c := fun c hc q => cell_D (fun s hs h0 e => q ((setb_bt (by omega) _ (fun s hs => (hw.1.2 s hs).2.1)).mpr ⟨s, hs, h0, e⟩))
  have hc3 := cntk_le (oP o p) 3 (oN o p)
  have hc4 := cntk_le (oP o p) 4 (oN o p)
  have hg0 : prgV o p 0 = nI (oN o p) := rfl
  have hg4 : prgV o p 4 = nI (cntk (oP o p) 3 (oN o p)) := rfl
  have hg5 : prgV o p 5 = nI (cntk (oP o p) 4 (oN o p)) := rfl
  have hg7 : prgV o p 7 = setb (oP o p) (oN o p) := rfl
  have hv0 : runV (oN o p) (RO o p a b) 0 = nI t := h5
  have hv1 : runV (oN o p) (RO o p a b) 1 = nI cu := hcv
  have hv2 : runV (oN o p) (RO o p a b) 2 = nI tl := h9
  have hv3 : runV (oN o p) (RO o p a b) 3 = nI mk := h6
  have hv4 : runV (oN o p) (RO o p a b) 4 = nI rd := h7
  have hv5 : runV (oN o p) (RO o p a b) 5 = nI mo := h8
  have k299 : ∀ f, OI f z o → xX G (d + 11) mL_runFits r r (xΦ G r r Q) 299 [(0, .ref z), (1, .int (nI p)), (2, .int a), (3, .int b), (4, .int (nI t)), (5, .int (nI cu)), (6, .int (nI tl)), (7, .int (nI mk)), (8, .int (nI rd)), (9, .int (nI mo)), (10, .int (nI 1)), (11, .int (nI 6))] [] (f, r) := by
    intro f hO
    refine xr_iload (n := 301) dL_runFits_299 rfl rfl ?_
    refine xr_if_eq (tgt := 353) (n := 304) dL_runFits_301 (by decide) rfl (fun h301 => by (exfalso; revert h301; decide)) (fun h301 => ?_)
    refine xr_aload_n (n := 305) dL_runFits_304 rfl rfl ?_
    refine xr_iload_n (n := 306) dL_runFits_305 rfl rfl ?_
    refine xr_iconst (v := nI 4) (n := 307) dL_runFits_306 (by decide) rfl ?_
    refine xr_callV (y2 := mX7_program) (As := [_, _]) (n := 310) dL_runFits_307 lm_L_25 pm_X7_program pi_X7_program (by exact Exists.choose_spec hO.z) rfl rfl rfl (by simp [Value.category]) rfl ⟨Nat.le_refl _, Nat.le_refl _⟩ ?_
    refine q_program hO hp (by omega) ?_
    dsimp only [xK, xps]
    simp only [hg0, hg4, hg5, hg7, hv0, hv1, hv2, hv3, hv4, hv5]
    refine xr_if_gt (tgt := 349) (n := 313) dL_runFits_310 (by decide) rfl (fun h310 => ?_) (fun h310 => ?_)
    · refine xr_iconst (v := nI 1) (n := 350) dL_runFits_349 (by decide) rfl ?_
      refine xr_goto (n := 354) dL_runFits_350 (by decide) ?_
      refine xr_ireturn dL_runFits_354 rfl (by first | exact b2i_nar | exact nar_1 | exact nar_0) rfl ?_
      exact hq f hO
    · refine xr_iload (n := 315) dL_runFits_313 rfl rfl ?_
      refine xr_aload_n (n := 316) dL_runFits_315 rfl rfl ?_
      refine xr_iload_n (n := 317) dL_runFits_316 rfl rfl ?_
      refine xr_iconst (v := nI 0) (n := 318) dL_runFits_317 (by decide) rfl ?_
      refine xr_callV (y2 := mX7_program) (As := [_, _]) (n := 321) dL_runFits_318 lm_L_25 pm_X7_program pi_X7_program (by exact Exists.choose_spec hO.z) rfl rfl rfl (by simp [Value.category]) rfl ⟨Nat.le_refl _, Nat.le_refl _⟩ ?_
      refine q_program hO hp (by omega) ?_
      dsimp only [xK, xps]
      simp only [hg0, hg4, hg5, hg7, hv0, hv1, hv2, hv3, hv4, hv5]
      refine xr_icmp_gt (tgt := 353) (n := 324) dL_runFits_321 (by decide) rfl (fun h321 => by (have := hnl (by ((try simp (disch := omega) only [i_lt, i_le, i_eq, nt, i_m1, Int32.toInt_zero] at *); omega)); ((try simp (disch := omega) only [i_lt, i_le, i_eq, nt, i_m1, Int32.toInt_zero] at *); omega))) (fun h321 => ?_)
      refine xr_iload (n := 326) dL_runFits_324 rfl rfl ?_
      refine xr_if_ne (tgt := 353) (n := 329) dL_runFits_326 (by decide) rfl (fun h326 => by (have := hnl (by ((try simp (disch := omega) only [i_lt, i_le, i_eq, nt, i_m1, Int32.toInt_zero] at *); omega)); ((try simp (disch := omega) only [i_lt, i_le, i_eq, nt, i_m1, Int32.toInt_zero] at *); omega))) (fun h326 => ?_)
      refine xr_aload_n (n := 330) dL_runFits_329 rfl rfl ?_
      refine xr_iload_n (n := 331) dL_runFits_330 rfl rfl ?_
      refine xr_iconst (v := nI 5) (n := 332) dL_runFits_331 (by decide) rfl ?_
      refine xr_callV (y2 := mX7_program) (As := [_, _]) (n := 335) dL_runFits_332 lm_L_25 pm_X7_program pi_X7_program (by exact Exists.choose_spec hO.z) rfl rfl rfl (by simp [Value.category]) rfl ⟨Nat.le_refl _, Nat.le_refl _⟩ ?_
      refine q_program hO hp (by omega) ?_
      dsimp only [xK, xps]
      simp only [hg0, hg4, hg5, hg7, hv0, hv1, hv2, hv3, hv4, hv5]
      refine xr_if_gt (tgt := 349) (n := 338) dL_runFits_335 (by decide) rfl (fun h335 => ?_) (fun h335 => ?_)
      · refine xr_iconst (v := nI 1) (n := 350) dL_runFits_349 (by decide) rfl ?_
        refine xr_goto (n := 354) dL_runFits_350 (by decide) ?_
        refine xr_ireturn dL_runFits_354 rfl (by first | exact b2i_nar | exact nar_1 | exact nar_0) rfl ?_
        exact hq f hO
      · refine xr_iload (n := 340) dL_runFits_338 rfl rfl ?_
        refine xr_aload_n (n := 341) dL_runFits_340 rfl rfl ?_
        refine xr_iload_n (n := 342) dL_runFits_341 rfl rfl ?_
        refine xr_iconst (v := nI 0) (n := 343) dL_runFits_342 (by decide) rfl ?_
        refine xr_callV (y2 := mX7_program) (As := [_, _]) (n := 346) dL_runFits_343 lm_L_25 pm_X7_program pi_X7_program (by exact Exists.choose_spec hO.z) rfl rfl rfl (by simp [Value.category]) rfl ⟨Nat.le_refl _, Nat.le_refl _⟩ ?_
        refine q_program hO hp (by omega) ?_
        dsimp only [xK, xps]
        simp only [hg0, hg4, hg5, hg7, hv0, hv1, hv2, hv3, hv4, hv5]
        refine xr_icmp_ne (tgt := 353) (n := 349) dL_runFits_346 (by decide) rfl (fun h346 => by (exfalso; have := hst (by ((try simp (disch := omega) only [i_lt, i_le, i_eq, nt, i_m1, Int32.toInt_zero] at *); omega)) (by ((try simp (disch := omega) only [i_lt, i_le, i_eq, nt, i_m1, Int32.toInt_zero] at *); omega)); exact h346 (by rw [this]))) (fun h346 => ?_)
        refine xr_iconst (v := nI 1) (n := 350) dL_runFits_349 (by decide) rfl ?_
        refine xr_goto (n := 354) dL_runFits_350 (by decide) ?_
        refine xr_ireturn dL_runFits_354 rfl (by first | exact b2i_nar | exact nar_1 | exact nar_0) rfl ?_
        exact hq f hO
  have k180 : ∀ f, OI f z o → xX G (d + 11) mL_runFits r r (xΦ G r r Q) 180 [(0, .ref z), (1, .int (nI p)), (2, .int a), (3, .int b), (4, .int (nI t)), (5, .int (nI cu)), (6, .int (nI tl)), (7, .int (nI mk)), (8, .int (nI rd)), (9, .int (nI mo)), (10, .int (nI 1))] [.int (nI (kp mk))] (f, r) := by
    intro f hO
    refine xr_aload_n (n := 181) dL_runFits_180 rfl rfl ?_
    refine xr_iload_n (n := 182) dL_runFits_181 rfl rfl ?_
    refine xr_iload_n (n := 183) dL_runFits_182 rfl rfl ?_
    refine xr_iload_n (n := 184) dL_runFits_183 rfl rfl ?_
    refine xr_iconst (v := nI 0) (n := 185) dL_runFits_184 (by decide) rfl ?_
    refine xr_callS (y2 := mL_kept) (As := [_, _, _, _, _]) (n := 188) dL_runFits_185 lm_L_36 pm_L_kept kp_static_yL_kept rfl rfl (by simp [Value.category]) rfl ⟨Nat.le_refl _, Nat.le_refl _⟩ ?_
    refine s_L_kept_c hO hp hin h6 (by omega) (fun f hO => ?_)
    dsimp only [xK, xps]
    refine xr_icmp_ne (tgt := 195) (n := 191) dL_runFits_188 (by decide) rfl (fun h188 => by (exact absurd rfl h188)) (fun h188 => ?_)
    refine xr_iconst (v := nI 1) (n := 192) dL_runFits_191 (by decide) rfl ?_
    refine xr_goto (n := 196) dL_runFits_192 (by decide) ?_
    refine xr_istore (n := 198) dL_runFits_196 rfl rfl ?_
    simp only [xst, Nat.beq, List.filter, Bool.not_true, Bool.not_false]
    refine xr_iconst (v := nI 0) (n := 199) dL_runFits_198 (by decide) rfl ?_
    refine xr_istore (n := 201) dL_runFits_199 rfl rfl ?_
    simp only [xst, Nat.beq, List.filter, Bool.not_true, Bool.not_false]
    have keyc : ∀ c, c ≤ 6 → ∀ f, OI f z o → xX G (d + 11) mL_runFits r r (xΦ G r r Q) 201 [(0, .ref z), (1, .int (nI p)), (2, .int a), (3, .int b), (4, .int (nI t)), (5, .int (nI cu)), (6, .int (nI tl)), (7, .int (nI mk)), (8, .int (nI rd)), (9, .int (nI mo)), (10, .int (nI 1)), (11, .int (nI c))] [] (f, r) := by
      refine nat_down (P := fun c => ∀ f, OI f z o → xX G (d + 11) mL_runFits r r (xΦ G r r Q) 201 [(0, .ref z), (1, .int (nI p)), (2, .int a), (3, .int b), (4, .int (nI t)), (5, .int (nI cu)), (6, .int (nI tl)), (7, .int (nI mk)), (8, .int (nI rd)), (9, .int (nI mo)), (10, .int (nI 1)), (11, .int (nI c))] [] (f, r)) (N := 6) ?_ ?_
      · intro f hO
        refine xr_iload (n := 203) dL_runFits_201 rfl rfl ?_
        refine xr_bipush (v := nI 6) (n := 205) dL_runFits_203 (by decide) rfl ?_
        refine xr_icmp_ge (tgt := 299) (n := 208) dL_runFits_205 (by decide) rfl (fun h205 => ?_) (fun h205 => by (exfalso; ((try simp (disch := omega) only [i_lt, i_le, i_eq, nt, i_m1, Int32.toInt_zero] at *); omega)))
        exact k299 f hO
      · intro c hkc ihc f hO
        have hbc := hbd 1 c (by omega)
        have e999 := i999
        have em999 := im999
        have k245 : ∀ f, OI f z o → xX G (d + 11) mL_runFits r r (xΦ G r r Q) 245 [(0, .ref z), (1, .int (nI p)), (2, .int a), (3, .int b), (4, .int (nI t)), (5, .int (nI cu)), (6, .int (nI tl)), (7, .int (nI mk)), (8, .int (nI rd)), (9, .int (nI mo)), (10, .int (nI 1)), (11, .int (nI c)), (12, .int ((RO o p a b).2 1 c))] [.int (gini a b c)] (f, r) := by
          intro f hO
          refine xr_istore (n := 247) dL_runFits_245 rfl rfl ?_
          simp only [xst, Nat.beq, List.filter, Bool.not_true, Bool.not_false]
          refine xr_iload (n := 249) dL_runFits_247 rfl rfl ?_
          refine xr_sipush (v := (-999)) (n := 252) dL_runFits_249 (by decide) rfl ?_
          refine xr_icmp_lt (tgt := 290) (n := 255) dL_runFits_252 (by decide) rfl (fun h252 => by (rw [i_lt, em999] at h252; have h9 : -999 ≤ ((RO o p a b).2 1 c).toInt := hbc.1; omega)) (fun h252 => ?_)
          refine xr_iload (n := 257) dL_runFits_255 rfl rfl ?_
          refine xr_sipush (v := nI 999) (n := 260) dL_runFits_257 (by decide) rfl ?_
          refine xr_icmp_gt (tgt := 290) (n := 263) dL_runFits_260 (by decide) rfl (fun h260 => by (rw [i_lt, e999] at h260; have h9 : ((RO o p a b).2 1 c).toInt ≤ 999 := hbc.2; omega)) (fun h260 => ?_)
          refine xr_aload_n (n := 264) dL_runFits_263 rfl rfl ?_
          refine xr_iload_n (n := 265) dL_runFits_264 rfl rfl ?_
          refine xr_bipush (v := nI 7) (n := 267) dL_runFits_265 (by decide) rfl ?_
          refine xr_callV (y2 := mX7_program) (As := [_, _]) (n := 270) dL_runFits_267 lm_L_25 pm_X7_program pi_X7_program (by exact Exists.choose_spec hO.z) rfl rfl rfl (by simp [Value.category]) rfl ⟨Nat.le_refl _, Nat.le_refl _⟩ ?_
          refine q_program hO hp (by omega) ?_
          dsimp only [xK, xps]
          simp only [hg0, hg4, hg5, hg7, hv0, hv1, hv2, hv3, hv4, hv5]
          refine xr_iload (n := 272) dL_runFits_270 rfl rfl ?_
          refine xr_ishr (n := 273) dL_runFits_272 rfl ?_
          refine xr_iconst (v := nI 1) (n := 274) dL_runFits_273 (by decide) rfl ?_
          refine xr_iand (n := 275) dL_runFits_274 rfl ?_
          rw [b_get _ (by omega)]
          refine xr_iconst (v := nI 1) (n := 276) dL_runFits_275 (by decide) rfl ?_
          refine xr_icmp_eq (tgt := 286) (n := 279) dL_runFits_276 (by decide) rfl (fun h276 => ?_) (fun h276 => ?_)
          · refine xr_iconst (v := nI 1) (n := 287) dL_runFits_286 (by decide) rfl ?_
            refine xr_goto (n := 291) dL_runFits_287 (by decide) ?_
            refine xr_istore (n := 293) dL_runFits_291 rfl rfl ?_
            simp only [xst, Nat.beq, List.filter, Bool.not_true, Bool.not_false]
            refine xr_iinc (n := 296) dL_runFits_293 rfl rfl (rfl) rfl ?_
            simp only [xst, Nat.beq, List.filter, Bool.not_true, Bool.not_false]
            (first | (simp (disch := omega) only [nI_clamp, pk_mul, nI_add, oi1, Nat.reduceMul, Nat.reduceAdd, Nat.add_zero]) | skip)
            refine xr_goto (n := 201) dL_runFits_296 (by decide) ?_
            refine xX.drop 13 ?_
            refine xX.drop 12 ?_
            simp only [List.filter, Nat.beq, Bool.not_true, Bool.not_false]
            exact ihc f hO
          · refine xr_iload (n := 281) dL_runFits_279 rfl rfl ?_
            refine xr_iload (n := 283) dL_runFits_281 rfl rfl ?_
            refine xr_icmp_ne (tgt := 290) (n := 286) dL_runFits_283 (by decide) rfl (fun h283 => by (exfalso; exact h283 (hset c hkc (fun q => h276 (if_pos q))))) (fun h283 => ?_)
            refine xr_iconst (v := nI 1) (n := 287) dL_runFits_286 (by decide) rfl ?_
            refine xr_goto (n := 291) dL_runFits_287 (by decide) ?_
            refine xr_istore (n := 293) dL_runFits_291 rfl rfl ?_
            simp only [xst, Nat.beq, List.filter, Bool.not_true, Bool.not_false]
            refine xr_iinc (n := 296) dL_runFits_293 rfl rfl (rfl) rfl ?_
            simp only [xst, Nat.beq, List.filter, Bool.not_true, Bool.not_false]
            (first | (simp (disch := omega) only [nI_clamp, pk_mul, nI_add, oi1, Nat.reduceMul, Nat.reduceAdd, Nat.add_zero]) | skip)
            refine xr_goto (n := 201) dL_runFits_296 (by decide) ?_
            refine xX.drop 13 ?_
            refine xX.drop 12 ?_
            simp only [List.filter, Nat.beq, Bool.not_true, Bool.not_false]
            exact ihc f hO
        refine xr_iload (n := 203) dL_runFits_201 rfl rfl ?_
        refine xr_bipush (v := nI 6) (n := 205) dL_runFits_203 (by decide) rfl ?_
        refine xr_icmp_ge (tgt := 299) (n := 208) dL_runFits_205 (by decide) rfl (fun h205 => by (exfalso; ((try simp (disch := omega) only [i_lt, i_le, i_eq, nt, i_m1, Int32.toInt_zero] at *); omega))) (fun h205 => ?_)
        refine xr_iload (n := 210) dL_runFits_208 rfl rfl ?_
        refine xr_if_eq (tgt := 299) (n := 213) dL_runFits_210 (by decide) rfl (fun h210 => by (exfalso; revert h210; decide)) (fun h210 => ?_)
        refine xr_aload_n (n := 214) dL_runFits_213 rfl rfl ?_
        refine xr_iload_n (n := 215) dL_runFits_214 rfl rfl ?_
        refine xr_iload_n (n := 216) dL_runFits_215 rfl rfl ?_
        refine xr_iload_n (n := 217) dL_runFits_216 rfl rfl ?_
        refine xr_iconst (v := (-1)) (n := 218) dL_runFits_217 (by decide) rfl ?_
        refine xr_iload (n := 220) dL_runFits_218 rfl rfl ?_
        refine xr_callV (y2 := mX7_cell) (As := [_, _, _, _, _]) (n := 223) dL_runFits_220 lm_L_32 pm_X7_cell pi_X7_cell (by exact Exists.choose_spec hO.z) rfl rfl rfl (by simp [Value.category]) rfl ⟨Nat.le_refl _, Nat.le_refl _⟩ ?_
        refine q_end hO hp hin (by omega) (fun f hO => ?_)
        dsimp only [xK, xps]
        refine xr_istore (n := 225) dL_runFits_223 rfl rfl ?_
        simp only [xst, Nat.beq, List.filter, Bool.not_true, Bool.not_false]
        refine xr_iload (n := 227) dL_runFits_225 rfl rfl ?_
        refine xr_if_ne (tgt := 234) (n := 230) dL_runFits_227 (by decide) rfl (fun h227 => ?_) (fun h227 => ?_)
        · refine xr_iload (n := 236) dL_runFits_234 rfl rfl ?_
          refine xr_iconst (v := nI 1) (n := 237) dL_runFits_236 (by decide) rfl ?_
          refine xr_icmp_ne (tgt := 244) (n := 240) dL_runFits_237 (by decide) rfl (fun h237 => ?_) (fun h237 => ?_)
          · refine xr_iconst (v := nI 0) (n := 245) dL_runFits_244 (by decide) rfl ?_
            have e0 : ¬ c = 0 := by ((try simp (disch := omega) only [i_lt, i_le, i_eq, nt, i_m1, Int32.toInt_zero] at *); omega)
            have e1 : ¬ c = 1 := by ((try simp (disch := omega) only [i_lt, i_le, i_eq, nt, i_m1, Int32.toInt_zero] at *); omega)
            have e2 : gini a b c = nI 0 := by (unfold gini; rw [if_neg e0, if_neg e1])
            rw [e2] at k245
            exact k245 f hO
          · refine xr_iload_n (n := 241) dL_runFits_240 rfl rfl ?_
            refine xr_goto (n := 245) dL_runFits_241 (by decide) ?_
            have ec : c = 1 := by ((try simp (disch := omega) only [i_lt, i_le, i_eq, nt, i_m1, Int32.toInt_zero] at *); omega)
            subst ec
            exact k245 f hO
        · refine xr_iload_n (n := 231) dL_runFits_230 rfl rfl ?_
          refine xr_goto (n := 245) dL_runFits_231 (by decide) ?_
          have ec : c = 0 := by ((try simp (disch := omega) only [i_lt, i_le, i_eq, nt, i_m1, Int32.toInt_zero] at *); omega)
          subst ec
          exact k245 f hO
    exact keyc 0 (by omega) f hO
  have k155 : ∀ f, OI f z o → xX G (d + 11) mL_runFits r r (xΦ G r r Q) 155 [(0, .ref z), (1, .int (nI p)), (2, .int a), (3, .int b), (4, .int (nI t)), (5, .int (nI cu)), (6, .int (nI tl)), (7, .int (nI mk)), (8, .int (nI rd)), (9, .int (nI mo)), (10, .int (nI 1))] [.int (nI (kp tl))] (f, r) := by
    intro f hO
    refine xr_aload_n (n := 156) dL_runFits_155 rfl rfl ?_
    refine xr_iload_n (n := 157) dL_runFits_156 rfl rfl ?_
    refine xr_iload_n (n := 158) dL_runFits_157 rfl rfl ?_
    refine xr_iload_n (n := 159) dL_runFits_158 rfl rfl ?_
    refine xr_iconst (v := nI 1) (n := 160) dL_runFits_159 (by decide) rfl ?_
    refine xr_callS (y2 := mL_kept) (As := [_, _, _, _, _]) (n := 163) dL_runFits_160 lm_L_36 pm_L_kept kp_static_yL_kept rfl rfl (by simp [Value.category]) rfl ⟨Nat.le_refl _, Nat.le_refl _⟩ ?_
    refine s_L_kept_t hO hp hin h9 (by omega) (fun f hO => ?_)
    dsimp only [xK, xps]
    refine xr_icmp_ne (tgt := 195) (n := 166) dL_runFits_163 (by decide) rfl (fun h163 => by (exact absurd rfl h163)) (fun h163 => ?_)
    refine xr_iload (n := 168) dL_runFits_166 rfl rfl ?_
    refine xr_bipush (v := nI 41) (n := 170) dL_runFits_168 (by decide) rfl ?_
    refine xr_icmp_ge (tgt := 178) (n := 173) dL_runFits_170 (by decide) rfl (fun h170 => ?_) (fun h170 => ?_)
    · refine xr_bipush (v := nI 40) (n := 180) dL_runFits_178 (by decide) rfl ?_
      rw [show kp mk = 40 from if_neg (by ((try simp (disch := omega) only [i_lt, i_le, i_eq, nt, i_m1, Int32.toInt_zero] at *); omega))] at k180
      exact k180 f hO
    · refine xr_iload (n := 175) dL_runFits_173 rfl rfl ?_
      refine xr_goto (n := 180) dL_runFits_175 (by decide) ?_
      rw [show kp mk = mk from if_pos (by ((try simp (disch := omega) only [i_lt, i_le, i_eq, nt, i_m1, Int32.toInt_zero] at *); omega))] at k180
      exact k180 f hO
  have k136 : ∀ f, OI f z o → xX G (d + 11) mL_runFits r r (xΦ G r r Q) 136 [(0, .ref z), (1, .int (nI p)), (2, .int a), (3, .int b), (4, .int (nI t)), (5, .int (nI cu)), (6, .int (nI tl)), (7, .int (nI mk)), (8, .int (nI rd)), (9, .int (nI mo)), (10, .int (nI 1))] [] (f, r) := by
    intro f hO
    refine xr_iload (n := 138) dL_runFits_136 rfl rfl ?_
    refine xr_if_eq (tgt := 195) (n := 141) dL_runFits_138 (by decide) rfl (fun h138 => by (exfalso; revert h138; decide)) (fun h138 => ?_)
    refine xr_iload (n := 143) dL_runFits_141 rfl rfl ?_
    refine xr_bipush (v := nI 41) (n := 145) dL_runFits_143 (by decide) rfl ?_
    refine xr_icmp_ge (tgt := 153) (n := 148) dL_runFits_145 (by decide) rfl (fun h145 => ?_) (fun h145 => ?_)
    · refine xr_bipush (v := nI 40) (n := 155) dL_runFits_153 (by decide) rfl ?_
      rw [show kp tl = 40 from if_neg (by ((try simp (disch := omega) only [i_lt, i_le, i_eq, nt, i_m1, Int32.toInt_zero] at *); omega))] at k155
      exact k155 f hO
    · refine xr_iload (n := 150) dL_runFits_148 rfl rfl ?_
      refine xr_goto (n := 155) dL_runFits_150 (by decide) ?_
      rw [show kp tl = tl from if_pos (by ((try simp (disch := omega) only [i_lt, i_le, i_eq, nt, i_m1, Int32.toInt_zero] at *); omega))] at k155
      exact k155 f hO
  have k86 : ∀ f, OI f z o → xX G (d + 11) mL_runFits r r (xΦ G r r Q) 86 [(0, .ref z), (1, .int (nI p)), (2, .int a), (3, .int b), (4, .int (nI t)), (5, .int (nI cu)), (6, .int (nI tl)), (7, .int (nI mk)), (8, .int (nI rd)), (9, .int (nI mo))] [] (f, r) := by
    intro f hO
    refine xr_iload (n := 88) dL_runFits_86 rfl rfl ?_
    refine xr_iload (n := 90) dL_runFits_88 rfl rfl ?_
    refine xr_iadd (n := 91) dL_runFits_90 rfl ?_
    (first | (simp (disch := omega) only [nI_clamp, pk_mul, nI_add, oi1, Nat.reduceMul, Nat.reduceAdd, Nat.add_zero]) | skip)
    refine xr_iload (n := 93) dL_runFits_91 rfl rfl ?_
    refine xr_iadd (n := 94) dL_runFits_93 rfl ?_
    (first | (simp (disch := omega) only [nI_clamp, pk_mul, nI_add, oi1, Nat.reduceMul, Nat.reduceAdd, Nat.add_zero]) | skip)
    refine xr_iload (n := 96) dL_runFits_94 rfl rfl ?_
    refine xr_icmp_gt (tgt := 133) (n := 99) dL_runFits_96 (by decide) rfl (fun h96 => by (exfalso; ((try simp (disch := omega) only [i_lt, i_le, i_eq, nt, i_m1, Int32.toInt_zero] at *); omega))) (fun h96 => ?_)
    refine xr_iload (n := 101) dL_runFits_99 rfl rfl ?_
    refine xr_iload (n := 103) dL_runFits_101 rfl rfl ?_
    refine xr_icmp_gt (tgt := 133) (n := 106) dL_runFits_103 (by decide) rfl (fun h103 => by (exfalso; ((try simp (disch := omega) only [i_lt, i_le, i_eq, nt, i_m1, Int32.toInt_zero] at *); omega))) (fun h103 => ?_)
    refine xr_iload (n := 108) dL_runFits_106 rfl rfl ?_
    refine xr_if_ne (tgt := 115) (n := 111) dL_runFits_108 (by decide) rfl (fun h108 => ?_) (fun h108 => ?_)
    · refine xr_iconst (v := nI 0) (n := 116) dL_runFits_115 (by decide) rfl ?_
      refine xr_iload (n := 118) dL_runFits_116 rfl rfl ?_
      refine xr_if_ne (tgt := 125) (n := 121) dL_runFits_118 (by decide) rfl (fun h118 => ?_) (fun h118 => ?_)
      · refine xr_iconst (v := nI 0) (n := 126) dL_runFits_125 (by decide) rfl ?_
        refine xr_icmp_ne (tgt := 133) (n := 129) dL_runFits_126 (by decide) rfl (fun h126 => by (exfalso; revert h126; decide)) (fun h126 => ?_)
        refine xr_iconst (v := nI 1) (n := 130) dL_runFits_129 (by decide) rfl ?_
        refine xr_goto (n := 134) dL_runFits_130 (by decide) ?_
        refine xr_istore (n := 136) dL_runFits_134 rfl rfl ?_
        simp only [xst, Nat.beq, List.filter, Bool.not_true, Bool.not_false]
        exact k136 f hO
      · exfalso; ((try simp (disch := omega) only [i_lt, i_le, i_eq, nt, i_m1, Int32.toInt_zero] at *); omega)
    · refine xr_iconst (v := nI 1) (n := 112) dL_runFits_111 (by decide) rfl ?_
      refine xr_goto (n := 116) dL_runFits_112 (by decide) ?_
      refine xr_iload (n := 118) dL_runFits_116 rfl rfl ?_
      refine xr_if_ne (tgt := 125) (n := 121) dL_runFits_118 (by decide) rfl (fun h118 => ?_) (fun h118 => ?_)
      · exfalso; ((try simp (disch := omega) only [i_lt, i_le, i_eq, nt, i_m1, Int32.toInt_zero] at *); omega)
      · refine xr_iconst (v := nI 1) (n := 122) dL_runFits_121 (by decide) rfl ?_
        refine xr_goto (n := 126) dL_runFits_122 (by decide) ?_
        refine xr_icmp_ne (tgt := 133) (n := 129) dL_runFits_126 (by decide) rfl (fun h126 => by (exfalso; revert h126; decide)) (fun h126 => ?_)
        refine xr_iconst (v := nI 1) (n := 130) dL_runFits_129 (by decide) rfl ?_
        refine xr_goto (n := 134) dL_runFits_130 (by decide) ?_
        refine xr_istore (n := 136) dL_runFits_134 rfl rfl ?_
        simp only [xst, Nat.beq, List.filter, Bool.not_true, Bool.not_false]
        exact k136 f hO
  refine xr_aload_n (n := 1) dL_runFits_0 rfl rfl ?_
  refine xr_iload_n (n := 2) dL_runFits_1 rfl rfl ?_
  refine xr_iload_n (n := 3) dL_runFits_2 rfl rfl ?_
  refine xr_iload_n (n := 4) dL_runFits_3 rfl rfl ?_
  refine xr_iconst (v := nI 0) (n := 5) dL_runFits_4 (by decide) rfl ?_
  refine xr_callV (y2 := mX7_run) (As := [_, _, _, _]) (n := 8) dL_runFits_5 lm_L_28 pm_X7_run pi_X7_run (by exact Exists.choose_spec hO.z) rfl rfl rfl (by simp [Value.category]) rfl ⟨Nat.le_refl _, Nat.le_refl _⟩ ?_
  refine q_run hO hp hin (by omega) (fun f hO => ?_)
  dsimp only [xK, xps]
  simp only [hg0, hg4, hg5, hg7, hv0, hv1, hv2, hv3, hv4, hv5]
  refine xr_istore (n := 10) dL_runFits_8 rfl rfl ?_
  simp only [xst, Nat.beq, List.filter, Bool.not_true, Bool.not_false]
  refine xr_aload_n (n := 11) dL_runFits_10 rfl rfl ?_
  refine xr_iload_n (n := 12) dL_runFits_11 rfl rfl ?_
  refine xr_iload_n (n := 13) dL_runFits_12 rfl rfl ?_
  refine xr_iload_n (n := 14) dL_runFits_13 rfl rfl ?_
  refine xr_iconst (v := nI 1) (n := 15) dL_runFits_14 (by decide) rfl ?_
  refine xr_callV (y2 := mX7_run) (As := [_, _, _, _]) (n := 18) dL_runFits_15 lm_L_28 pm_X7_run pi_X7_run (by exact Exists.choose_spec hO.z) rfl rfl rfl (by simp [Value.category]) rfl ⟨Nat.le_refl _, Nat.le_refl _⟩ ?_
  refine q_run hO hp hin (by omega) (fun f hO => ?_)
  dsimp only [xK, xps]
  simp only [hg0, hg4, hg5, hg7, hv0, hv1, hv2, hv3, hv4, hv5]
  refine xr_istore (n := 20) dL_runFits_18 rfl rfl ?_
  simp only [xst, Nat.beq, List.filter, Bool.not_true, Bool.not_false]
  refine xr_aload_n (n := 21) dL_runFits_20 rfl rfl ?_
  refine xr_iload_n (n := 22) dL_runFits_21 rfl rfl ?_
  refine xr_iload_n (n := 23) dL_runFits_22 rfl rfl ?_
  refine xr_iload_n (n := 24) dL_runFits_23 rfl rfl ?_
  refine xr_iconst (v := nI 2) (n := 25) dL_runFits_24 (by decide) rfl ?_
  refine xr_callV (y2 := mX7_run) (As := [_, _, _, _]) (n := 28) dL_runFits_25 lm_L_28 pm_X7_run pi_X7_run (by exact Exists.choose_spec hO.z) rfl rfl rfl (by simp [Value.category]) rfl ⟨Nat.le_refl _, Nat.le_refl _⟩ ?_
  refine q_run hO hp hin (by omega) (fun f hO => ?_)
  dsimp only [xK, xps]
  simp only [hg0, hg4, hg5, hg7, hv0, hv1, hv2, hv3, hv4, hv5]
  refine xr_istore (n := 30) dL_runFits_28 rfl rfl ?_
  simp only [xst, Nat.beq, List.filter, Bool.not_true, Bool.not_false]
  refine xr_aload_n (n := 31) dL_runFits_30 rfl rfl ?_
  refine xr_iload_n (n := 32) dL_runFits_31 rfl rfl ?_
  refine xr_iload_n (n := 33) dL_runFits_32 rfl rfl ?_
  refine xr_iload_n (n := 34) dL_runFits_33 rfl rfl ?_
  refine xr_iconst (v := nI 3) (n := 35) dL_runFits_34 (by decide) rfl ?_
  refine xr_callV (y2 := mX7_run) (As := [_, _, _, _]) (n := 38) dL_runFits_35 lm_L_28 pm_X7_run pi_X7_run (by exact Exists.choose_spec hO.z) rfl rfl rfl (by simp [Value.category]) rfl ⟨Nat.le_refl _, Nat.le_refl _⟩ ?_
  refine q_run hO hp hin (by omega) (fun f hO => ?_)
  dsimp only [xK, xps]
  simp only [hg0, hg4, hg5, hg7, hv0, hv1, hv2, hv3, hv4, hv5]
  refine xr_istore (n := 40) dL_runFits_38 rfl rfl ?_
  simp only [xst, Nat.beq, List.filter, Bool.not_true, Bool.not_false]
  refine xr_aload_n (n := 41) dL_runFits_40 rfl rfl ?_
  refine xr_iload_n (n := 42) dL_runFits_41 rfl rfl ?_
  refine xr_iload_n (n := 43) dL_runFits_42 rfl rfl ?_
  refine xr_iload_n (n := 44) dL_runFits_43 rfl rfl ?_
  refine xr_iconst (v := nI 4) (n := 45) dL_runFits_44 (by decide) rfl ?_
  refine xr_callV (y2 := mX7_run) (As := [_, _, _, _]) (n := 48) dL_runFits_45 lm_L_28 pm_X7_run pi_X7_run (by exact Exists.choose_spec hO.z) rfl rfl rfl (by simp [Value.category]) rfl ⟨Nat.le_refl _, Nat.le_refl _⟩ ?_
  refine q_run hO hp hin (by omega) (fun f hO => ?_)
  dsimp only [xK, xps]
  simp only [hg0, hg4, hg5, hg7, hv0, hv1, hv2, hv3, hv4, hv5]
  refine xr_istore (n := 50) dL_runFits_48 rfl rfl ?_
  simp only [xst, Nat.beq, List.filter, Bool.not_true, Bool.not_false]
  refine xr_aload_n (n := 51) dL_runFits_50 rfl rfl ?_
  refine xr_iload_n (n := 52) dL_runFits_51 rfl rfl ?_
  refine xr_iload_n (n := 53) dL_runFits_52 rfl rfl ?_
  refine xr_iload_n (n := 54) dL_runFits_53 rfl rfl ?_
  refine xr_iconst (v := nI 5) (n := 55) dL_runFits_54 (by decide) rfl ?_
  refine xr_callV (y2 := mX7_run) (As := [_, _, _, _]) (n := 58) dL_runFits_55 lm_L_28 pm_X7_run pi_X7_run (by exact Exists.choose_spec hO.z) rfl rfl rfl (by simp [Value.category]) rfl ⟨Nat.le_refl _, Nat.le_refl _⟩ ?_
  refine q_run hO hp hin (by omega) (fun f hO => ?_)
  dsimp only [xK, xps]
  simp only [hg0, hg4, hg5, hg7, hv0, hv1, hv2, hv3, hv4, hv5]
  refine xr_istore (n := 60) dL_runFits_58 rfl rfl ?_
  simp only [xst, Nat.beq, List.filter, Bool.not_true, Bool.not_false]
  refine xr_iload (n := 62) dL_runFits_60 rfl rfl ?_
  refine xr_if_lt (tgt := 133) (n := 65) dL_runFits_62 (by decide) rfl (fun h62 => by (exfalso; ((try simp (disch := omega) only [i_lt, i_le, i_eq, nt, i_m1, Int32.toInt_zero] at *); omega))) (fun h62 => ?_)
  refine xr_iload (n := 67) dL_runFits_65 rfl rfl ?_
  refine xr_sipush (v := nI 400) (n := 70) dL_runFits_67 (by decide) rfl ?_
  refine xr_icmp_gt (tgt := 133) (n := 73) dL_runFits_70 (by decide) rfl (fun h70 => by (exfalso; ((try simp (disch := omega) only [i_lt, i_le, i_eq, nt, i_m1, Int32.toInt_zero] at *); omega))) (fun h70 => ?_)
  refine xr_iload (n := 75) dL_runFits_73 rfl rfl ?_
  refine xr_if_eq (tgt := 86) (n := 78) dL_runFits_75 (by decide) rfl (fun h75 => ?_) (fun h75 => ?_)
  · exact k86 f hO
  · refine xr_iload (n := 80) dL_runFits_78 rfl rfl ?_
    refine xr_sipush (v := nI 400) (n := 83) dL_runFits_80 (by decide) rfl ?_
    refine xr_icmp_ne (tgt := 133) (n := 86) dL_runFits_83 (by decide) rfl (fun h83 => by (have := hc2 (by ((try simp (disch := omega) only [i_lt, i_le, i_eq, nt, i_m1, Int32.toInt_zero] at *); omega)); ((try simp (disch := omega) only [i_lt, i_le, i_eq, nt, i_m1, Int32.toInt_zero] at *); omega))) (fun h83 => ?_)
    exact k86 f hO
