/-! THE OBJECT as the law sees it: its state as one value, each call as a row -/
abbrev xO : Type := (Nat → Int32) × Nat × Nat × (Nat → Nat) × (Nat → Nat → Nat → Nat) × (Nat → Nat → Nat) × (Nat → Nat → Nat → Nat → Nat)
def oT (o : xO) : Nat → Int32 := o.1
def oL (o : xO) : Nat := o.2.1
def oS (o : xO) : Nat := o.2.2.1
def oN (o : xO) : Nat → Nat := o.2.2.2.1
def oP (o : xO) : Nat → Nat → Nat → Nat := o.2.2.2.2.1
def oHN (o : xO) : Nat → Nat → Nat := o.2.2.2.2.2.1
def oHP (o : xO) : Nat → Nat → Nat → Nat → Nat := o.2.2.2.2.2.2
def OA (o : xO) : Prop := AI (oT o) (oL o) (oS o) (oN o) (oP o) (oHN o) (oHP o)
def OI (f : Nat → xC) (z : Nat) (o : xO) : Prop := CI f z (oT o) (oL o) (oS o) (oN o) (oP o) (oHN o) (oHP o) ∧ OA o
theorem OI.z {f : Nat → xC} {z : Nat} {o : xO} (h : OI f z o) : ∃ fs, f z = ob 7 fs := by
  obtain ⟨⟨rl, S, hV⟩, -⟩ := h
  exact ⟨_, hV.1.2.1.1⟩
/-- a run of program p, the statements of a listing, a property -/
def RO (o : xO) (p : Nat) (a b : Int32) : Nat × xS := runD (oN o p) (oP o p) a b
def cntV (o : xO) (w : Nat) : Nat := if w = 0 then oN o 0 else if w = 1 then oN o 1 else if w = 2 then oS o else oL o
def prgW (n : Nat) (P : Nat → Nat → Nat) (w : Nat) : Int32 := if w = 0 then nI n else if w = 6 then nI (dpm P n) else if w = 7 then setb P n else nI (cntk P (w - 1) n)
def prgV (o : xO) (p w : Nat) : Int32 := prgW (oN o p) (oP o p) w
/-- the states behind the actions -/
def oPut (o : xO) (N : Nat → Nat) (P : Nat → Nat → Nat → Nat) : xO := (oT o, oL o, spu (oS o), N, P, hpu (oHN o) (oS o) (oN o), hpu (oHP o) (oS o) (oP o))
def oTx (o : xO) (t : Nat → Int32) (n : Nat) : xO := (t, n, oS o, oN o, oP o, oHN o, oHP o)
def oBack (o : xO) (k : Nat) : xO := (oT o, oL o, k, oHN o k, oHP o k, oHN o, oHP o)
theorem nrl {k K : Nat} (h : k ≤ K) (hK : K < 2 ^ 31) : 0 ≤ (nI k).toInt ∧ (nI k).toInt ≤ (K : Int) := by rw [nt _ (by omega)]; omega
section
variable {G : xG} {d : Nat} {f : Nat → xC} {r : Nat × Nat} {Q : Option Value → xM → Prop} {z : Nat} {o : xO}
theorem OA.n60 (h : OA o) {p : Nat} (hp : p ≤ 1) : oN o p ≤ 60 := (h.2.2.2.1 p hp).1.1
theorem OA.wf (h : OA o) {p : Nat} (hp : p ≤ 1) : wfP (oN o p) (oP o p) := h.2.2.2.1 p hp
theorem OA.s5 (h : OA o) : oS o ≤ 5 := h.2.2.1
theorem OA.l120 (h : OA o) : oL o ≤ 120 := h.1
theorem q_count {w : Nat} (hO : OI f z o) (hw : w ≤ 3) (hq : Q (some (.int (nI (cntV o w)))) (f, r)) : xMet G d mX7_count [.ref z, .int (nI w)] (f, r) r Q := by
  obtain ⟨⟨rl, S, hV⟩, hA⟩ := id hO
  have e := nt w (by omega)
  refine s_X7_count hV hA (fun h => ?_) (fun h => ?_) (fun h => ?_) (fun h => ?_) (fun h => absurd (show 0 ≤ (nI w).toInt ∧ (nI w).toInt ≤ 3 by omega) h)
  · have : w = 0 := by omega
    subst this; exact hq
  · have : w = 1 := by omega
    subst this; exact hq
  · have : w = 2 := by omega
    subst this; exact hq
  · have : w = 3 := by omega
    subst this; exact hq
theorem q_program {p w : Nat} (hO : OI f z o) (hp : p ≤ 1) (hw : w ≤ 7) (hq : Q (some (.int (prgV o p w))) (f, r)) : xMet G (d + 4) mX7_program [.ref z, .int (nI p), .int (nI w)] (f, r) r Q := by
  obtain ⟨⟨rl, S, hV⟩, hA⟩ := id hO
  have e1 := nt p (by omega)
  have e2 := nt w (by omega)
  refine s_X7_program hV hA (fun h => absurd ⟨⟨by omega, by omega⟩, by omega, by omega⟩ h) (fun pn wn h1 h2 e3 e4 => ?_)
  have := nI_inj (by omega) (by omega) e3
  subst this
  have := nI_inj (by omega) (by omega) e4
  subst this
  exact hq
theorem q_program8 {p : Nat} (hO : OI f z o) (hp : p ≤ 1) (hq : Q (some (.int (-10001))) (f, r)) : xMet G (d + 4) mX7_program [.ref z, .int (nI p), .int (nI 8)] (f, r) r Q := by
  obtain ⟨⟨rl, S, hV⟩, hA⟩ := id hO
  have e1 := nt 8 (by omega)
  refine s_X7_program hV hA (fun _ => hq) (fun pn wn h1 h2 e3 e4 => ?_)
  have := nI_inj (by omega) (by omega) e4
  omega
theorem q_run {p w : Nat} {a b : Int32} (hO : OI f z o) (hp : p ≤ 1) (hi : inpt a b) (hw : w ≤ 5) (hq : ∀ f', OI f' z o → Q (some (.int (runV (oN o p) (RO o p a b) w))) (f', r)) : xMet G (d + 9) mX7_run [.ref z, .int (nI p), .int a, .int b, .int (nI w)] (f, r) r Q := by
  obtain ⟨⟨rl, S, hV⟩, hA⟩ := id hO
  have e1 := nt p (by omega)
  have e2 := nt w (by omega)
  refine s_X7_run hV hA (fun h => absurd ⟨⟨by omega, by omega⟩, hi, by omega, by omega⟩ h) (fun pn wn h1 h2 e3 e4 _ f' hc _ => ?_)
  have := nI_inj (by omega) (by omega) e3
  subst this
  have := nI_inj (by omega) (by omega) e4
  subst this
  exact hq f' ⟨hc, hA⟩
theorem q_told {p k : Nat} {a b : Int32} (hO : OI f z o) (hp : p ≤ 1) (hi : inpt a b) (hk : k < 2 ^ 31) (hq : ∀ f', OI f' z o → Q (some (.int (valA (RO o p a b) k))) (f', r)) : xMet G (d + 9) mX7_told [.ref z, .int (nI p), .int a, .int b, .int (nI k)] (f, r) r Q := by
  obtain ⟨⟨rl, S, hV⟩, hA⟩ := id hO
  have e1 := nt p (by omega)
  have e2 := nt k hk
  refine s_X7_told hV hA (fun h => absurd ⟨⟨by omega, by omega⟩, hi, by omega⟩ h) (fun pn wn h1 e3 e4 h2 _ f' hc _ => ?_)
  have := nI_inj (by omega) (by omega) e3
  subst this
  have := nI_inj (by omega) (by omega) e4
  subst this
  exact hq f' ⟨hc, hA⟩
theorem q_cell {p k c : Nat} {a b : Int32} (hO : OI f z o) (hp : p ≤ 1) (hi : inpt a b) (hk : k < 2 ^ 31) (hc5 : c ≤ 5) (hq : ∀ f', OI f' z o → Q (some (.int (celA (RO o p a b) k c))) (f', r)) : xMet G (d + 9) mX7_cell [.ref z, .int (nI p), .int a, .int b, .int (nI k), .int (nI c)] (f, r) r Q := by
  obtain ⟨⟨rl, S, hV⟩, hA⟩ := id hO
  have e1 := nt p (by omega)
  have e2 := nt k hk
  have e5 := nt c (by omega)
  refine s_X7_cell hV hA (fun h => absurd ⟨⟨by omega, by omega⟩, hi, by omega, by omega, by omega⟩ h) (fun pn cn h1 h2 e3 e4 _ f' hc _ => ?_)
  have := nI_inj (by omega) (by omega) e3
  subst this
  have := nI_inj (by omega) (by omega) e4
  subst this
  exact ⟨fun e6 => by omega, fun wn e6 h6 => by
    have := nI_inj (by omega) (by omega) e6
    subst this
    exact hq f' ⟨hc, hA⟩⟩
theorem q_end {p c : Nat} {a b : Int32} (hO : OI f z o) (hp : p ≤ 1) (hi : inpt a b) (hc5 : c ≤ 5) (hq : ∀ f', OI f' z o → Q (some (.int ((RO o p a b).2 1 c))) (f', r)) : xMet G (d + 9) mX7_cell [.ref z, .int (nI p), .int a, .int b, .int (-1), .int (nI c)] (f, r) r Q := by
  obtain ⟨⟨rl, S, hV⟩, hA⟩ := id hO
  have e1 := nt p (by omega)
  have e2 := i_m1
  have e5 := nt c (by omega)
  refine s_X7_cell hV hA (fun h => absurd ⟨⟨by omega, by omega⟩, hi, by omega, by omega, by omega⟩ h) (fun pn cn h1 h2 e3 e4 _ f' hc _ => ?_)
  have := nI_inj (by omega) (by omega) e3
  subst this
  have := nI_inj (by omega) (by omega) e4
  subst this
  exact ⟨fun _ => hq f' ⟨hc, hA⟩, fun wn e6 h6 => by
    have h7 := nt wn h6
    rw [← e6] at h7
    omega⟩
theorem q_pairs {w : Nat} {a b : Int32} (hO : OI f z o) (hi : inpt a b) (hw : w ≤ 3) (hq : ∀ f', OI f' z o → Q (some (.int (prV (RO o 0 a b) (RO o 1 a b) w))) (f', r)) : xMet G (d + 9) mX7_pairs [.ref z, .int a, .int b, .int (nI w)] (f, r) r Q := by
  obtain ⟨⟨rl, S, hV⟩, hA⟩ := id hO
  have e2 := nt w (by omega)
  refine s_X7_pairs hV hA (fun h => absurd ⟨hi, by omega, by omega⟩ h) (fun wn h2 e4 _ f' hc _ => ?_)
  have := nI_inj (by omega) (by omega) e4
  subst this
  exact hq f' ⟨hc, hA⟩
theorem q_equal {c : Nat} {a b : Int32} (hO : OI f z o) (hi : inpt a b) (hc5 : c ≤ 5) (hq : ∀ f', OI f' z o → Q (some (.int (eqv (RO o 0 a b) (RO o 1 a b) c 6))) (f', r)) : xMet G (d + 9) mX7_equal [.ref z, .int a, .int b, .int (nI c)] (f, r) r Q := by
  obtain ⟨⟨rl, S, hV⟩, hA⟩ := id hO
  have e2 := nt c (by omega)
  refine s_X7_equal hV hA (fun h => absurd ⟨hi, by omega, by omega⟩ h) (fun wn h2 e4 _ f' hc _ => ?_)
  have := nI_inj (by omega) (by omega) e4
  subst this
  exact hq f' ⟨hc, hA⟩
theorem q_difference {a b : Int32} (hO : OI f z o) (hi : inpt a b) (hq : ∀ f', OI f' z o → Q (some (.int (fdv (RO o 0 a b) (RO o 1 a b)))) (f', r)) : xMet G (d + 9) mX7_difference [.ref z, .int a, .int b] (f, r) r Q := by
  obtain ⟨⟨rl, S, hV⟩, hA⟩ := id hO
  exact s_X7_difference hV hA (fun h => absurd hi h) (fun _ f' hc _ => hq f' ⟨hc, hA⟩)
theorem q_agree {w : Nat} {lo hi : Int32} (hO : OI f z o) (h1 : -9 ≤ lo.toInt ∧ lo.toInt ≤ 9) (h2 : lo.toInt ≤ hi.toInt ∧ hi.toInt ≤ 9) (hw : w ≤ 2) (hq : ∀ f', OI f' z o → Q (some (.int (agV (oN o) (oP o) lo hi w))) (f', r)) : xMet G (d + 9) mX7_agree [.ref z, .int lo, .int hi, .int (nI w)] (f, r) r Q := by
  obtain ⟨⟨rl, S, hV⟩, hA⟩ := id hO
  have e2 := nt w (by omega)
  refine s_X7_agree hV hA (fun h => absurd ⟨h1, h2, by omega, by omega⟩ h) (fun wn _ h2 e4 f' hc _ => ?_)
  have := nI_inj (by omega) (by omega) e4
  subst this
  exact hq f' ⟨hc, hA⟩
theorem q_append {c : Int32} (hO : OI f z o) (hq1 : ¬ (1 ≤ c.toInt ∧ c.toInt ≤ 255) → Q (some (.int (-10001))) (f, r)) (hq2 : (1 ≤ c.toInt ∧ c.toInt ≤ 255) → oL o = 120 → Q (some (.int (-10003))) (f, r)) (hq : (1 ≤ c.toInt ∧ c.toInt ≤ 255) → oL o < 120 → ∀ f', OI f' z (oTx o (upd (oT o) (oL o) c) (oL o + 1)) → Q (some (.int (nI (oL o + 1)))) (f', r)) : xMet G (d + 2) mX7_append [.ref z, .int c] (f, r) r Q := by
  obtain ⟨⟨rl, S, hV⟩, hA⟩ := id hO
  exact s_X7_append hV hA hq1 hq2 (fun h1 h2 f' hc _ => hq h1 h2 f' ⟨hc, AI.app hA h2 h1.1⟩)
theorem q_clearText (hO : OI f z o) (hq : ∀ f', OI f' z (oTx o (oT o) 0) → Q (some (.int (nI (oL o)))) (f', r)) : xMet G d mX7_clearText [.ref z] (f, r) r Q := by
  obtain ⟨⟨rl, S, hV⟩, hA⟩ := id hO
  exact s_X7_clearText hV hA (fun f' hc _ => hq f' ⟨hc, AI.clr hA⟩)
theorem q_read {p : Int32} (hO : OI f z o) (hq0 : ¬ (0 ≤ p.toInt ∧ p.toInt ≤ 1) → Q (some (.int (-10001))) (f, r)) (hq1 : (pAll (oT o) (oL o)).1 = false → ∀ f', OI f' z o → Q (some (.int ((-1000) - nI (pAll (oT o) (oL o)).2.1))) (f', r))
    (hq2 : ∀ pn, pn ≤ 1 → (pAll (oT o) (oL o)).1 = true → wfP (pAll (oT o) (oL o)).2.1 (pAll (oT o) (oL o)).2.2 → ∀ f', OI f' z (oPut o (set1 (oN o) pn (pAll (oT o) (oL o)).2.1) (set1 (oP o) pn (pAll (oT o) (oL o)).2.2)) → Q (some (.int (nI (pAll (oT o) (oL o)).2.1))) (f', r)) : xMet G (d + 8) mX7_read [.ref z, .int p] (f, r) r Q := by
  obtain ⟨⟨rl, S, hV⟩, hA⟩ := id hO
  exact s_X7_read hV hA hq0 (fun pn hp _ => ⟨fun h f' hc _ => hq1 h f' ⟨hc, hA⟩, fun h hw f' hc _ => hq2 pn hp h hw f' ⟨hc, (AI.save hA).set hw⟩⟩)
theorem q_copy (hO : OI f z o) (hq : ∀ f', OI f' z (oPut o (set1 (oN o) 1 (oN o 0)) (set1 (oP o) 1 (oP o 0))) → Q (some (.int (nI (oN o 0)))) (f', r)) : xMet G (d + 3) mX7_copy [.ref z] (f, r) r Q := by
  obtain ⟨⟨rl, S, hV⟩, hA⟩ := id hO
  exact s_X7_copy hV hA (fun f' hc _ => hq f' ⟨hc, (AI.save hA).set (OA.wf hA (by omega))⟩)
theorem q_exchange (hO : OI f z o) (hq : ∀ f', OI f' z (oPut o (fun i => oN o (psw i)) (fun i => oP o (psw i))) → Q (some (.int (nI (oN o 1)))) (f', r)) : xMet G (d + 3) mX7_exchange [.ref z] (f, r) r Q := by
  obtain ⟨⟨rl, S, hV⟩, hA⟩ := id hO
  exact s_X7_exchange hV hA (fun f' hc _ => hq f' ⟨hc, (AI.save hA).sw⟩)
theorem q_cut {p s : Int32} (hO : OI f z o) (hq0 : ¬ ((0 ≤ p.toInt ∧ p.toInt ≤ 1) ∧ (0 ≤ s.toInt ∧ s.toInt < oN o (ix p))) → Q (some (.int (-10001))) (f, r)) (hq : ∀ pn sn, pn ≤ 1 → p = nI pn → s = nI sn → sn < oN o pn → ∀ f', OI f' z (oPut o (set1 (oN o) pn (oN o pn - psz (oP o pn) sn)) (set1 (oP o) pn (pcut (oP o pn) sn))) → Q (some (.int (nI (oN o pn - psz (oP o pn) sn)))) (f', r)) : xMet G (d + 6) mX7_cut [.ref z, .int p, .int s] (f, r) r Q := by
  obtain ⟨⟨rl, S, hV⟩, hA⟩ := id hO
  exact s_X7_cut hV hA hq0 (fun pn sn hp e1 e2 hs f' hc _ => hq pn sn hp e1 e2 hs f' ⟨hc, (AI.save hA).set (wf_pcut (OA.wf hA hp) hs)⟩)
theorem q_undo (hO : OI f z o) (hq0 : oS o = 0 → Q (some (.int (-10002))) (f, r)) (hq : ∀ k, oS o = k + 1 → ∀ f', OI f' z (oBack o k) → Q (some (.int (nI k))) (f', r)) : xMet G (d + 3) mX7_undo [.ref z] (f, r) r Q := by
  obtain ⟨⟨rl, S, hV⟩, hA⟩ := id hO
  exact s_X7_undo hV hA hq0 (fun k hk f' hc _ => hq k hk f' ⟨hc, by
    have hA2 : AI (oT o) (oL o) (oS o) (oN o) (oP o) (oHN o) (oHP o) := hA
    rw [hk] at hA2
    exact hA2.ba⟩)
end
