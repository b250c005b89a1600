/-! BOTH SIDES: each call answers alike, and keeps the relation -/
def BR (F : Nat → xC) (z m : Nat) : Prop := ∃ (t : Nat → Int32) (n sv : Nat) (N : Nat → Nat) (P : Nat → Nat → Nat → Nat) (HN : Nat → Nat → Nat) (HP : Nat → Nat → Nat → Nat → Nat) (μ : xS), CI F z t n sv N P HN HP ∧ bat F m 18 (mcell m μ) ∧ MI μ t n sv N P HN HP ∧ AI t n sv N P HN HP
def JN (G : xG) (d z m : Nat) (r : Nat × Nat) (y7 y8 : xY) (as : List Value) (F : Nat → xC) : Prop := ∃ (v : Int32) (T : (Nat → xC) → Prop), (∀ Q : Option Value → xM → Prop, (∀ F1, T F1 → Q (some (.int v)) (F1, r)) → xMet G d y7 (.ref z :: as) (F, r) r Q) ∧ ∀ F1, T F1 → (∃ fs, F1 m = ob 8 fs) ∧ ∀ Q : Option Value → xM → Prop, (∀ F2, BR F2 z m → Q (some (.int v)) (F2, r)) → xMet G d y8 (.ref m :: as) (F1, r) r Q
theorem CI.out {f f' : Nat → xC} {z n sv : Nat} {t : Nat → Int32} {N : Nat → Nat} {P : Nat → Nat → Nat → Nat} {HN : Nat → Nat → Nat} {HP : Nat → Nat → Nat → Nat → Nat} (h : CI f z t n sv N P HN HP) (e : ∀ a, z ≤ a → a < z + 187 → f' a = f a) : CI f' z t n sv N P HN HP := by
  obtain ⟨rl, S, hV⟩ := h
  exact ⟨rl, S, hV.1.out e, hV.2⟩
theorem jn_mk {G : xG} {d z m : Nat} {r : Nat × Nat} {y7 y8 : xY} {as : List Value} {F : Nat → xC} {μ : xS} {v : Int32} {t' : Nat → Int32} {n' sv' : Nat} {N' : Nat → Nat} {P' : Nat → Nat → Nat → Nat} {HN' : Nat → Nat → Nat} {HP' : Nat → Nat → Nat → Nat → Nat} (hm : z + 187 ≤ m) (hB : bat F m 18 (mcell m μ)) (h7 : ∀ Q : Option Value → xM → Prop, (∀ F1, CI F1 z t' n' sv' N' P' HN' HP' → AI t' n' sv' N' P' HN' HP' → rgn z F F1 → Q (some (.int v)) (F1, r)) → xMet G d y7 (.ref z :: as) (F, r) r Q) (h8 : ∀ F1, ∀ Q : Option Value → xM → Prop, (∀ ν, MI ν t' n' sv' N' P' HN' HP' → Q (some (.int v)) (mput F1 m ν, r)) → xMet G d y8 (.ref m :: as) (mput F1 m μ, r) r Q) : JN G d z m r y7 y8 as F := by
  refine ⟨v, fun F1 => CI F1 z t' n' sv' N' P' HN' HP' ∧ AI t' n' sv' N' P' HN' HP' ∧ bat F1 m 18 (mcell m μ), fun Q hQ => h7 Q (fun F1 h1 h2 h3 => hQ F1 ⟨h1, h2, fun i hi => ?_⟩), fun F1 hT => ⟨⟨_, hT.2.2 0 (by decide)⟩, fun Q hQ => ?_⟩⟩
  · rw [h3 _ (by omega)]
    exact hB i hi
  · obtain ⟨h1, h2, h3⟩ := hT
    have h9 := h8 F1 Q (fun ν hν => hQ _ ⟨t', n', sv', N', P', HN', HP', ν, h1.out (fun a _ ha => bput_out (by omega)), bat_put _ _ _ _, hν, h2⟩)
    rw [show mput F1 m μ = F1 from bput_self h3] at h9
    exact h9
theorem pr1 {p : Int32} (h : 0 ≤ p.toInt ∧ p.toInt ≤ 1) : ∃ pn : Nat, pn ≤ 1 ∧ p = nI pn := by
  obtain ⟨k, hk, e⟩ := k_of h.1
  refine ⟨k, ?_, e⟩
  have := h.2
  rw [e, nt _ hk] at this
  omega
theorem pk2 {k : Nat} {p : Int32} (hk : k < 2 ^ 31) (e : p = nI k) : p.toInt = (k : Int) := by rw [e, nt _ hk]
section
variable {G : xG} {z m : Nat} {r : Nat × Nat} {F : Nat → xC}
theorem j_append {c : Int32} (hB : BR F z m) (hm : z + 187 ≤ m) : JN G 9 z m r mX7_append mX8_append [.int c] F := by
  obtain ⟨t, n, sv, N, P, HN, HP, μ, ⟨rl, S, hV⟩, hb, hM, hA⟩ := hB
  by_cases h1 : 1 ≤ c.toInt ∧ c.toInt ≤ 255
  · by_cases h2 : n = 120
    · exact jn_mk hm hb (fun Q hQ => s_X7_append hV hA (fun z => absurd h1 z) (fun _ _ => hQ F ⟨rl, S, hV⟩ hA rgn.rfl') (fun _ z => absurd z (by omega))) (fun F1 Q hQ => s_X8_append hM.2.1 hA.1 (fun z => absurd h1 z) (fun _ _ => hQ μ hM) (fun _ z => absurd z (by omega)))
    · have hn := hA.1
      exact jn_mk hm hb (fun Q hQ => s_X7_append hV hA (fun z => absurd h1 z) (fun _ z => absurd z h2) (fun _ _ f' hc hr => hQ f' hc (hA.app (by omega) h1.1) hr)) (fun F1 Q hQ => s_X8_append hM.2.1 hA.1 (fun z => absurd h1 z) (fun _ z => absurd z h2) (fun _ _ => hQ _ hM.app))
  · exact jn_mk hm hb (fun Q hQ => s_X7_append hV hA (fun _ => hQ F ⟨rl, S, hV⟩ hA rgn.rfl') (fun z => absurd z h1) (fun z => absurd z h1)) (fun F1 Q hQ => s_X8_append hM.2.1 hA.1 (fun _ => hQ μ hM) (fun z => absurd z h1) (fun z => absurd z h1))
theorem j_clearText (hB : BR F z m) (hm : z + 187 ≤ m) : JN G 9 z m r mX7_clearText mX8_clearText [] F := by
  obtain ⟨t, n, sv, N, P, HN, HP, μ, ⟨rl, S, hV⟩, hb, hM, hA⟩ := hB
  exact jn_mk hm hb (fun Q hQ => s_X7_clearText hV hA (fun f' hc hr => hQ f' hc hA.clr hr)) (fun F1 Q hQ => s_X8_clearText (by rw [hM.2.1]; exact hQ _ hM.clr))
theorem j_read {p : Int32} (hB : BR F z m) (hm : z + 187 ≤ m) : JN G 9 z m r mX7_read mX8_read [.int p] F := by
  obtain ⟨t, n, sv, N, P, HN, HP, μ, ⟨rl, S, hV⟩, hb, hM, hA⟩ := hB
  have ht := hM.1
  by_cases h1 : 0 ≤ p.toInt ∧ p.toInt ≤ 1
  · obtain ⟨pn, hpn, hpe⟩ := pr1 h1
    have hpq : ∀ q : Nat, q ≤ 1 → p = nI q → q = pn := fun q hq e => nI_inj (by omega) (by omega) (e.symm.trans hpe)
    cases hf : (pAll t n).1 with
    | false =>
      exact jn_mk hm hb (fun Q hQ => s_X7_read hV hA (fun z => absurd h1 z) (fun q hq e => ⟨fun _ f' hc hr => hQ f' hc hA hr, fun z => by rw [hf] at z; cases z⟩)) (fun F1 Q hQ => s_X8_read hM.2.1 hA.1 hM.2.2.1 hA.2.2.1 (fun z => absurd h1 z) (fun q ν hq e hs => by
        rw [ht]
        exact ⟨fun _ => hQ ν (hM.s8 hs), fun z => by rw [hf] at z; cases z⟩))
    | true =>
      exact jn_mk hm hb (fun Q hQ => s_X7_read hV hA (fun z => absurd h1 z) (fun q hq e => by
        have := hpq q hq e
        subst this
        exact ⟨fun z => (by rw [hf] at z; cases z), fun _ hw f' hc hr => hQ f' hc (hA.save.set hw) hr⟩)) (fun F1 Q hQ => s_X8_read hM.2.1 hA.1 hM.2.2.1 hA.2.2.1 (fun z => absurd h1 z) (fun q ν hq e hs => by
        have := hpq q hq e
        subst this
        rw [ht]
        refine ⟨fun z => (by rw [hf] at z; cases z), fun _ h5 h60 => hQ _ (((hM.s8 hs).save hA).lay hq (fun i hi => (hA.2.2.2.1 i hi).1.1) ?_ h60)⟩
        rw [msave_w (by omega) (by omega)]
        exact h5))
  · exact jn_mk hm hb (fun Q hQ => s_X7_read hV hA (fun _ => hQ F ⟨rl, S, hV⟩ hA rgn.rfl') (fun q hq e => absurd ⟨by rw [pk2 (by omega) e]; omega, by rw [pk2 (by omega) e]; omega⟩ h1)) (fun F1 Q hQ => s_X8_read hM.2.1 hA.1 hM.2.2.1 hA.2.2.1 (fun _ => hQ μ hM) (fun q ν hq e => absurd ⟨by rw [pk2 (by omega) e]; omega, by rw [pk2 (by omega) e]; omega⟩ h1))
theorem j_copy (hB : BR F z m) (hm : z + 187 ≤ m) : JN G 9 z m r mX7_copy mX8_copy [] F := by
  obtain ⟨t, n, sv, N, P, HN, HP, μ, ⟨rl, S, hV⟩, hb, hM, hA⟩ := hB
  obtain ⟨hM2, he⟩ := hM.copy hA
  exact jn_mk hm hb (fun Q hQ => s_X7_copy hV hA (fun f' hc hr => hQ f' hc (hA.save.set (hA.2.2.2.1 0 (by omega))) hr)) (fun F1 Q hQ => s_X8_copy hM.2.2.1 hA.2.2.1 (by rw [he]; exact hQ _ hM2))
theorem j_exchange (hB : BR F z m) (hm : z + 187 ≤ m) : JN G 9 z m r mX7_exchange mX8_exchange [] F := by
  obtain ⟨t, n, sv, N, P, HN, HP, μ, ⟨rl, S, hV⟩, hb, hM, hA⟩ := hB
  obtain ⟨hM2, he⟩ := hM.exch hA
  exact jn_mk hm hb (fun Q hQ => s_X7_exchange hV hA (fun f' hc hr => hQ f' hc hA.save.sw hr)) (fun F1 Q hQ => s_X8_exchange hM.2.2.1 hA.2.2.1 (by rw [he]; exact hQ _ hM2))
theorem j_cut {p s : Int32} (hB : BR F z m) (hm : z + 187 ≤ m) : JN G 9 z m r mX7_cut mX8_cut [.int p, .int s] F := by
  obtain ⟨t, n, sv, N, P, HN, HP, μ, ⟨rl, S, hV⟩, hb, hM, hA⟩ := hB
  by_cases h1 : (0 ≤ p.toInt ∧ p.toInt ≤ 1) ∧ (0 ≤ s.toInt ∧ s.toInt < N (ix p))
  · obtain ⟨pn, hpn, hpe⟩ := pr1 h1.1
    obtain ⟨sn, hsn, hse⟩ := k_of h1.2.1
    have hpq : ∀ q : Nat, q ≤ 1 → p = nI q → q = pn := fun q hq e => nI_inj (by omega) (by omega) (e.symm.trans hpe)
    have hsq : ∀ q k : Nat, q ≤ 1 → k < N q → s = nI k → k = sn := fun q k hq hk e => nI_inj (by have := (hA.2.2.2.1 q hq).1.1; omega) hsn (e.symm.trans hse)
    have hl : sn < N pn := by
      have := h1.2.2
      rw [hpe, ix_n (by omega), pk2 hsn hse] at this
      omega
    have hw := wf_pcut (hA.2.2.2.1 pn hpn) hl
    exact jn_mk hm hb (fun Q hQ => s_X7_cut hV hA (fun z => absurd h1 z) (fun q k hq e1 e2 hk f' hc hr => by
      have := hsq q k hq hk e2
      subst this
      have := hpq q hq e1
      subst this
      exact hQ f' hc (hA.save.set hw) hr)) (fun F1 Q hQ => s_X8_cut (hM.ms hA) hM.2.2.1 hA.2.2.1 (fun z => absurd h1 z) (fun q k κ hq e1 e2 hk h5 hp => by
      have := hsq q k hq hk e2
      subst this
      have := hpq q hq e1
      subst this
      exact hQ _ (((hM.save hA).cg (fun w hw => h5 w (by omega))).lay hq (fun i hi => (hA.2.2.2.1 i hi).1.1) hp hw.1.1)))
  · have hno : ∀ q k : Nat, q ≤ 1 → p = nI q → s = nI k → k < N q → False := fun q k hq e1 e2 hk => h1 ⟨⟨by rw [pk2 (by omega) e1]; omega, by rw [pk2 (by omega) e1]; omega⟩, by rw [pk2 (by have := (hA.2.2.2.1 q hq).1.1; omega) e2]; omega, by rw [pk2 (by have := (hA.2.2.2.1 q hq).1.1; omega) e2, e1, ix_n (by omega)]; omega⟩
    exact jn_mk hm hb (fun Q hQ => s_X7_cut hV hA (fun _ => hQ F ⟨rl, S, hV⟩ hA rgn.rfl') (fun q k hq e1 e2 hk => absurd hk (fun hk => hno q k hq e1 e2 hk))) (fun F1 Q hQ => s_X8_cut (hM.ms hA) hM.2.2.1 hA.2.2.1 (fun _ => hQ μ hM) (fun q k κ hq e1 e2 hk => absurd hk (fun hk => hno q k hq e1 e2 hk)))
theorem j_undo (hB : BR F z m) (hm : z + 187 ≤ m) : JN G 9 z m r mX7_undo mX8_undo [] F := by
  obtain ⟨t, n, sv, N, P, HN, HP, μ, ⟨rl, S, hV⟩, hb, hM, hA⟩ := hB
  cases sv with
  | zero => exact jn_mk hm hb (fun Q hQ => s_X7_undo hV hA (fun _ => hQ F ⟨rl, S, hV⟩ hA rgn.rfl') (fun k z => by cases z)) (fun F1 Q hQ => s_X8_undo hM.2.2.1 hA.2.2.1 (fun _ => hQ μ hM) (fun k z => by cases z))
  | succ k =>
    exact jn_mk hm hb (fun Q hQ => s_X7_undo hV hA (fun z => by cases z) (fun q e f' hc hr => by
      have := Nat.succ.inj e
      subst this
      exact hQ f' hc hA.ba hr)) (fun F1 Q hQ => s_X8_undo hM.2.2.1 hA.2.2.1 (fun z => by cases z) (fun q e => by
      have := Nat.succ.inj e
      subst this
      exact hQ _ (hM.back hA)))
theorem j_count {w : Int32} (hB : BR F z m) (hm : z + 187 ≤ m) : JN G 9 z m r mX7_count mX8_count [.int w] F := by
  obtain ⟨t, n, sv, N, P, HN, HP, μ, ⟨rl, S, hV⟩, hb, hM, hA⟩ := hB
  have e0 : μ 0 0 = nI (N 0) := (hM.2.2.2.1 0 (by omega)).1
  have e1 : μ 0 421 = nI (N 1) := (hM.2.2.2.1 1 (by omega)).1
  have key : ∀ v : Int32, (w.toInt = 0 → v = nI (N 0)) → (w.toInt = 1 → v = nI (N 1)) → (w.toInt = 2 → v = nI sv) → (w.toInt = 3 → v = nI n) → (¬ (0 ≤ w.toInt ∧ w.toInt ≤ 3) → v = (-10001)) → JN G 9 z m r mX7_count mX8_count [.int w] F := fun v a0 a1 a2 a3 a4 =>
    jn_mk (v := v) hm hb (fun Q hQ => s_X7_count hV hA (fun h => a0 h ▸ hQ F ⟨rl, S, hV⟩ hA rgn.rfl') (fun h => a1 h ▸ hQ F ⟨rl, S, hV⟩ hA rgn.rfl') (fun h => a2 h ▸ hQ F ⟨rl, S, hV⟩ hA rgn.rfl') (fun h => a3 h ▸ hQ F ⟨rl, S, hV⟩ hA rgn.rfl') (fun h => a4 h ▸ hQ F ⟨rl, S, hV⟩ hA rgn.rfl')) (fun F1 Q hQ => s_X8_count (fun h => by rw [e0, ← a0 h]; exact hQ μ hM) (fun h => by rw [e1, ← a1 h]; exact hQ μ hM) (fun h => by rw [hM.2.2.1, ← a2 h]; exact hQ μ hM) (fun h => by rw [hM.2.1, ← a3 h]; exact hQ μ hM) (fun h => a4 h ▸ hQ μ hM))
  by_cases b0 : w.toInt = 0
  · exact key _ (fun _ => rfl) (fun h => by omega) (fun h => by omega) (fun h => by omega) (fun h => by omega)
  · by_cases b1 : w.toInt = 1
    · exact key _ (fun h => by omega) (fun _ => rfl) (fun h => by omega) (fun h => by omega) (fun h => by omega)
    · by_cases b2 : w.toInt = 2
      · exact key _ (fun h => by omega) (fun h => by omega) (fun _ => rfl) (fun h => by omega) (fun h => by omega)
      · by_cases b3 : w.toInt = 3
        · exact key _ (fun h => by omega) (fun h => by omega) (fun h => by omega) (fun _ => rfl) (fun h => by omega)
        · exact key _ (fun h => by omega) (fun h => by omega) (fun h => by omega) (fun h => by omega) (fun _ => rfl)
theorem j_program {p w : Int32} (hB : BR F z m) (hm : z + 187 ≤ m) : JN G 9 z m r mX7_program mX8_program [.int p, .int w] F := by
  obtain ⟨t, n, sv, N, P, HN, HP, μ, ⟨rl, S, hV⟩, hb, hM, hA⟩ := hB
  have hN : ∀ q, q ≤ 1 → isPg (mtake μ q 5) (N q) (P q) ∧ okP (N q) (P q) := fun q hq => ⟨(hM.ms hA q hq).1, (hA.2.2.2.1 q hq).1⟩
  by_cases h1 : (0 ≤ p.toInt ∧ p.toInt ≤ 1) ∧ (0 ≤ w.toInt ∧ w.toInt ≤ 7)
  · obtain ⟨pn, hpn, rfl⟩ := pr1 h1.1
    obtain ⟨wn, hwn, rfl⟩ := k_of h1.2.1
    exact jn_mk hm hb (fun Q hQ => s_X7_program hV hA (fun z => absurd h1 z) (fun q k hq hk e1 e2 => by
      have := nI_inj (by omega) (by omega) e1
      subst this
      have := nI_inj hwn (by omega) e2
      subst this
      exact hQ F ⟨rl, S, hV⟩ hA rgn.rfl')) (fun F1 Q hQ => s_X8_program hN (fun z => absurd h1 z) (fun q k hq hk e1 e2 => by
      have := nI_inj (by omega) (by omega) e1
      subst this
      have := nI_inj hwn (by omega) e2
      subst this
      exact hQ _ (hM.cg (fun w hw => mtake_w (by omega)))))
  · have hno : ∀ q k : Nat, q ≤ 1 → k ≤ 7 → p = nI q → w = nI k → False := fun q k hq hk e1 e2 => h1 ⟨⟨by rw [pk2 (by omega) e1]; omega, by rw [pk2 (by omega) e1]; omega⟩, by rw [pk2 (by omega) e2]; omega, by rw [pk2 (by omega) e2]; omega⟩
    exact jn_mk hm hb (fun Q hQ => s_X7_program hV hA (fun _ => hQ F ⟨rl, S, hV⟩ hA rgn.rfl') (fun q k hq hk e1 e2 => (hno q k hq hk e1 e2).elim)) (fun F1 Q hQ => s_X8_program hN (fun _ => hQ μ hM) (fun q k hq hk e1 e2 => (hno q k hq hk e1 e2).elim))
theorem j_run {p a b w : Int32} (hB : BR F z m) (hm : z + 187 ≤ m) : JN G 9 z m r mX7_run mX8_run [.int p, .int a, .int b, .int w] F := by
  obtain ⟨t, n, sv, N, P, HN, HP, μ, ⟨rl, S, hV⟩, hb, hM, hA⟩ := hB
  by_cases h1 : (0 ≤ p.toInt ∧ p.toInt ≤ 1) ∧ ((-999 ≤ a.toInt ∧ a.toInt ≤ 999) ∧ (-999 ≤ b.toInt ∧ b.toInt ≤ 999)) ∧ (0 ≤ w.toInt ∧ w.toInt ≤ 5)
  · obtain ⟨pn, hpn, rfl⟩ := pr1 h1.1
    obtain ⟨wn, hwn, rfl⟩ := k_of h1.2.2.1
    exact jn_mk hm hb (fun Q hQ => s_X7_run hV hA (fun z => absurd h1 z) (fun q k hq hk e1 e2 _ f' hc hr => by
      have := nI_inj (by omega) (by omega) e1
      subst this
      have := nI_inj hwn (by omega) e2
      subst this
      exact hQ f' hc hA hr)) (fun F1 Q hQ => s_X8_run (hM.ms hA) (fun z => absurd h1 z) (fun q k ν hq hk e1 e2 _ hf => by
      have := nI_inj (by omega) (by omega) e1
      subst this
      have := nI_inj hwn (by omega) e2
      subst this
      exact hQ _ (hM.fr hf)))
  · have hno : ∀ q k : Nat, q ≤ 1 → k ≤ 5 → p = nI q → w = nI k → inpt a b → False := fun q k hq hk e1 e2 hi => h1 ⟨⟨by rw [pk2 (by omega) e1]; omega, by rw [pk2 (by omega) e1]; omega⟩, hi, by rw [pk2 (by omega) e2]; omega, by rw [pk2 (by omega) e2]; omega⟩
    exact jn_mk hm hb (fun Q hQ => s_X7_run hV hA (fun _ => hQ F ⟨rl, S, hV⟩ hA rgn.rfl') (fun q k hq hk e1 e2 hi => (hno q k hq hk e1 e2 hi).elim)) (fun F1 Q hQ => s_X8_run (hM.ms hA) (fun _ => hQ μ hM) (fun q k ν hq hk e1 e2 hi => (hno q k hq hk e1 e2 hi).elim))
theorem j_told {p a b w : Int32} (hB : BR F z m) (hm : z + 187 ≤ m) : JN G 9 z m r mX7_told mX8_told [.int p, .int a, .int b, .int w] F := by
  obtain ⟨t, n, sv, N, P, HN, HP, μ, ⟨rl, S, hV⟩, hb, hM, hA⟩ := hB
  by_cases h1 : (0 ≤ p.toInt ∧ p.toInt ≤ 1) ∧ ((-999 ≤ a.toInt ∧ a.toInt ≤ 999) ∧ (-999 ≤ b.toInt ∧ b.toInt ≤ 999)) ∧ 0 ≤ w.toInt
  · obtain ⟨pn, hpn, rfl⟩ := pr1 h1.1
    obtain ⟨wn, hwn, rfl⟩ := k_of h1.2.2
    exact jn_mk hm hb (fun Q hQ => s_X7_told hV hA (fun z => absurd h1 z) (fun q k hq e1 e2 hk _ f' hc hr => by
      have := nI_inj (by omega) (by omega) e1
      subst this
      have := nI_inj hwn hk e2
      subst this
      exact hQ f' hc hA hr)) (fun F1 Q hQ => s_X8_told (hM.ms hA) (fun z => absurd h1 z) (fun q k ν hq e1 e2 hk _ hf => by
      have := nI_inj (by omega) (by omega) e1
      subst this
      have := nI_inj hwn hk e2
      subst this
      exact hQ _ (hM.fr hf)))
  · have hno : ∀ q k : Nat, q ≤ 1 → p = nI q → w = nI k → k < 2 ^ 31 → inpt a b → False := fun q k hq e1 e2 hk hi => h1 ⟨⟨by rw [pk2 (by omega) e1]; omega, by rw [pk2 (by omega) e1]; omega⟩, hi, by rw [pk2 hk e2]; omega⟩
    exact jn_mk hm hb (fun Q hQ => s_X7_told hV hA (fun _ => hQ F ⟨rl, S, hV⟩ hA rgn.rfl') (fun q k hq e1 e2 hk hi => (hno q k hq e1 e2 hk hi).elim)) (fun F1 Q hQ => s_X8_told (hM.ms hA) (fun _ => hQ μ hM) (fun q k ν hq e1 e2 hk hi => (hno q k hq e1 e2 hk hi).elim))
theorem j_cell {p a b w c : Int32} (hB : BR F z m) (hm : z + 187 ≤ m) : JN G 9 z m r mX7_cell mX8_cell [.int p, .int a, .int b, .int w, .int c] F := by
  obtain ⟨t, n, sv, N, P, HN, HP, μ, ⟨rl, S, hV⟩, hb, hM, hA⟩ := hB
  by_cases h1 : (0 ≤ p.toInt ∧ p.toInt ≤ 1) ∧ ((-999 ≤ a.toInt ∧ a.toInt ≤ 999) ∧ (-999 ≤ b.toInt ∧ b.toInt ≤ 999)) ∧ -1 ≤ w.toInt ∧ (0 ≤ c.toInt ∧ c.toInt ≤ 5)
  · obtain ⟨pn, hpn, rfl⟩ := pr1 h1.1
    obtain ⟨cn, hcn, rfl⟩ := k_of h1.2.2.2.1
    by_cases hw : w.toInt = -1
    · exact jn_mk hm hb (fun Q hQ => s_X7_cell hV hA (fun z => absurd h1 z) (fun q k hq hk e1 e2 _ f' hc hr => by
        have := nI_inj (by omega) (by omega) e1
        subst this
        have := nI_inj hcn (by omega) e2
        subst this
        exact ⟨fun _ => hQ f' hc hA hr, fun wn e hk => absurd (pk2 hk e) (by omega)⟩)) (fun F1 Q hQ => s_X8_cell (hM.ms hA) (fun z => absurd h1 z) (fun q k ν hq hk e1 e2 _ hf => by
        have := nI_inj (by omega) (by omega) e1
        subst this
        have := nI_inj hcn (by omega) e2
        subst this
        exact ⟨fun _ => hQ _ (hM.fr hf), fun wn e hk => absurd (pk2 hk e) (by omega)⟩))
    · obtain ⟨wn, hwn, rfl⟩ := k_of (v := w) (by omega)
      exact jn_mk hm hb (fun Q hQ => s_X7_cell hV hA (fun z => absurd h1 z) (fun q k hq hk e1 e2 _ f' hc hr => by
        have := nI_inj (by omega) (by omega) e1
        subst this
        have := nI_inj hcn (by omega) e2
        subst this
        exact ⟨fun z => absurd z hw, fun w2 e hk => by
          have := nI_inj hwn hk e
          subst this
          exact hQ f' hc hA hr⟩)) (fun F1 Q hQ => s_X8_cell (hM.ms hA) (fun z => absurd h1 z) (fun q k ν hq hk e1 e2 _ hf => by
        have := nI_inj (by omega) (by omega) e1
        subst this
        have := nI_inj hcn (by omega) e2
        subst this
        exact ⟨fun z => absurd z hw, fun w2 e hk => by
          have := nI_inj hwn hk e
          subst this
          exact hQ _ (hM.fr hf)⟩))
  · have hno : ∀ q k : Nat, q ≤ 1 → k ≤ 5 → p = nI q → c = nI k → inpt a b → -1 ≤ w.toInt → False := fun q k hq hk e1 e2 hi hw => h1 ⟨⟨by rw [pk2 (by omega) e1]; omega, by rw [pk2 (by omega) e1]; omega⟩, hi, hw, by rw [pk2 (by omega) e2]; omega, by rw [pk2 (by omega) e2]; omega⟩
    exact jn_mk hm hb (fun Q hQ => s_X7_cell hV hA (fun _ => hQ F ⟨rl, S, hV⟩ hA rgn.rfl') (fun q k hq hk e1 e2 hi f' hc hr => ⟨fun z => (hno q k hq hk e1 e2 hi (by omega)).elim, fun w2 e hk2 => (hno q k hq hk e1 e2 hi (by rw [pk2 hk2 e]; omega)).elim⟩)) (fun F1 Q hQ => s_X8_cell (hM.ms hA) (fun _ => hQ μ hM) (fun q k ν hq hk e1 e2 hi hf => ⟨fun z => (hno q k hq hk e1 e2 hi (by omega)).elim, fun w2 e hk2 => (hno q k hq hk e1 e2 hi (by rw [pk2 hk2 e]; omega)).elim⟩))
theorem j_pairs {a b w : Int32} (hB : BR F z m) (hm : z + 187 ≤ m) : JN G 9 z m r mX7_pairs mX8_pairs [.int a, .int b, .int w] F := by
  obtain ⟨t, n, sv, N, P, HN, HP, μ, ⟨rl, S, hV⟩, hb, hM, hA⟩ := hB
  by_cases h1 : ((-999 ≤ a.toInt ∧ a.toInt ≤ 999) ∧ (-999 ≤ b.toInt ∧ b.toInt ≤ 999)) ∧ (0 ≤ w.toInt ∧ w.toInt ≤ 3)
  · obtain ⟨wn, hwn, rfl⟩ := k_of h1.2.1
    exact jn_mk hm hb (fun Q hQ => s_X7_pairs hV hA (fun z => absurd h1 z) (fun k hk e2 _ f' hc hr => by
      have := nI_inj hwn (by omega) e2
      subst this
      exact hQ f' hc hA hr)) (fun F1 Q hQ => s_X8_pairs (hM.ms hA) (fun z => absurd h1 z) (fun k ν hk e2 _ hf => by
      have := nI_inj hwn (by omega) e2
      subst this
      exact hQ _ (hM.fr hf)))
  · have hno : ∀ k : Nat, k ≤ 3 → w = nI k → inpt a b → False := fun k hk e2 hi => h1 ⟨hi, by rw [pk2 (by omega) e2]; omega, by rw [pk2 (by omega) e2]; omega⟩
    exact jn_mk hm hb (fun Q hQ => s_X7_pairs hV hA (fun _ => hQ F ⟨rl, S, hV⟩ hA rgn.rfl') (fun k hk e2 hi => (hno k hk e2 hi).elim)) (fun F1 Q hQ => s_X8_pairs (hM.ms hA) (fun _ => hQ μ hM) (fun k ν hk e2 hi => (hno k hk e2 hi).elim))
theorem j_equal {a b c : Int32} (hB : BR F z m) (hm : z + 187 ≤ m) : JN G 9 z m r mX7_equal mX8_equal [.int a, .int b, .int c] F := by
  obtain ⟨t, n, sv, N, P, HN, HP, μ, ⟨rl, S, hV⟩, hb, hM, hA⟩ := hB
  by_cases h1 : ((-999 ≤ a.toInt ∧ a.toInt ≤ 999) ∧ (-999 ≤ b.toInt ∧ b.toInt ≤ 999)) ∧ (0 ≤ c.toInt ∧ c.toInt ≤ 5)
  · obtain ⟨cn, hcn, rfl⟩ := k_of h1.2.1
    exact jn_mk hm hb (fun Q hQ => s_X7_equal hV hA (fun z => absurd h1 z) (fun k hk e2 _ f' hc hr => by
      have := nI_inj hcn (by omega) e2
      subst this
      exact hQ f' hc hA hr)) (fun F1 Q hQ => s_X8_equal (hM.ms hA) (fun z => absurd h1 z) (fun k ν hk e2 _ hf => by
      have := nI_inj hcn (by omega) e2
      subst this
      exact hQ _ (hM.fr hf)))
  · have hno : ∀ k : Nat, k ≤ 5 → c = nI k → inpt a b → False := fun k hk e2 hi => h1 ⟨hi, by rw [pk2 (by omega) e2]; omega, by rw [pk2 (by omega) e2]; omega⟩
    exact jn_mk hm hb (fun Q hQ => s_X7_equal hV hA (fun _ => hQ F ⟨rl, S, hV⟩ hA rgn.rfl') (fun k hk e2 hi => (hno k hk e2 hi).elim)) (fun F1 Q hQ => s_X8_equal (hM.ms hA) (fun _ => hQ μ hM) (fun k ν hk e2 hi => (hno k hk e2 hi).elim))
theorem j_difference {a b : Int32} (hB : BR F z m) (hm : z + 187 ≤ m) : JN G 9 z m r mX7_difference mX8_difference [.int a, .int b] F := by
  obtain ⟨t, n, sv, N, P, HN, HP, μ, ⟨rl, S, hV⟩, hb, hM, hA⟩ := hB
  by_cases h1 : (-999 ≤ a.toInt ∧ a.toInt ≤ 999) ∧ (-999 ≤ b.toInt ∧ b.toInt ≤ 999)
  · exact jn_mk hm hb (fun Q hQ => s_X7_difference hV hA (fun z => absurd h1 z) (fun _ f' hc hr => hQ f' hc hA hr)) (fun F1 Q hQ => s_X8_difference (hM.ms hA) (fun z => absurd h1 z) (fun ν _ hf => hQ _ (hM.fr hf)))
  · exact jn_mk hm hb (fun Q hQ => s_X7_difference hV hA (fun _ => hQ F ⟨rl, S, hV⟩ hA rgn.rfl') (fun z => absurd z h1)) (fun F1 Q hQ => s_X8_difference (hM.ms hA) (fun _ => hQ μ hM) (fun ν z => absurd z h1))
theorem j_agree {lo hi w : Int32} (hB : BR F z m) (hm : z + 187 ≤ m) : JN G 9 z m r mX7_agree mX8_agree [.int lo, .int hi, .int w] F := by
  obtain ⟨t, n, sv, N, P, HN, HP, μ, ⟨rl, S, hV⟩, hb, hM, hA⟩ := hB
  by_cases h1 : (-9 ≤ lo.toInt ∧ lo.toInt ≤ 9) ∧ (lo.toInt ≤ hi.toInt ∧ hi.toInt ≤ 9) ∧ (0 ≤ w.toInt ∧ w.toInt ≤ 2)
  · obtain ⟨wn, hwn, rfl⟩ := k_of h1.2.2.1
    exact jn_mk hm hb (fun Q hQ => s_X7_agree hV hA (fun z => absurd h1 z) (fun k _ hk e2 f' hc hr => by
      have := nI_inj hwn (by omega) e2
      subst this
      exact hQ f' hc hA hr)) (fun F1 Q hQ => s_X8_agree (hM.ms hA) (fun z => absurd h1 z) (fun k ν _ hk e2 hf => by
      have := nI_inj hwn (by omega) e2
      subst this
      exact hQ _ (hM.fr hf)))
  · exact jn_mk hm hb (fun Q hQ => s_X7_agree hV hA (fun _ => hQ F ⟨rl, S, hV⟩ hA rgn.rfl') (fun k z => absurd z h1)) (fun F1 Q hQ => s_X8_agree (hM.ms hA) (fun _ => hQ μ hM) (fun k ν z => absurd z h1))
theorem j_always {c : Int32} (hB : BR F z m) (hm : z + 187 ≤ m) : JN G 9 z m r mX7_always mX8_always [.int c] F := by
  obtain ⟨t, n, sv, N, P, HN, HP, μ, ⟨rl, S, hV⟩, hb, hM, hA⟩ := hB
  by_cases h1 : 0 ≤ c.toInt ∧ c.toInt ≤ 5
  · obtain ⟨cn, hcn, rfl⟩ := k_of h1.1
    exact jn_mk hm hb (fun Q hQ => s_X7_always hV hA (fun z => absurd h1 z) (fun k hk e2 f' hc hr => by
      have := nI_inj hcn (by omega) e2
      subst this
      exact hQ f' hc hA hr)) (fun F1 Q hQ => s_X8_always (hM.ms hA) (fun z => absurd h1 z) (fun k ν hk e2 hf => by
      have := nI_inj hcn (by omega) e2
      subst this
      exact hQ _ (hM.fr hf)))
  · have hno : ∀ k : Nat, k ≤ 5 → c = nI k → False := fun k hk e2 => h1 ⟨by rw [pk2 (by omega) e2]; omega, by rw [pk2 (by omega) e2]; omega⟩
    exact jn_mk hm hb (fun Q hQ => s_X7_always hV hA (fun _ => hQ F ⟨rl, S, hV⟩ hA rgn.rfl') (fun k hk e2 => (hno k hk e2).elim)) (fun F1 Q hQ => s_X8_always (hM.ms hA) (fun _ => hQ μ hM) (fun k ν hk e2 => (hno k hk e2).elim))
theorem j_idle {p : Int32} (hB : BR F z m) (hm : z + 187 ≤ m) : JN G 9 z m r mX7_idle mX8_idle [.int p] F := by
  obtain ⟨t, n, sv, N, P, HN, HP, μ, ⟨rl, S, hV⟩, hb, hM, hA⟩ := hB
  have hwc : ∀ q, q ≤ 1 → ∀ s, s < N q → wfP (N q - psz (P q) s) (pcut (P q) s) := fun q hq s hs => wf_pcut (hA.2.2.2.1 q hq) hs
  by_cases h1 : 0 ≤ p.toInt ∧ p.toInt ≤ 1
  · obtain ⟨pn, hpn, rfl⟩ := pr1 h1
    exact jn_mk hm hb (fun Q hQ => s_X7_idle hV hA (fun z => absurd h1 z) (fun q hq e1 f' hc hr => by
      have := nI_inj (by omega) (by omega) e1
      subst this
      exact hQ f' hc hA hr)) (fun F1 Q hQ => s_X8_idle (hM.ms hA) hwc (fun z => absurd h1 z) (fun q ν hq e1 hf => by
      have := nI_inj (by omega) (by omega) e1
      subst this
      exact hQ _ (hM.fr hf)))
  · have hno : ∀ q : Nat, q ≤ 1 → p = nI q → False := fun q hq e1 => h1 ⟨by rw [pk2 (by omega) e1]; omega, by rw [pk2 (by omega) e1]; omega⟩
    exact jn_mk hm hb (fun Q hQ => s_X7_idle hV hA (fun _ => hQ F ⟨rl, S, hV⟩ hA rgn.rfl') (fun q hq e1 => (hno q hq e1).elim)) (fun F1 Q hQ => s_X8_idle (hM.ms hA) hwc (fun _ => hQ μ hM) (fun q ν hq e1 => (hno q hq e1).elim))
end
