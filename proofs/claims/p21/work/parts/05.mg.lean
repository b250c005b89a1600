/-! RUNS: data, the reference's rows against them -/
def ix (x : Int32) : Nat := x.toNatClampNeg
theorem ix_n {n : Nat} (h : n < 2 ^ 31) : ix (nI n) = n := nI_clamp h
def aterm (δ : xS) (t : Nat) : Int32 := if t < 10 then δ 1 t else nI (t - 10)
def aset (P : Nat → Nat → Nat) (s : Nat) (δ : xS) : xS := up2 δ 1 (P s 1) (mheld (mval (aterm δ (P s 3)) (aterm δ (P s 4)) (P s 2)))
def atell (P : Nat → Nat → Nat) (s : Nat) (δ : xS) : xS := up2 (if ix (δ 9 0) < 40 then up2 δ 0 (ix (δ 9 0)) (δ 1 (P s 1)) else δ) 9 0 (δ 9 0 + nI 1)
def amark (δ : xS) : xS := up2 (if ix (δ 6 0) < 40 then ur (up2 δ 3 (ix (δ 6 0)) (δ 5 0)) 2 (fo (fun c => δ 1 c) (δ 2) (6 * ix (δ 6 0)) 6) else δ) 6 0 (δ 6 0 + nI 1)
def alook (s : Nat) (δ : xS) : xS := up2 (up2 (up2 δ 4 s (δ 4 s + nI 1)) 8 0 (if δ 8 0 < δ 4 s + nI 1 then δ 4 s + nI 1 else δ 8 0)) 7 0 (δ 7 0 + nI 1)
def adata (P : Nat → Nat → Nat) (s : Nat) (δ : xS) : xS := if P s 0 = 0 then aset P s δ else if P s 0 = 1 then atell P s δ else if P s 0 = 2 then amark δ else if P s 0 = 3 then (if 0 < δ 1 (P s 1) then alook s δ else up2 δ 4 s (nI 0)) else δ
def anext (P : Nat → Nat → Nat) (s : Nat) (δ : xS) : Nat := if P s 0 ≤ 2 then fol P s else if P s 0 = 3 then (if 0 < δ 1 (P s 1) then (if s + 1 < P s 6 then s + 1 else s) else fol P s) else if 0 < δ 1 (P s 1) then (if s + 1 < P s 5 then s + 1 else fol P s) else (if P s 5 < P s 6 then P s 5 else fol P s)
def ainc (δ : xS) : xS := up2 δ 5 0 (δ 5 0 + nI 1)
def arun (n : Nat) (P : Nat → Nat → Nat) : Nat → Nat → xS → Nat × xS
  | 0, s, δ => (s, δ)
  | g + 1, s, δ => if s < n then arun n P g (anext P s δ) (ainc (adata P s δ)) else (s, δ)
def adC (δ : xS) (t mk rd mo tl : Nat) : Prop := δ 5 0 = nI t ∧ δ 6 0 = nI mk ∧ δ 7 0 = nI rd ∧ δ 8 0 = nI mo ∧ δ 9 0 = nI tl ∧ mk ≤ t ∧ rd ≤ t ∧ mo ≤ t ∧ tl ≤ t ∧ t ≤ 400 ∧ ∀ k, ∃ x, x ≤ t ∧ δ 4 k = nI x
def simD (μ : xS) (sd : Nat) (δ : xS) (t mk rd mo tl : Nat) : Prop :=
  (μ 13 (6 * sd) = nI t ∧ μ 13 (6 * sd + 1) = nI 0 ∧ μ 13 (6 * sd + 2) = nI tl ∧ μ 13 (6 * sd + 3) = nI mk ∧ μ 13 (6 * sd + 4) = nI rd ∧ μ 13 (6 * sd + 5) = nI mo) ∧ (∀ i, i < 6 → μ 9 (6 * sd + i) = δ 1 i) ∧ (∀ i, i < tl → i < 40 → μ 10 (40 * sd + i) = δ 0 i) ∧ ∀ i, i < mk → i < 40 → μ 11 (40 * sd + i) = δ 3 i ∧ ∀ c, c < 6 → μ 12 (240 * sd + 6 * i + c) = δ 2 (6 * i + c)
def othS (μ0 μ : xS) (sd : Nat) : Prop := (∀ w, (w < 9 ∨ 16 < w) → μ w = μ0 w) ∧ ∀ od, od ≤ 1 → od ≠ sd → (∀ i, i < 6 → μ 9 (6 * od + i) = μ0 9 (6 * od + i)) ∧ (∀ i, i < 40 → μ 10 (40 * od + i) = μ0 10 (40 * od + i)) ∧ (∀ i, i < 40 → μ 11 (40 * od + i) = μ0 11 (40 * od + i)) ∧ (∀ i, i < 240 → μ 12 (240 * od + i) = μ0 12 (240 * od + i)) ∧ ∀ i, i < 6 → μ 13 (6 * od + i) = μ0 13 (6 * od + i)
def stkA (μ δ : xS) (P : Nat → Nat → Nat) (fr : Nat → Nat × Nat) (dp : Nat) : Prop := ∀ i, i < dp → μ 14 i = nI (fr i).1 ∧ μ 15 i = nI (fr i).2 ∧ (P (fr i).1 0 = 3 → μ 16 i = δ 4 (fr i).1)
def rs0 (δ : xS) (P : Nat → Nat → Nat) (fr : Nat → Nat × Nat) (dp : Nat) : Prop := ∀ k, (∀ i, i < dp → P (fr i).1 0 = 3 → (fr i).1 ≠ k) → δ 4 k = nI 0
theorem stk_dp {n : Nat} {P : Nat → Nat → Nat} {fr : Nat → Nat × Nat} (hW : wfP n P) {d s : Nat} (h : stk n P fr d s) : d ≤ 5 := by
  cases d with
  | zero => omega
  | succ d =>
    obtain ⟨h1, h2, h3, -, -⟩ := h
    have e := stk_dep h1 h2
    have hk := stk_lt hW.1 h1 h2
    have := hW.2.2 _ hk (by rcases h3 with ⟨a, -⟩ | ⟨a, -⟩ | ⟨a, -⟩ <;> omega)
    omega
/-- the frames' statements are apart, and apart from the one at hand -/
theorem stk_mono {n : Nat} {P : Nat → Nat → Nat} {fr : Nat → Nat × Nat} (hO : okP n P) : ∀ {d s : Nat}, stk n P fr d s → ∀ i, i < d → (fr i).1 < s
  | 0, _, _, i, hi => by omega
  | d + 1, s, h, i, hi => by
    obtain ⟨h1, h2, h3, -, -⟩ := h
    have hk := stk_lt hO h1 h2
    have hs : (fr d).1 < s := by
      obtain ⟨-, -, -, -, -, o6, o5⟩ := hO.2 _ hk
      rcases h3 with ⟨a, b, c⟩ | ⟨a, b, c⟩ | ⟨a, b, c⟩
      · exact c
      · exact c
      · have := o5 a; omega
    by_cases e : i = d
    · subst e; exact hs
    · have := stk_mono hO h1 i (by omega)
      omega
theorem stk_agree {n : Nat} {P : Nat → Nat → Nat} {fr fr' : Nat → Nat × Nat} : ∀ {d s : Nat}, (∀ i, i < d → fr i = fr' i) → stk n P fr d s → stk n P fr' d s
  | 0, _, _, h => h
  | d + 1, s, e, h => by
    have e1 := e d (by omega)
    have ht : topB n fr d = topB n fr' d := by
      cases d with
      | zero => rfl
      | succ d => show (fr d).2 = (fr' d).2; rw [e d (by omega)]
    obtain ⟨h1, h2, h3, h4, h5⟩ := h
    show stk n P fr' d (fr' d).1 ∧ (fr' d).1 < topB n fr' d ∧ _
    rw [← e1, ← ht]
    exact ⟨stk_agree (fun i hi => e i (by omega)) h1, h2, h3, h4, h5⟩
theorem resP_agree {P : Nat → Nat → Nat} {fr fr' : Nat → Nat × Nat} : ∀ {d : Nat} (s : Nat), (∀ i, i < d → fr i = fr' i) → resP P fr d s = resP P fr' d s
  | 0, _, _ => rfl
  | d + 1, s, e => by
    show (if s = (fr d).2 then _ else s) = (if s = (fr' d).2 then _ else s)
    rw [← e d (by omega), resP_agree _ (fun i hi => e i (by omega))]
theorem topB_agree {n : Nat} {fr fr' : Nat → Nat × Nat} {d : Nat} (e : ∀ i, i < d → fr i = fr' i) : topB n fr d = topB n fr' d := by
  cases d with
  | zero => rfl
  | succ d => show (fr d).2 = (fr' d).2; rw [e d (by omega)]
def frp (fr : Nat → Nat × Nat) (d x u : Nat) : Nat → Nat × Nat := fun i => if i = d then (x, u) else fr i
theorem frp_s (fr : Nat → Nat × Nat) (d x u : Nat) : frp fr d x u d = (x, u) := if_pos rfl
theorem frp_a {fr : Nat → Nat × Nat} {d x u i : Nat} (h : i < d) : fr i = frp fr d x u i := (if_neg (by omega)).symm
theorem adC_inc {δ : xS} {t mk rd mo tl : Nat} (h5 : δ 5 0 = nI t) (h6 : δ 6 0 = nI mk) (h7 : δ 7 0 = nI rd) (h8 : δ 8 0 = nI mo) (h9 : δ 9 0 = nI tl) (ht : t < 400) (hb : mk ≤ t + 1 ∧ rd ≤ t + 1 ∧ mo ≤ t + 1 ∧ tl ≤ t + 1) (h4 : ∀ k, ∃ x, x ≤ t + 1 ∧ δ 4 k = nI x) : adC (ainc δ) (t + 1) mk rd mo tl := by
  refine ⟨?_, h6, h7, h8, h9, hb.1, hb.2.1, hb.2.2.1, hb.2.2.2, ht, h4⟩
  show δ 5 0 + nI 1 = _
  rw [h5, nI_add]
theorem simD_inc {μ : xS} {sd : Nat} {δ : xS} {t mk rd mo tl : Nat} (h : simD μ sd δ t mk rd mo tl) : simD (up2 μ 13 (6 * sd) (nI (t + 1))) sd δ (t + 1) mk rd mo tl := by
  obtain ⟨⟨a0, a1, a2, a3, a4, a5⟩, b, c, e⟩ := h
  refine ⟨⟨up2_ss _ _ _ _, ?_, ?_, ?_, ?_, ?_⟩, b, c, e⟩ <;> (rw [up2_sn _ _ _ (by omega)]; assumption)
theorem othS_up {μ0 μ : xS} {sd i j : Nat} {v : Int32} (h : othS μ0 μ sd) (hi : (i = 9 ∧ ∃ k, k < 6 ∧ j = 6 * sd + k) ∨ (i = 10 ∧ ∃ k, k < 40 ∧ j = 40 * sd + k) ∨ (i = 11 ∧ ∃ k, k < 40 ∧ j = 40 * sd + k) ∨ (i = 12 ∧ ∃ k, k < 240 ∧ j = 240 * sd + k) ∨ (i = 13 ∧ ∃ k, k < 6 ∧ j = 6 * sd + k) ∨ i = 14 ∨ i = 15 ∨ i = 16) : othS μ0 (up2 μ i j v) sd := by
  obtain ⟨h1, h2⟩ := h
  refine ⟨fun w hw => ?_, fun od ho hn => ?_⟩
  · rw [up2_n _ _ _ (by rcases hi with ⟨a, -⟩ | ⟨a, -⟩ | ⟨a, -⟩ | ⟨a, -⟩ | ⟨a, -⟩ | a | a | a <;> omega)]
    exact h1 w hw
  · obtain ⟨g1, g2, g3, g4, g5⟩ := h2 od ho hn
    refine ⟨fun k hk => ?_, fun k hk => ?_, fun k hk => ?_, fun k hk => ?_, fun k hk => ?_⟩
    · rw [up2_a, ← g1 k hk]
      by_cases e : 9 = i
      · subst e
        rw [if_pos rfl, if_neg]
        rcases hi with ⟨a, q, q1, q2⟩ | ⟨a, -⟩ | ⟨a, -⟩ | ⟨a, -⟩ | ⟨a, -⟩ | a | a | a <;> omega
      · rw [if_neg e]
    · rw [up2_a, ← g2 k hk]
      by_cases e : 10 = i
      · subst e
        rw [if_pos rfl, if_neg]
        rcases hi with ⟨a, -⟩ | ⟨a, q, q1, q2⟩ | ⟨a, -⟩ | ⟨a, -⟩ | ⟨a, -⟩ | a | a | a <;> omega
      · rw [if_neg e]
    · rw [up2_a, ← g3 k hk]
      by_cases e : 11 = i
      · subst e
        rw [if_pos rfl, if_neg]
        rcases hi with ⟨a, -⟩ | ⟨a, -⟩ | ⟨a, q, q1, q2⟩ | ⟨a, -⟩ | ⟨a, -⟩ | a | a | a <;> omega
      · rw [if_neg e]
    · rw [up2_a, ← g4 k hk]
      by_cases e : 12 = i
      · subst e
        rw [if_pos rfl, if_neg]
        rcases hi with ⟨a, -⟩ | ⟨a, -⟩ | ⟨a, -⟩ | ⟨a, q, q1, q2⟩ | ⟨a, -⟩ | a | a | a <;> omega
      · rw [if_neg e]
    · rw [up2_a, ← g5 k hk]
      by_cases e : 13 = i
      · subst e
        rw [if_pos rfl, if_neg]
        rcases hi with ⟨a, -⟩ | ⟨a, -⟩ | ⟨a, -⟩ | ⟨a, -⟩ | ⟨a, q, q1, q2⟩ | a | a | a <;> omega
      · rw [if_neg e]
theorem othS_fo {μ0 μ : xS} {sd k c : Nat} {g : Nat → Int32} (h : othS μ0 μ sd) (hk : k < 40) (hc : c ≤ 6) : othS μ0 (ur μ 12 (fo g (μ 12) (240 * sd + 6 * k) c)) sd := by
  obtain ⟨h1, h2⟩ := h
  refine ⟨fun w hw => ?_, fun od ho hn => ?_⟩
  · rw [ur_n _ _ (by omega)]
    exact h1 w hw
  · obtain ⟨g1, g2, g3, g4, g5⟩ := h2 od ho hn
    refine ⟨g1, g2, g3, fun i hi => ?_, g5⟩
    rw [ur_s, fo_out (by omega)]
    exact g4 i hi
