def d0 (a b : Int32) : xS := fun i j => if i = 1 then (if j = 0 then a else if j = 1 then b else nI 0) else nI 0
def runD (n : Nat) (P : Nat → Nat → Nat) (a b : Int32) : Nat × xS := arun n P 400 0 (d0 a b)
/-- side sd's rows say what the run that ended at e with δ did -/
def simF (μ : xS) (sd n e : Nat) (δ : xS) : Prop := ∃ t mk rd mo tl μ1, adC δ t mk rd mo tl ∧ simD μ1 sd δ t mk rd mo tl ∧ μ = if e < n then up2 μ1 13 (6 * sd + 1) (nI 1) else μ1
theorem arun_end {n : Nat} {P : Nat → Nat → Nat} {g s : Nat} {δ : xS} (h : ¬ s < n) : arun n P g s δ = (s, δ) := by
  cases g with
  | zero => rfl
  | succ g => exact if_neg h
theorem arun_step {n : Nat} {P : Nat → Nat → Nat} {t s : Nat} {δ : xS} (ht : t < 400) (h : s < n) : arun n P (400 - t) s δ = arun n P (400 - (t + 1)) (anext P s δ) (ainc (adata P s δ)) := by
  have e : 400 - t = (400 - (t + 1)) + 1 := by omega
  rw [e]
  exact if_pos h
def gini (a b : Int32) : Nat → Int32 := fun j => if j = 0 then a else if j = 1 then b else nI 0
def minit (μ : xS) (sd : Nat) (a b : Int32) (k : Nat) : xS := ur (ur μ 13 (fo (fun _ => nI 0) (μ 13) (6 * sd) k)) 9 (fo (gini a b) (μ 9) (6 * sd) k)
theorem minit_0 (μ : xS) (sd : Nat) (a b : Int32) : minit μ sd a b 0 = μ := by
  unfold minit
  rw [ur_fo0]
  exact ur_fo0
theorem minit_s {μ : xS} {sd k : Nat} {a b v : Int32} (hv : v = gini a b k) : up2 (up2 (minit μ sd a b k) 13 (6 * sd + k) (nI 0)) 9 (6 * sd + k) v = minit μ sd a b (k + 1) := by
  unfold minit
  rw [← ur_fo (v := v) hv]
  rw [← ur_fo (g := fun _ => nI 0) (v := nI 0) rfl]
  funext x z
  simp only [up2_a, ur_a]
  by_cases h9 : x = 9
  · subst h9
    simp (disch := omega) only [if_pos, if_neg]
  · by_cases h13 : x = 13
    · subst h13
      simp (disch := omega) only [if_pos, if_neg]
    · simp (disch := omega) only [if_neg]
theorem minit_sim (μ : xS) (sd : Nat) (a b : Int32) : simD (minit μ sd a b 6) sd (d0 a b) 0 0 0 0 0 := by
  have h13 : ∀ i, i < 6 → minit μ sd a b 6 13 (6 * sd + i) = nI 0 := fun i hi => by
    unfold minit
    rw [ur_n _ _ (by omega), ur_s, fo_in (by omega) (by omega)]
  refine ⟨⟨h13 0 (by omega), h13 1 (by omega), h13 2 (by omega), h13 3 (by omega), h13 4 (by omega), h13 5 (by omega)⟩, fun i hi => ?_, fun i hi => by omega, fun i hi => by omega⟩
  unfold minit
  rw [ur_s, fo_in (by omega) (by omega), Nat.add_sub_cancel_left]
  rfl
theorem minit_oth (μ : xS) (sd : Nat) (a b : Int32) : othS μ (minit μ sd a b 6) sd := by
  have hw : ∀ w, w ≠ 9 → w ≠ 13 → minit μ sd a b 6 w = μ w := fun w h9 h13 => by
    unfold minit
    rw [ur_n _ _ h9, ur_n _ _ h13]
  refine ⟨fun w h => hw w (by omega) (by omega), fun od ho hn => ⟨fun i hi => ?_, fun i hi => by rw [hw _ (by omega) (by omega)], fun i hi => by rw [hw _ (by omega) (by omega)], fun i hi => by rw [hw _ (by omega) (by omega)], fun i hi => ?_⟩⟩
  · unfold minit
    rw [ur_s, fo_out (by omega)]
  · unfold minit
    rw [ur_n _ _ (by omega), ur_s, fo_out (by omega)]
theorem minit_RI {n sd : Nat} {P : Nat → Nat → Nat} (μ : xS) (a b : Int32) : RIx n P μ sd (fun _ => (0, 0)) 0 0 0 0 (d0 a b) 0 0 0 0 0 (minit μ sd a b 6) := by
  refine ⟨⟨rfl, rfl, rfl, rfl, rfl, by omega, by omega, by omega, by omega, by omega, fun k => ⟨0, by omega, rfl⟩⟩, minit_sim μ sd a b, minit_oth μ sd a b, fun i hi => by omega, fun k _ => rfl, fun _ => ⟨⟨Nat.zero_le _, fun _ => rfl⟩, rfl⟩, fun e => by omega⟩
/-- where neither a frame's part nor the program ends -/
theorem RI_lt {n : Nat} {P : Nat → Nat → Nat} {μ0 μ δ : xS} {sd : Nat} {fr : Nat → Nat × Nat} {dp s at_ t mk rd mo tl : Nat} (hO : okP n P) (h : RIx n P μ0 sd fr dp s 0 at_ δ t mk rd mo tl μ) (hp : ∀ d, dp = d + 1 → s ≠ (fr d).2) : (s ≠ n → s < topB n fr dp) ∧ (s = n → at_ = n) := by
  obtain ⟨-, -, -, -, -, hA, -⟩ := h
  obtain ⟨hst, hat⟩ := hA rfl
  have hle := stk_le hO hst
  cases dp with
  | zero =>
    refine ⟨fun hn => ?_, fun hn => ?_⟩
    · have h1 : s ≤ n := hle.1
      show s < n
      omega
    · rw [hat, hn]; rfl
  | succ d =>
    have h1 : s ≤ (fr d).2 := hle.1
    have h2 : (fr d).2 ≤ n := hle.2
    have h3 := hp d rfl
    refine ⟨fun _ => ?_, fun hn => ?_⟩
    · show s < (fr d).2
      omega
    · omega
theorem me_s {t dp dq ag N : Nat} (hN : (400 - t) * 16 + 2 * dp + (1 - ag) < N + 1) (ht : t < 400) (hd : dq ≤ dp + 1) : (400 - (t + 1)) * 16 + 2 * dq + (1 - 0) < N := by omega