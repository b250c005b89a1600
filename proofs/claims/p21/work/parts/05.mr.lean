/-! READING statements, the loop over the text -/
def ti (k : Nat) (w : Nat) : Nat := if w = 0 then k else 0
def tc (k c : Nat) (w : Nat) : Nat := if w = 0 then k else if w = 1 then c else 0
def stF (t : Nat → Int32) (n q kd : Nat) : rec3 := if kd = 0 then seF t n q else if kd = 2 then (decide (hr t n (q + 1) = nI 59), pas t n (q + 1) (nI 59), ti 2) else if (ceF t n (q + 1)).1 = true then (if kd = 1 then (decide (hr t n (ceF t n (q + 1)).2.1 = nI 59), pas t n (ceF t n (q + 1)).2.1 (nI 59), tc 1 (ceF t n (q + 1)).2.2) else (true, (ceF t n (q + 1)).2.1, tc kd (ceF t n (q + 1)).2.2)) else (false, (ceF t n (q + 1)).2.1, fun _ => 0)
abbrev ful (k kd dp : Nat) : Prop := k = 60 ∨ (3 ≤ kd ∧ dp = 5)
def stG (t : Nat → Int32) (n q kd k dp : Nat) : rec3 := if ful k kd dp then (false, q, fun _ => 0) else stF t n q kd
def padd (P : Nat → Nat → Nat) (k : Nat) (z : Nat → Nat) : Nat → Nat → Nat := fun j u => if j = k then z u else P j u
def sam8 (μ ν : xS) : Prop := ∀ w, w ≠ 5 → w ≠ 6 → w ≠ 7 → w ≠ 8 → ν w = μ w
theorem sam.to8 {μ ν : xS} (h : sam μ ν) : sam8 μ ν := fun w h5 h6 _ _ => h w h5 h6
/-- k statements, the one behind them with w fields cleared -/
def pz (P : Nat → Nat → Nat) (k w : Nat) : Nat → Nat → Nat := fun j u => if j = k ∧ u < w then 0 else P j u
theorem isPg.cn {row : Nat → Int32} {k : Nat} {P : Nat → Nat → Nat} (h : isPg row k P) (k' : Nat) (hk : k' ≤ k) : isPg (upd row 0 (nI k')) k' P := by
  refine ⟨by simp [upd], fun s w hs hw => ?_⟩
  have : upd row 0 (nI k') (1 + 7 * s + w) = row (1 + 7 * s + w) := by unfold upd; exact if_neg (by omega)
  rw [this]
  exact h.2 s w (by omega) hw
/-- a row whose first k statements are P's, and of the next the first w fields 0 -/
def half (row : Nat → Int32) (k w : Nat) (P : Nat → Nat → Nat) : Prop := row 0 = nI (k + 1) ∧ (∀ s u, s < k → u < 7 → row (1 + 7 * s + u) = nI (P s u)) ∧ ∀ u, u < w → row (1 + 7 * k + u) = nI 0
theorem half_0 {row : Nat → Int32} {k : Nat} {P : Nat → Nat → Nat} (h : isPg row k P) : half (upd row 0 (nI (k + 1))) k 0 P := by
  refine ⟨by simp [upd], fun s u hs hu => ?_, fun u hu => by omega⟩
  have : upd row 0 (nI (k + 1)) (1 + 7 * s + u) = row (1 + 7 * s + u) := by unfold upd; exact if_neg (by omega)
  rw [this]
  exact h.2 s u hs hu
theorem half_s {row : Nat → Int32} {k w : Nat} {P : Nat → Nat → Nat} (h : half row k w P) (hw : w < 7) : half (upd row (1 + 7 * k + w) (nI 0)) k (w + 1) P := by
  obtain ⟨h1, h2, h3⟩ := h
  refine ⟨?_, fun s u hs hu => ?_, fun u hu => ?_⟩
  · unfold upd; rw [if_neg (by omega)]; exact h1
  · unfold upd; rw [if_neg (by omega)]; exact h2 s u hs hu
  · unfold upd
    by_cases e : u = w
    · subst e; exact if_pos rfl
    · rw [if_neg (by omega)]; exact h3 u (by omega)
theorem half_e {row : Nat → Int32} {k : Nat} {P : Nat → Nat → Nat} (h : half row k 7 P) : isPg row (k + 1) (padd P k (fun _ => 0)) := by
  obtain ⟨h1, h2, h3⟩ := h
  refine ⟨h1, fun s w hs hw => ?_⟩
  unfold padd
  by_cases e : s = k
  · subst e; rw [if_pos rfl]; exact h3 w hw
  · rw [if_neg e]; exact h2 s w (by omega) hw
def stPost (μ ν : xS) (kd k dp : Nat) : Prop := if 3 ≤ kd then (ν 7 = upd (μ 7) dp (nI k) ∧ ν 8 = upd (μ 8) dp (nI (if kd = 3 then 93 else 58))) else (ν 7 = μ 7 ∧ ν 8 = μ 8)
theorem stPost_lt {μ ν : xS} {kd k dp : Nat} (h : kd < 3) (hs : sam μ ν) : stPost μ ν kd k dp := by
  unfold stPost
  rw [if_neg (by omega)]
  exact ⟨hs 7 (by omega) (by omega), hs 8 (by omega) (by omega)⟩
theorem up2_56 {ν : xS} {a b : Nat} {v u : Int32} : up2 (up2 ν 5 a v) 6 b u = up2 (up2 ν 6 b u) 5 a v := by
  funext i j
  by_cases h5 : i = 5
  · subst h5; simp [up2_a]
  · by_cases h6 : i = 6
    · subst h6; simp [up2_a]
    · simp [up2_a, h5, h6]
theorem tc_up {P : Nat → Nat → Nat} {k c kd j w : Nat} : (if j = k ∧ w = 1 then c else padd P k (ti kd) j w) = padd P k (tc kd c) j w := by
  unfold padd ti tc
  by_cases e : j = k
  · subst e
    by_cases w0 : w = 0
    · subst w0; simp
    · by_cases w1 : w = 1
      · subst w1; simp
      · simp [w0, w1]
  · simp [e]
theorem seF_0 (t : Nat → Int32) (n a : Nat) : (seF t n a).2.2 0 = 0 := by
  unfold seF sE2 sE3 sE4 sE5
  repeat' split
  all_goals rfl
theorem seq0 {t : Nat → Int32} {n q k : Nat} {P : Nat → Nat → Nat} {j : Nat} (w : Nat) : pset (padd P k (ti 0)) k (seF t n q).2.2 j w = padd P k (seF t n q).2.2 j w := by
  unfold pset padd ti
  by_cases e : j = k
  · subst e
    by_cases w0 : w = 0
    · subst w0; simp [seF_0]
    · have : 0 < w := by omega
      simp [this]
  · simp [e]