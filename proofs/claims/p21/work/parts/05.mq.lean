/-! READING statements -/
def seR (c op u v : Nat) : Nat → Nat := fun w => if w = 1 then c else if w = 2 then op else if w = 3 then u else if w = 4 then v else 0
abbrev opc (c : Int32) : Prop := c = nI 43 ∨ c = nI 45 ∨ c = nI 42
abbrev rec3 : Type := Bool × Nat × (Nat → Nat)
def sE5 (t : Nat → Int32) (n a : Nat) (z : Nat → Nat) : rec3 := (decide (hr t n a = nI 59), pas t n a (nI 59), z)
def sE4 (t : Nat → Int32) (n a c u : Nat) : rec3 := if opc (hr t n a) then (if (teF t n (skp t n a + 1)).1 = true then sE5 t n (teF t n (skp t n a + 1)).2.1 (seR c (ix (hr t n a)) u (teF t n (skp t n a + 1)).2.2) else (false, (teF t n (skp t n a + 1)).2.1, fun _ => 0)) else sE5 t n (skp t n a) (seR c 0 u 0)
def sE3 (t : Nat → Int32) (n a c : Nat) : rec3 := if (teF t n a).1 = true then sE4 t n (teF t n a).2.1 c (teF t n a).2.2 else (false, (teF t n a).2.1, fun _ => 0)
def sE2 (t : Nat → Int32) (n a c : Nat) : rec3 := if hr t n a = nI 61 then sE3 t n (pas t n a (nI 61)) c else (false, pas t n a (nI 61), fun _ => 0)
def seF (t : Nat → Int32) (n a : Nat) : rec3 := if (ceF t n a).1 = true then sE2 t n (ceF t n a).2.1 (ceF t n a).2.2 else (false, (ceF t n a).2.1, fun _ => 0)
def pset (P : Nat → Nat → Nat) (s : Nat) (z : Nat → Nat) : Nat → Nat → Nat := fun j u => if j = s ∧ 0 < u then z u else P j u
def sam (μ ν : xS) : Prop := ∀ w, w ≠ 5 → w ≠ 6 → ν w = μ w
theorem sam.u6 {μ ν : xS} {j : Nat} {v : Int32} (h : sam μ ν) : sam μ (up2 ν 6 j v) := fun w h5 h6 => by rw [up2_n _ _ _ h6]; exact h w h5 h6
theorem sam.u5 {μ ν : xS} {j : Nat} {v : Int32} (h : sam μ ν) : sam μ (up2 ν 5 j v) := fun w h5 h6 => by rw [up2_n _ _ _ h5]; exact h w h5 h6
theorem sam.tr {μ ν κ : xS} (h : sam μ ν) (h2 : ∀ w, w ≠ 5 → w ≠ 6 → κ w = ν w) : sam μ κ := fun w h5 h6 => (h2 w h5 h6).trans (h w h5 h6)
theorem pst.u5 {μ : xS} {n a j : Nat} {v : Int32} (h : pst μ n a) : pst (up2 μ 5 j v) n a := ⟨by rw [up2_n _ _ _ (by omega)]; exact h.1, by rw [up2_n _ _ _ (by omega)]; exact h.2.1, h.2.2⟩
theorem nz (k : Nat) (h : 0 < k) (h2 : k < 2 ^ 31) : ¬ nI k = nI 0 := fun e => by
  have h3 := nt k h2
  have h4 := nt 0 (by omega)
  rw [e, h4] at h3
  omega
theorem opc_n {c : Int32} (h : opc c) : c = nI (ix c) ∧ ¬ c = nI 0 := by
  rcases h with rfl | rfl | rfl
  · rw [ix_n (by omega)]; exact ⟨rfl, nz 43 (by omega) (by omega)⟩
  · rw [ix_n (by omega)]; exact ⟨rfl, nz 45 (by omega) (by omega)⟩
  · rw [ix_n (by omega)]; exact ⟨rfl, nz 42 (by omega) (by omega)⟩
theorem skp_pst {μ : xS} {n a : Nat} (h : pst μ n a) : pst (up2 μ 6 0 (nI (skp (μ 3) n a))) n (skp (μ 3) n a) := h.at (skp_le h.2.2.1)
theorem pg1 {row : Nat → Int32} {k s c : Nat} {P : Nat → Nat → Nat} (hP : isPg row k P) : isPg (upd row (1 + 7 * s + 1) (nI c)) k (fun j u => if j = s ∧ u = 1 then c else P j u) := hP.up (by omega)
theorem row2 {row : Nat → Int32} {k s c v : Nat} {P : Nat → Nat → Nat} (hz : ∀ w, 0 < w → w < 7 → P s w = 0) (h : isPg row k (fun j u => if j = s ∧ u = 3 then v else (if j = s ∧ u = 1 then c else P j u))) : isPg row k (pset P s (seR c 0 v 0)) := by
  refine h.congr (fun j w hj hw => ?_)
  unfold pset seR
  by_cases e : j = s
  · subst e
    by_cases w0 : w = 0
    · subst w0; simp
    · have hz0 := hz w (by omega) hw
      by_cases w1 : w = 1
      · subst w1; simp
      · by_cases w3 : w = 3
        · subst w3; simp
        · have e0 : 0 < w := by omega
          simp only [w1, w3, e0, hz0, and_true, and_false, if_true, if_false, if_pos]
          simp
  · simp only [e, false_and, if_false]
theorem row4 {row : Nat → Int32} {k s c v u o : Nat} {P : Nat → Nat → Nat} (hz : ∀ w, 0 < w → w < 7 → P s w = 0) (h : isPg row k (fun j w => if j = s ∧ w = 4 then u else (if j = s ∧ w = 2 then o else (if j = s ∧ w = 3 then v else (if j = s ∧ w = 1 then c else P j w))))) : isPg row k (pset P s (seR c o v u)) := by
  refine h.congr (fun j w hj hw => ?_)
  unfold pset seR
  by_cases e : j = s
  · subst e
    by_cases w0 : w = 0
    · subst w0; simp
    · have hz0 := hz w (by omega) hw
      have e0 : 0 < w := by omega
      by_cases w1 : w = 1
      · subst w1; simp
      · by_cases w3 : w = 3
        · subst w3; simp
        · by_cases w2 : w = 2
          · subst w2; simp
          · by_cases w4 : w = 4
            · subst w4; simp
            · simp only [w1, w2, w3, w4, e0, hz0, and_true, and_false, if_false]
              simp
  · simp only [e, false_and, if_false]
def kdI (c : Int32) : Int32 := if isL c then nI 0 else if c = nI 33 then nI 1 else if c = nI 35 then nI 2 else if c = nI 91 then nI 3 else if c = nI 63 then nI 4 else (-1)