/-! idle and cut of the reference -/
theorem fin_eq2 {μ ν : xS} {sd n : Nat} {A : Nat × xS} {t mk rd mo tl : Nat} (h : ∀ w, 9 ≤ w → w ≤ 13 → ν w = μ w) (hf : finN μ sd n A t mk rd mo tl) : finN ν sd n A t mk rd mo tl := by
  obtain ⟨hC, hm, mc, mt, mm⟩ := hf
  refine ⟨hC, ?_, fun i hi => ?_, fun i h1 h2 => ?_, fun i h1 h2 => ⟨?_, fun c hc => ?_⟩⟩
  · rw [h 13 (by omega) (by omega)]; exact hm
  · rw [h 9 (by omega) (by omega)]; exact mc i hi
  · rw [h 10 (by omega) (by omega)]; exact mt i h1 h2
  · rw [h 11 (by omega) (by omega)]; exact (mm i h1 h2).1
  · rw [h 12 (by omega) (by omega)]; exact (mm i h1 h2).2 c hc
theorem isPg.of0 {μ ν : xS} {p n : Nat} {P : Nat → Nat → Nat} (h0 : ν 0 = μ 0) (hn : n ≤ 60) (hP : isPg (mtake μ p 5) n P) : isPg (mtake ν p 5) n P := by
  refine ⟨?_, fun s w hs hw => ?_⟩
  · have := hP.1
    rw [mtk_a, if_pos rfl, if_pos (by omega)] at this ⊢
    rw [h0]; exact this
  · have := hP.2 s w hs hw
    rw [mtk_a, if_pos rfl, if_pos (by omega)] at this ⊢
    rw [h0]; exact this
theorem msave_w {μ : xS} {sv w : Nat} (h1 : w ≠ 1) (h2 : w ≠ 2) : msave μ sv w = μ w := by
  unfold msave mput1 mshift
  split
  · rw [up2_n _ _ _ h2, ur_n _ _ h1, up2_n _ _ _ h2, ur_n _ _ h1]
  · rw [up2_n _ _ _ h2, ur_n _ _ h1]
theorem frm_up {μ ν : xS} {w j : Nat} {v : Int32} (h : frm μ ν) (hw : 4 < w) : frm μ (up2 ν w j v) := fun u hu => by
  rw [up2_n _ _ _ (by omega)]; exact h u hu
theorem kp_17 {κ : xS} {n k i : Nat} {P : Nat → Nat → Nat} {v : Int32} (h : kpS κ n P k) : kpS (up2 κ 17 (40 * k + i) v) n P k := fun q hq => by
  obtain ⟨h1, h2, h3⟩ := h q hq
  refine ⟨?_, ?_, fun j hj hj2 => ?_⟩
  · rw [up2_n _ _ _ (by omega)]; exact h1
  · rw [up2_n _ _ _ (by omega)]; exact h2
  · rw [up2_sn _ _ _ (by omega)]; exact h3 j hj hj2
theorem kp_89 {κ : xS} {n k : Nat} {P : Nat → Nat → Nat} {v u : Int32} (h : kpS κ n P k) : kpS (up2 (up2 κ 18 k v) 19 k u) n P k := fun q hq => by
  obtain ⟨h1, h2, h3⟩ := h q hq
  refine ⟨?_, ?_, fun j hj hj2 => ?_⟩
  · rw [up2_n _ _ _ (by omega), up2_sn _ _ _ (by omega)]; exact h1
  · rw [up2_sn _ _ _ (by omega), up2_n _ _ _ (by omega)]; exact h2
  · rw [up2_n _ _ _ (by omega), up2_n _ _ _ (by omega)]; exact h3 j hj hj2
def kIn (μ κ : xS) (pn n : Nat) (P : Nat → Nat → Nat) (k i : Nat) (A : Nat × xS) (t mk rd mo tl : Nat) : Prop := frm μ κ ∧ kpS κ n P k ∧ κ 18 k = nI tl ∧ κ 19 k = cutD n A ∧ finN κ pn n A t mk rd mo tl ∧ ∀ j, j < i → κ 17 (40 * k + j) = A.2 0 j
theorem kIn_s {μ κ : xS} {pn n : Nat} {P : Nat → Nat → Nat} {k i : Nat} {A : Nat × xS} {t mk rd mo tl : Nat} {v : Int32} (h : kIn μ κ pn n P k i A t mk rd mo tl) (hv : v = A.2 0 i) : kIn μ (up2 κ 17 (40 * k + i) v) pn n P k (i + 1) A t mk rd mo tl := by
  obtain ⟨h1, h2, h3, h4, h5, h6⟩ := h
  refine ⟨frm_up h1 (by omega), kp_17 h2, ?_, ?_, fin_eq2 (fun w hw hw2 => up2_n _ _ _ (by omega)) h5, fun j hj => ?_⟩
  · rw [up2_n _ _ _ (by omega)]; exact h3
  · rw [up2_n _ _ _ (by omega)]; exact h4
  · by_cases e : j = i
    · subst e; rw [up2_ss]; exact hv
    · rw [up2_sn _ _ _ (by omega)]; exact h6 j (by omega)
theorem kIn_0 {μ κ : xS} {pn n : Nat} {P : Nat → Nat → Nat} {k : Nat} {A : Nat × xS} {t mk rd mo tl : Nat} (h1 : frm μ κ) (h2 : kpS κ n P k) (h5 : finN κ pn n A t mk rd mo tl) : kIn μ (up2 (up2 κ 18 k (nI tl)) 19 k (cutD n A)) pn n P k 0 A t mk rd mo tl := by
  refine ⟨frm_up (frm_up h1 (by omega)) (by omega), kp_89 h2, ?_, ?_, fin_eq2 (fun w hw hw2 => by rw [up2_n _ _ _ (by omega), up2_n _ _ _ (by omega)]) h5, fun j hj => by omega⟩
  · rw [up2_n _ _ _ (by omega), up2_ss]
  · rw [up2_ss]
theorem kIn_e {μ κ : xS} {pn n : Nat} {P : Nat → Nat → Nat} {k i t mk rd mo tl : Nat} (h : kIn μ κ pn n P k i (runD n P (nI (k / 4)) (nI (k % 4))) t mk rd mo tl) (hi : i = if 40 < tl then 40 else tl) : kpS κ n P (k + 1) := fun q hq => by
  obtain ⟨h1, h2, h3, h4, h5, h6⟩ := h
  by_cases e : q = k
  · subst e
    have c9 := h5.1.2.2.2.2.1
    have e9 := (fin_mk h5).2.1
    refine ⟨h3.trans c9.symm, h4, fun j hj hj2 => h6 j ?_⟩
    rw [e9] at hj2
    rw [hi]
    split <;> omega
  · exact h2 q (by omega)
def idF (n : Nat) (P : Nat → Nat → Nat) : Nat → Nat → Int32
  | 0, _ => (-10009)
  | g + 1, s => if idl n P s then nI s else idF n P g (s + 1)
def idV (n : Nat) (P : Nat → Nat → Nat) : Int32 := idF n P n 0
theorem idF_t {n s : Nat} {P : Nat → Nat → Nat} (hs : s < n) (h : idl n P s) : idF n P (n - s) s = nI s := by
  have e : n - s = (n - (s + 1)) + 1 := by omega
  rw [e]
  exact if_pos h
theorem idF_f {n s : Nat} {P : Nat → Nat → Nat} (hs : s < n) (h : ¬ idl n P s) : idF n P (n - s) s = idF n P (n - (s + 1)) (s + 1) := by
  have e : n - s = (n - (s + 1)) + 1 := by omega
  rw [e]
  exact if_neg h
abbrev iE (n n' : Nat) (A B : Nat × xS) (i : Nat) : Prop := B.2 9 0 = A.2 9 0 ∧ cutD n' B = cutD n A ∧ ∀ j, j < i → A.2 0 j = B.2 0 j
theorem iE_s {n n' : Nat} {A B : Nat × xS} {i : Nat} : iE n n' A B (i + 1) ↔ iE n n' A B i ∧ A.2 0 i = B.2 0 i := ⟨fun h => ⟨⟨h.1, h.2.1, (all_s.mp h.2.2).1⟩, (all_s.mp h.2.2).2⟩, fun h => ⟨h.1.1, h.1.2.1, all_s.mpr ⟨h.1.2.2, h.2⟩⟩⟩
theorem iE_smo {n n' : Nat} {A B : Nat × xS} {tl : Nat} (h : ix (A.2 9 0) = tl) : iE n n' A B (if 40 < tl then 40 else tl) ↔ smo n A n' B := ⟨fun q => ⟨q.1, q.2.1, fun i h1 h2 => q.2.2 i (by rw [h] at h2; split <;> omega)⟩, fun q => ⟨q.1, q.2.1, fun i hi => q.2.2 i (by split at hi <;> omega) (by rw [h]; split at hi <;> omega)⟩⟩
theorem iE_no {n n' : Nat} {A B : Nat × xS} {tl i : Nat} (h : ix (A.2 9 0) = tl) (hi : i ≤ (if 40 < tl then 40 else tl)) (q : ¬ iE n n' A B i) : ¬ smo n A n' B := fun s => q (by
  have := (iE_smo h).mpr s
  exact ⟨this.1, this.2.1, fun j hj => this.2.2 j (by omega)⟩)
abbrev idk (n : Nat) (P : Nat → Nat → Nat) (s K : Nat) : Prop := ∀ k, k < K → smo n (runD n P (nI (k / 4)) (nI (k % 4))) (n - psz P s) (runD (n - psz P s) (pcut P s) (nI (k / 4)) (nI (k % 4)))
theorem oth_kp {μ ν : xS} {sd n : Nat} {P : Nat → Nat → Nat} {K : Nat} (h : othS μ ν sd) (hk : kpS μ n P K) : kpS ν n P K := hk.cg (fun w hw => h.1 w (Or.inr hw))
theorem adD (n : Nat) (P : Nat → Nat → Nat) (a b : Int32) : ∃ q, (runD n P a b).2 9 0 = nI q ∧ q ≤ 400 := by
  have key : ∀ g s (δ : xS) (q : Nat), δ 9 0 = nI q → ∃ q', (arun n P g s δ).2 9 0 = nI q' ∧ q' ≤ q + g := by
    intro g
    induction g with
    | zero => intro s δ q h; exact ⟨q, h, Nat.le_refl _⟩
    | succ g ih =>
      intro s δ q h
      unfold arun
      split
      · have h9 : ∃ q', ainc (adata P s δ) 9 0 = nI q' ∧ q' ≤ q + 1 := by
          unfold ainc
          rw [up2_n _ _ _ (by omega)]
          unfold adata
          split
          · unfold aset; rw [up2_n _ _ _ (by omega)]; exact ⟨q, h, by omega⟩
          · split
            · unfold atell; rw [up2_ss, h]; exact ⟨q + 1, nI_add q 1, by omega⟩
            · split
              · unfold amark
                rw [up2_n _ _ _ (by omega)]
                split
                · rw [ur_n _ _ (by omega), up2_n _ _ _ (by omega)]; exact ⟨q, h, by omega⟩
                · exact ⟨q, h, by omega⟩
              · split
                · split
                  · unfold alook; rw [up2_n _ _ _ (by omega), up2_n _ _ _ (by omega), up2_n _ _ _ (by omega)]; exact ⟨q, h, by omega⟩
                  · rw [up2_n _ _ _ (by omega)]; exact ⟨q, h, by omega⟩
                · exact ⟨q, h, by omega⟩
        obtain ⟨q1, h1, h2⟩ := h9
        obtain ⟨q2, h3, h4⟩ := ih _ _ q1 h1
        exact ⟨q2, h3, by omega⟩
      · exact ⟨q, h, by omega⟩
  obtain ⟨q, h1, h2⟩ := key 400 0 (d0 a b) 0 rfl
  exact ⟨q, h1, by omega⟩