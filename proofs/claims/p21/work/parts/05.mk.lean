/-! the reference's questions about runs -/
def frm (μ ν : xS) : Prop := ∀ w, w ≤ 4 → ν w = μ w
theorem frm.rfl {μ : xS} : frm μ μ := fun _ _ => Eq.refl _
theorem frm.tr {μ ν κ : xS} (h : frm μ ν) (h2 : frm ν κ) : frm μ κ := fun w hw => (h2 w hw).trans (h w hw)
theorem mtk_a {μ : xS} {p w j : Nat} : mtake μ p w j = if w = 5 then (if j < 421 then μ 0 (421 * p + j) else μ 5 j) else μ w j := by
  unfold mtake
  rw [ur_a]
  by_cases h : w = 5
  · rw [if_pos h, if_pos h, fo_a]
    simp only [Nat.zero_le, true_and, Nat.zero_add, Nat.sub_zero]
  · rw [if_neg h, if_neg h]
theorem mtk_r {μ : xS} {p w : Nat} (h : w ≠ 5) : mtake μ p w = μ w := by
  funext j
  rw [mtk_a, if_neg h]
theorem frm_tk {μ : xS} {p : Nat} : frm μ (mtake μ p) := fun w hw => mtk_r (by omega)
theorem frm_oth {μ ν : xS} {sd : Nat} (h : othS μ ν sd) : frm μ ν := fun w hw => h.1 w (by omega)
theorem isPg.ofr {μ ν : xS} {p n : Nat} {P : Nat → Nat → Nat} (h : frm μ ν) (hn : n ≤ 60) (hP : isPg (mtake μ p 5) n P) : isPg (mtake ν p 5) n P := by
  have h0 := h 0 (by omega)
  refine ⟨?_, fun s w hs hw => ?_⟩
  · have := hP.1
    rw [mtk_a, if_pos rfl, if_pos (by omega)] at this ⊢
    rw [h0]; exact this
  · have := hP.2 s w hs hw
    rw [mtk_a, if_pos rfl, if_pos (by omega)] at this ⊢
    rw [h0]; exact this
def cutD (n : Nat) (A : Nat × xS) : Int32 := if A.1 < n then nI 1 else nI 0
def finN (μ : xS) (sd n : Nat) (A : Nat × xS) (t mk rd mo tl : Nat) : Prop := adC A.2 t mk rd mo tl ∧ (μ 13 (6 * sd) = nI t ∧ μ 13 (6 * sd + 1) = cutD n A ∧ μ 13 (6 * sd + 2) = nI tl ∧ μ 13 (6 * sd + 3) = nI mk ∧ μ 13 (6 * sd + 4) = nI rd ∧ μ 13 (6 * sd + 5) = nI mo) ∧ (∀ i, i < 6 → μ 9 (6 * sd + i) = A.2 1 i) ∧ (∀ i, i < tl → i < 40 → μ 10 (40 * sd + i) = A.2 0 i) ∧ ∀ i, i < mk → i < 40 → μ 11 (40 * sd + i) = A.2 3 i ∧ ∀ c, c < 6 → μ 12 (240 * sd + 6 * i + c) = A.2 2 (6 * i + c)
theorem fin_of {μ δ : xS} {sd n e : Nat} (h : simF μ sd n e δ) : ∃ t mk rd mo tl, finN μ sd n (e, δ) t mk rd mo tl := by
  obtain ⟨t, mk, rd, mo, tl, μ1, hC, ⟨⟨m0, m1, m2, m3, m4, m5⟩, mc, mt, mm⟩, rfl⟩ := h
  refine ⟨t, mk, rd, mo, tl, hC, ?_⟩
  unfold cutD
  by_cases he : e < n
  · simp only [if_pos he]
    refine ⟨⟨?_, ?_, ?_, ?_, ?_, ?_⟩, fun i hi => ?_, fun i h1 h2 => ?_, fun i h1 h2 => ⟨?_, fun c hc => ?_⟩⟩
    · rw [up2_sn _ _ _ (by omega)]; exact m0
    · rw [up2_ss]
    · rw [up2_sn _ _ _ (by omega)]; exact m2
    · rw [up2_sn _ _ _ (by omega)]; exact m3
    · rw [up2_sn _ _ _ (by omega)]; exact m4
    · rw [up2_sn _ _ _ (by omega)]; exact m5
    · rw [up2_n _ _ _ (by omega)]; exact mc i hi
    · rw [up2_n _ _ _ (by omega)]; exact mt i h1 h2
    · rw [up2_n _ _ _ (by omega)]; exact (mm i h1 h2).1
    · rw [up2_n _ _ _ (by omega)]; exact (mm i h1 h2).2 c hc
  · simp only [if_neg he]
    exact ⟨⟨m0, m1, m2, m3, m4, m5⟩, mc, mt, mm⟩
theorem fin_oth {μ ν : xS} {sd od n : Nat} {A : Nat × xS} {t mk rd mo tl : Nat} (h : othS μ ν sd) (ho : od ≤ 1) (hn : od ≠ sd) (hf : finN μ od n A t mk rd mo tl) : finN ν od n A t mk rd mo tl := by
  obtain ⟨hC, ⟨m0, m1, m2, m3, m4, m5⟩, mc, mt, mm⟩ := hf
  obtain ⟨o9, o10, o11, o12, o13⟩ := h.2 od ho hn
  refine ⟨hC, ⟨?_, ?_, ?_, ?_, ?_, ?_⟩, fun i hi => ?_, fun i h1 h2 => ?_, fun i h1 h2 => ⟨?_, fun c hc => ?_⟩⟩
  · rw [show 6 * od = 6 * od + 0 from rfl, o13 0 (by omega)]; exact m0
  · rw [o13 1 (by omega)]; exact m1
  · rw [o13 2 (by omega)]; exact m2
  · rw [o13 3 (by omega)]; exact m3
  · rw [o13 4 (by omega)]; exact m4
  · rw [o13 5 (by omega)]; exact m5
  · rw [o9 i hi]; exact mc i hi
  · rw [o10 i h2]; exact mt i h1 h2
  · rw [o11 i h2]; exact (mm i h1 h2).1
  · rw [show 240 * od + 6 * i + c = 240 * od + (6 * i + c) from by omega, o12 (6 * i + c) (by omega), show 240 * od + (6 * i + c) = 240 * od + 6 * i + c from by omega]; exact (mm i h1 h2).2 c hc
theorem fin_eq {μ ν : xS} {sd n : Nat} {A : Nat × xS} {t mk rd mo tl : Nat} (h : ∀ w, 9 ≤ w → ν w = μ w) (hf : finN μ sd n A t mk rd mo tl) : finN ν sd n A t mk rd mo tl := by
  obtain ⟨hC, hm, mc, mt, mm⟩ := hf
  refine ⟨hC, ?_, fun i hi => ?_, fun i h1 h2 => ?_, fun i h1 h2 => ⟨?_, fun c hc => ?_⟩⟩
  · rw [h 13 (by omega)]; exact hm
  · rw [h 9 (by omega)]; exact mc i hi
  · rw [h 10 (by omega)]; exact mt i h1 h2
  · rw [h 11 (by omega)]; exact (mm i h1 h2).1
  · rw [h 12 (by omega)]; exact (mm i h1 h2).2 c hc
def runV (n : Nat) (A : Nat × xS) (w : Nat) : Int32 := if w = 0 then A.2 5 0 else if w = 1 then cutD n A else if w = 2 then A.2 9 0 else if w = 3 then A.2 6 0 else if w = 4 then A.2 7 0 else A.2 8 0
def valA (A : Nat × xS) (k : Nat) : Int32 := if k < 40 ∧ k < ix (A.2 9 0) then A.2 0 k else (-10009)
def celA (A : Nat × xS) (k c : Nat) : Int32 := if k < 40 ∧ k < ix (A.2 6 0) then A.2 2 (6 * k + c) else (-10009)
theorem fin_run {μ : xS} {sd n : Nat} {A : Nat × xS} {t mk rd mo tl : Nat} (h : finN μ sd n A t mk rd mo tl) {w : Nat} (hw : w < 6) : μ 13 (6 * sd + w) = runV n A w := by
  obtain ⟨hC, ⟨m0, m1, m2, m3, m4, m5⟩, -⟩ := h
  obtain ⟨c5, c6, c7, c8, c9, -⟩ := hC
  unfold runV
  have hw6 : w = 0 ∨ w = 1 ∨ w = 2 ∨ w = 3 ∨ w = 4 ∨ w = 5 := by omega
  rcases hw6 with rfl | rfl | rfl | rfl | rfl | rfl
  · simp only [if_pos]; rw [c5]; exact m0
  · exact m1
  · exact m2.trans c9.symm
  · exact m3.trans c6.symm
  · exact m4.trans c7.symm
  · exact m5.trans c8.symm
theorem ine (a b : Int32) : (a = b) = (a.toInt = b.toInt) := propext (i_eq a b)
theorem k_of {v : Int32} (h : 0 ≤ v.toInt) : ∃ k : Nat, k < 2 ^ 31 ∧ v = nI k := ⟨v.toInt.toNat, by have := i_rng v; omega, i_of (by omega)⟩
theorem ls40 {x : Nat} (h : x ≤ 400) : (if nI 40 < nI x then nI 40 else nI x) = nI (if 40 < x then 40 else x) := by
  by_cases e : 40 < x
  · rw [if_pos e, if_pos ((i_lt _ _).mpr (by rw [nt _ (by omega), nt _ (by omega)]; omega))]
  · rw [if_neg e, if_neg (fun q => e (by have := (i_lt _ _).mp q; rw [nt _ (by omega), nt _ (by omega)] at this; omega))]
theorem le40 {x k : Nat} (h : x ≤ 400) (hk : k < 2 ^ 31) : nI (if 40 < x then 40 else x) ≤ nI k ↔ ¬ (k < 40 ∧ k < x) := by
  rw [i_le, nt _ hk, nt _ (by split <;> omega)]
  split <;> omega
theorem lsnn {x y : Nat} (h : x ≤ 400) (h2 : y ≤ 400) : (if nI x < nI y then nI x else nI y) = nI (if x < y then x else y) := by
  by_cases e : x < y
  · rw [if_pos e, if_pos ((i_lt _ _).mpr (by rw [nt _ (by omega), nt _ (by omega)]; omega))]
  · rw [if_neg e, if_neg (fun q => e (by have := (i_lt _ _).mp q; rw [nt _ (by omega), nt _ (by omega)] at this; omega))]