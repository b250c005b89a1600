/-! the class: the draft while it is read -/
theorem stF_2 {t : Nat → Int32} {n a kd : Nat} (h : kd ≠ 0) : (stF t n a kd).2.2 2 = 0 := by
  by_cases k2 : kd = 2
  · subst k2; rfl
  · by_cases hB : (ceF t n (a + 1)).1 = true
    · have hF : stF t n a kd = _ := (if_neg h).trans ((if_neg k2).trans (if_pos hB))
      rw [hF]
      split <;> rfl
    · have hF : stF t n a kd = (false, (ceF t n (a + 1)).2.1, fun _ => 0) := (if_neg h).trans ((if_neg k2).trans (if_neg hB))
      rw [hF]
def drS (σ : xS) (P V : Nat → Nat → Nat) (s : Nat) : Prop := σ 0 s = nI (P s 0 + 1) ∧ σ 1 s = nI (P s 1) ∧ (P s 0 = 0 → σ 2 s = nI (tmv (P s 3)) ∧ (P s 2 ≠ 0 → σ 4 s = nI (tmv (P s 4))) ∧ (P s 2 = 0 → σ 4 s = nI 0)) ∧ σ 3 s = nI (P s 2) ∧ σ 5 s = oui (outr V s s) ∧ (V s 6 ≠ 1000 → σ 6 s = nI (mid P s) ∧ σ 7 s = nI (pend P s)) ∧ (P s 0 = 4 → P s 5 ≠ 0 → σ 6 s = nI (P s 5))
def DR (σ : xS) (k : Nat) (P V : Nat → Nat → Nat) : Prop := σ 9 0 = nI k ∧ ∀ s, s < k → drS σ P V s
def RR (ρ : xS) (dp : Nat) (op ph : Nat → Nat) : Prop := ρ 2 0 = nI dp ∧ ρ 0 0 = (-1) ∧ ρ 1 0 = nI 0 ∧ ∀ i, i < dp → ρ 0 (i + 1) = nI (op i) ∧ ρ 1 (i + 1) = nI (ph i)
theorem RR.c {ρ τ : xS} {dp : Nat} {op ph : Nat → Nat} (h : RR ρ dp op ph) (hw : ∀ w, w ≠ 3 → τ w = ρ w) : RR τ dp op ph := by
  unfold RR
  rw [hw 2 (by omega), hw 0 (by omega), hw 1 (by omega)]
  exact h
theorem RR.o {ρ : xS} {dp : Nat} {op ph : Nat → Nat} (h : RR ρ dp op ph) : ρ 0 dp = oui (tpo op dp) := by
  cases dp with
  | zero => exact h.2.1
  | succ d =>
    rw [(h.2.2.2 d (by omega)).1]
    show _ = if op d + 1 = 0 then (-1) else nI (op d + 1 - 1)
    rw [if_neg (by omega), Nat.add_sub_cancel]
def tph (ph : Nat → Nat) : Nat → Nat
  | 0 => 0
  | d + 1 => ph d
theorem RR.a {ρ : xS} {dp : Nat} {op ph : Nat → Nat} (h : RR ρ dp op ph) : ρ 1 dp = nI (tph ph dp) := by
  cases dp with
  | zero => exact h.2.2.1
  | succ d => exact (h.2.2.2 d (by omega)).2
theorem RR.up {ρ τ : xS} {dp k kd : Nat} {op ph : Nat → Nat} (h : RR ρ dp op ph) (h3 : 3 ≤ kd) (t0 : τ 0 = upd (ρ 0) (dp + 1) (nI k)) (t1 : τ 1 = upd (ρ 1) (dp + 1) (nI (if kd = 3 then 93 else 58))) (t2 : τ 2 0 = nI (dp + 1)) : RR τ (dp + 1) (opn op kd dp k) (opn ph kd dp (if kd = 3 then 93 else 58)) := by
  refine ⟨t2, ?_, ?_, fun i hi => ?_⟩
  · rw [t0]; exact (if_neg (by omega)).trans h.2.1
  · rw [t1]; exact (if_neg (by omega)).trans h.2.2.1
  · rw [t0, t1]
    by_cases e : i = dp
    · subst e
      exact ⟨(if_pos rfl).trans (by rw [opn_k h3]), (if_pos rfl).trans (by rw [opn_k h3])⟩
    · rw [opn_o e, opn_o e]
      exact ⟨(if_neg (by omega)).trans (h.2.2.2 i (by omega)).1, (if_neg (by omega)).trans (h.2.2.2 i (by omega)).2⟩
theorem RR.col {ρ : xS} {d a : Nat} {op ph : Nat → Nat} (h : RR ρ (d + 1) op ph) : RR (up2 (up2 ρ 3 0 (nI a)) 1 (d + 1) (nI 46)) (d + 1) op (fun i => if i = d then 46 else ph i) := by
  refine ⟨by rw [up2_n _ _ _ (by omega), up2_n _ _ _ (by omega)]; exact h.1, by rw [up2_n _ _ _ (by omega), up2_n _ _ _ (by omega)]; exact h.2.1, by rw [up2_sn _ _ _ (by omega), up2_n _ _ _ (by omega)]; exact h.2.2.1, fun i hi => ?_⟩
  have g := h.2.2.2 i hi
  refine ⟨by rw [up2_n _ _ _ (by omega), up2_n _ _ _ (by omega)]; exact g.1, ?_⟩
  show _ = nI (if i = d then 46 else ph i)
  by_cases e : i = d
  · subst e
    rw [up2_ss, if_pos rfl]
  · rw [up2_sn _ _ _ (by omega), up2_n _ _ _ (by omega), if_neg e]
    exact g.2
theorem RR.cl {ρ : xS} {d a : Nat} {op ph : Nat → Nat} (h : RR ρ (d + 1) op ph) : RR (up2 (up2 ρ 3 0 (nI a)) 2 0 (nI d)) d op (fun i => if i = d then 46 else ph i) := by
  refine ⟨up2_ss _ _ _ _, by rw [up2_n _ _ _ (by omega), up2_n _ _ _ (by omega)]; exact h.2.1, by rw [up2_n _ _ _ (by omega), up2_n _ _ _ (by omega)]; exact h.2.2.1, fun i hi => ?_⟩
  have g := h.2.2.2 i (by omega)
  refine ⟨by rw [up2_n _ _ _ (by omega), up2_n _ _ _ (by omega)]; exact g.1, ?_⟩
  show _ = nI (if i = d then 46 else ph i)
  rw [up2_n _ _ _ (by omega), up2_n _ _ _ (by omega), if_neg (by omega)]
  exact g.2
theorem ladd_o {σ : xS} {n w s : Nat} {k t u : Int32} (hs : s ≠ n) (hw : w ≠ 9) : ladd σ n k t u w s = σ w s := by
  unfold ladd
  simp [up2_a, hs, hw]
theorem dadd_o {σ : xS} {k kd w s : Nat} {z : Nat → Nat} {u : Int32} (hs : s ≠ k) (hw : w ≠ 9) : dadd σ k kd z u w s = σ w s := by
  unfold dadd
  split
  · unfold lset
    simp only [up2_a, if_neg hs, ite_self]
    exact ladd_o hs hw
  · exact ladd_o hs hw
section
variable {k dp : Nat} {P : Nat → Nat → Nat} {op ph : Nat → Nat}
theorem dr_add {σ : xS} {z : Nat → Nat} {kd : Nat} (hD : DR σ k P (opv P op dp)) (h : RDP k P dp op ph) (hz : zok kd z) (hz2 : kd ≠ 0 → z 2 = 0) (hkd : kd ≤ 4) (hk : k < 60) (hd : 3 ≤ kd → dp ≤ 4) : DR (dadd σ k kd z (oui (tpo op dp))) (k + 1) (padd P k z) (opv (padd P k z) (opn op kd dp k) (if 3 ≤ kd then dp + 1 else dp)) := by
  obtain ⟨-, hv, hou, hvk⟩ := rp_add h hz hkd hk hd
  refine ⟨?_, fun s hs => ?_⟩
  · unfold dadd
    split
    · unfold lset ladd
      simp (disch := omega) only [up2_ss, up2_n]
    · exact up2_ss _ _ _ _
  · by_cases e : s = k
    · subst e
      obtain ⟨z0, z1, z2, z3, z4, z5, z6⟩ := hz
      unfold drS
      rw [hou s (Nat.le_refl _), rp_top h, hvk]
      simp only [padd_k, z0, z5]
      have hm : kd < 3 → mid (padd P s z) s = s + 1 := fun q => by
        unfold mid
        rw [padd_k, z0, if_neg (by omega), if_neg (by omega)]
      have hp : kd < 3 → pend (padd P s z) s = s + 1 := fun q => by
        unfold pend
        rw [padd_k, z0, if_neg (by omega)]
      have q6 : (if 3 ≤ kd then 1000 else 0) ≠ 1000 → kd < 3 := fun q => by
        by_cases e : 3 ≤ kd
        · rw [if_pos e] at q; exact absurd rfl q
        · omega
      unfold dadd
      by_cases e0 : kd = 0
      · rw [if_pos e0]
        subst e0
        unfold lset ladd
        simp (disch := omega) only [up2_ss, up2_n]
        refine ⟨by trivial, by trivial, fun _ => ⟨by trivial, fun q => if_neg q, fun q => if_pos q⟩, by trivial, by trivial, fun q => ?_, fun q => ?_⟩
        · rw [hm (by omega), hp (by omega)]; exact ⟨rfl, rfl⟩
        · cases q
      · rw [if_neg e0, hz2 e0]
        unfold ladd
        simp (disch := omega) only [up2_ss, up2_n]
        refine ⟨by trivial, by trivial, fun q => absurd q e0, by trivial, by trivial, fun q => ?_, fun _ q => absurd rfl q⟩
        rw [hm (q6 q), hp (q6 q)]; exact ⟨rfl, rfl⟩
    · have hs' : s < k := by omega
      have g := hD.2 s hs'
      unfold drS mid pend at g ⊢
      rw [hou s (by omega), hv s hs']
      simp only [dadd_o e (show (0 : Nat) ≠ 9 by omega), dadd_o e (show (1 : Nat) ≠ 9 by omega), dadd_o e (show (2 : Nat) ≠ 9 by omega), dadd_o e (show (3 : Nat) ≠ 9 by omega), dadd_o e (show (4 : Nat) ≠ 9 by omega), dadd_o e (show (5 : Nat) ≠ 9 by omega), dadd_o e (show (6 : Nat) ≠ 9 by omega), dadd_o e (show (7 : Nat) ≠ 9 by omega), padd_o e]
      exact g
theorem dr_col {σ : xS} (hD : DR σ k P (opv P op (dp + 1))) (h : RDP k P (dp + 1) op ph) (hc : ph dp = 58) : DR (up2 σ 6 (op dp) (nI k)) k (pcl P (op dp) 5 k) (opv (pcl P (op dp) 5 k) op (dp + 1)) := by
  obtain ⟨-, hv⟩ := rp_col h hc
  have hou : ∀ t, outr (opv (pcl P (op dp) 5 k) op (dp + 1)) t t = outr (opv P op (dp + 1)) t t := fun t => outr_e (fun i hi => by rw [hv _ _ (by omega), hv _ _ (by omega)]; exact ⟨rfl, Iff.rfl⟩)
  refine ⟨by rw [up2_n _ _ _ (by omega)]; exact hD.1, fun s hs => ?_⟩
  have g := hD.2 s hs
  have p6 : ∀ s u, u ≠ 5 → pcl P (op dp) 5 k s u = P s u := fun s u hu => if_neg (fun z => hu z.2)
  by_cases e : s = op dp
  · subst e
    have p5 : pcl P (op dp) 5 k (op dp) 5 = k := if_pos ⟨rfl, rfl⟩
    unfold drS mid pend at g ⊢
    rw [hou, hv _ 6 (by omega), opv_o (by omega), p6 _ 0 (by omega), p6 _ 1 (by omega), p6 _ 2 (by omega), p6 _ 3 (by omega), p6 _ 4 (by omega), p6 _ 6 (by omega), p5]
    simp (disch := omega) only [up2_n, up2_ss]
    exact ⟨g.1, g.2.1, g.2.2.1, g.2.2.2.1, g.2.2.2.2.1, fun q => absurd rfl q, fun _ _ => by trivial⟩
  · have p5 : pcl P (op dp) 5 k s 5 = P s 5 := if_neg (fun z => e z.1)
    unfold drS mid pend at g ⊢
    rw [hou, hv _ 6 (by omega), p6 _ 0 (by omega), p6 _ 1 (by omega), p6 _ 2 (by omega), p6 _ 3 (by omega), p6 _ 4 (by omega), p6 _ 6 (by omega), p5]
    simp (disch := omega) only [up2_n, up2_sn _ _ _ e]
    exact g
theorem dr_close {σ : xS} (hD : DR σ k P (opv P op (dp + 1))) (h : RDP k P (dp + 1) op ph) (hc : ph dp ≠ 58) : DR (if P (op dp) 0 + 1 = 4 then up2 (up2 σ 7 (op dp) (nI k)) 6 (op dp) (nI k) else up2 σ 7 (op dp) (nI k)) k (pcl P (op dp) 6 k) (opv (pcl P (op dp) 6 k) op dp) := by
  obtain ⟨-, hv, hv6, hou⟩ := rp_close h hc
  have ho : ∀ w s, (w ≠ 6 ∧ w ≠ 7) ∨ s ≠ op dp → (if P (op dp) 0 + 1 = 4 then up2 (up2 σ 7 (op dp) (nI k)) 6 (op dp) (nI k) else up2 σ 7 (op dp) (nI k)) w s = σ w s := by
    intro w s hw
    rcases hw with hw | hw
    · split
      · rw [up2_n _ _ _ hw.1, up2_n _ _ _ hw.2]
      · rw [up2_n _ _ _ hw.2]
    · split
      · simp only [up2_a, if_neg hw, ite_self]
      · simp only [up2_a, if_neg hw, ite_self]
  refine ⟨by rw [ho 9 0 (by omega)]; exact hD.1, fun s hs => ?_⟩
  have g := hD.2 s hs
  by_cases e : s = op dp
  · subst e
    have p5 : ∀ u, u ≠ 6 → pcl P (op dp) 6 k (op dp) u = P (op dp) u := fun u hu => if_neg (fun z => hu z.2)
    have p6 : pcl P (op dp) 6 k (op dp) 6 = k := if_pos ⟨rfl, rfl⟩
    have h3 := rp_kd h (show dp < dp + 1 by omega)
    have h5 : P (op dp) 0 = 4 → P (op dp) 5 ≠ 0 := fun q => by
      obtain ⟨-, -, t3⟩ := h.2.2.1 dp (by omega)
      rcases t3 with ⟨b, _⟩ | ⟨_, b, _⟩ | ⟨_, _, b⟩
      · omega
      · exact absurd b hc
      · omega
    have h4 := (h.2.2.2.1 _ hs).1.1
    unfold drS mid pend at g ⊢
    rw [hou _ hs, ho 0 _ (by omega), ho 1 _ (by omega), ho 2 _ (by omega), ho 3 _ (by omega), ho 4 _ (by omega), ho 5 _ (by omega), p5 0 (by omega), p5 1 (by omega), p5 2 (by omega), p5 3 (by omega), p5 4 (by omega), p5 5 (by omega), p6, if_pos h3]
    obtain ⟨g0, g1, g2, g3, g4, -, g6⟩ := g
    refine ⟨g0, g1, g2, g3, g4, fun _ => ?_, fun q w => ?_⟩
    · by_cases e3 : P (op dp) 0 = 3
      · rw [if_pos (by omega), if_pos e3]
        exact ⟨up2_ss _ _ _ _, by rw [up2_n _ _ _ (by omega)]; exact up2_ss _ _ _ _⟩
      · rw [if_neg (by omega), if_neg e3, if_pos (by omega)]
        exact ⟨by rw [up2_n _ _ _ (by omega)]; exact g6 (by omega) (h5 (by omega)), up2_ss _ _ _ _⟩
    · rw [if_neg (by omega), up2_n _ _ _ (by omega)]
      exact g6 q w
  · have p5 : ∀ u, pcl P (op dp) 6 k s u = P s u := fun u => if_neg (fun z => e z.1)
    unfold drS mid pend at g ⊢
    rw [hou _ hs, hv _ 6 (Or.inl e)]
    simp only [p5, ho _ s (Or.inr e)]
    exact g
theorem dr_end {σ : xS} (hD : DR σ k P P) (h : RDP k P 0 op ph) : LsQ σ k P := by
  refine ⟨hD.1, h.1, fun s hs => ?_⟩
  obtain ⟨g0, g1, g2, g3, g4, g5, g6⟩ := hD.2 s hs
  have h6 := (h.2.2.2.1 s hs).2.2.1
  have := h.1
  obtain ⟨a, b⟩ := g5 (by omega)
  exact ⟨g0, g1, g2, g3, g4, a, b⟩
end
theorem s_X1_link_r {G : xG} {d : Nat} {f : Nat → xC} {r : Nat × Nat} {Q : Option Value → xM → Prop} {q x e n : Nat} {ρ σ : xS} {P : Nat → Nat → Nat} (hde : e + 10 ≤ q ∨ q + 3 ≤ e) (hQ : LsQ σ n P) (hO : okP n P) (hq : ∀ τ, (∀ w, w ≠ 8 → τ w = σ w) → LsP τ n P → Q none (qput (lput f e τ) q x e ρ, r)) : xMet G (d + 4) mX1_link [.ref e] (qput (lput f e σ) q x e ρ, r) r Q := by
  have h := s_X1_link (G := G) (d := d) (r := r) (f := qput f q x e ρ) (a := e) (σ := σ) (Q := Q) hQ hO (fun τ h1 h2 => by
    rw [← rmem_c hde]
    exact hq τ h1 h2)
  rw [← rmem_c hde] at h
  exact h
theorem tph_46 {k dp : Nat} {P : Nat → Nat → Nat} {op ph : Nat → Nat} (h : RDP k P dp op ph) (hd : 0 < dp) : tph ph dp = 93 ∨ tph ph dp = 58 ∨ tph ph dp = 46 := by
  cases dp with
  | zero => omega
  | succ d =>
    obtain ⟨-, -, t3⟩ := h.2.2.1 d (by omega)
    show ph d = 93 ∨ ph d = 58 ∨ ph d = 46
    omega
theorem nI_inj {a b : Nat} (ha : a < 2 ^ 31) (hb : b < 2 ^ 31) (h : nI a = nI b) : a = b := by
  rw [i_eq, nt _ ha, nt _ hb] at h
  omega
theorem stF_le {t : Nat → Int32} {n q kd : Nat} (hq : q < n) : (stF t n q kd).2.1 ≤ n := by
  have pl : ∀ a, a ≤ n → pas t n a (nI 59) ≤ n := fun a ha => pas_le ha (nz 59 (by omega) (by omega))
  have p6 : ∀ a, a ≤ n → pas t n a (nI 61) ≤ n := fun a ha => pas_le ha (nz 61 (by omega) (by omega))
  have cb : ∀ a, a ≤ n → (ceF t n a).2.1 ≤ n := fun a ha => (ceF_b ha).1
  have tb : ∀ a, a ≤ n → (teF t n a).2.1 ≤ n := fun a ha => (teF_b ha).1
  have sb : ∀ a, a ≤ n → skp t n a ≤ n := fun a ha => (skp_ge t n _ a rfl).2 ha
  unfold stF
  split
  · unfold seF sE2 sE3 sE4 sE5
    have c1 := cb q (by omega)
    have c2 := p6 _ c1
    have c3 := tb _ c2
    split
    · split
      · split
        · split
          · rename_i hO
            have hlt := hr_lt (opc_n hO).2
            have c4 := tb (skp t n (teF t n (pas t n (ceF t n q).2.1 (nI 61))).2.1 + 1) (by omega)
            split
            · exact pl _ c4
            · exact c4
          · exact pl _ (sb _ c3)
        · exact c3
      · exact c2
    · exact c1
  · split
    · exact pl _ (by omega)
    · have c1 := cb (q + 1) (by omega)
      split
      · split
        · exact pl _ c1
        · exact c1
      · exact c1
theorem stG_le {t : Nat → Int32} {n q kd k dp : Nat} (h : q ≤ n) (hq : q < n) : (stG t n q kd k dp).2.1 ≤ n := by
  unfold stG
  split
  · exact h
  · exact stF_le hq
theorem s_X3_readDraft_l {G : xG} {d : Nat} {f : Nat → xC} {r : Nat × Nat} {Q : Option Value → xM → Prop} {q x e n : Nat} {χ : xS} (hX : xat f x χ) (hd : x + 2 ≤ q ∨ q + 3 ≤ x) (hxe : x + 2 ≤ e ∨ e + 10 ≤ x) (hde : e + 10 ≤ q ∨ q + 3 ≤ e) (hn : χ 1 0 = nI n) (hn2 : n ≤ 120) (hch : ∀ i, i < n → 0 ≤ (χ 0 i).toInt) (hq : ∀ τ σ, τ 0 0 = (-1) → τ 1 0 = nI 0 → ((pAll (χ 0) n).1 = true → LsP σ (pAll (χ 0) n).2.1 (pAll (χ 0) n).2.2 ∧ wfP (pAll (χ 0) n).2.1 (pAll (χ 0) n).2.2) → ((pAll (χ 0) n).1 = false → τ 3 0 = nI (pAll (χ 0) n).2.1 ∧ (pAll (χ 0) n).2.1 ≤ n) → Q (some (.int (b2i ((pAll (χ 0) n).1 = true)))) (qput (lput f e σ) q x e τ, r)) : ∀ (g a k : Nat) (P : Nat → Nat → Nat) (dp : Nat) (op ph : Nat → Nat) (ρ σ : xS) (tl : List (Nat × Value)), n - a < g → g ≤ 121 → a ≤ n → ρ 3 0 = nI a → RR ρ dp op ph → DR σ k P (opv P op dp) → RDP k P dp op ph → (tl = [] ∨ ∃ c, tl = [(2, .int c)]) → pAll (χ 0) n = plF (χ 0) n g a k P dp op ph → xX G (d + 7) mX3_readDraft r r (xΦ G r r Q) 20 ((0, .ref q) :: (1, .int (nI (121 - g))) :: tl) [] (qput (lput f e σ) q x e ρ, r) := by
  have hX2 : ∀ κ, xat (lput f e κ) x χ := fun κ => rmem_x hX hxe
  intro g
  induction g with
  | zero => intro a k P dp op ph ρ σ tl h0; omega
  | succ g ih =>
    intro a k P dp op ph ρ σ tl h1 h2 ha hp hR hD hP htl hA
    have hdp := hP.2.1
    have hk6 := hP.1
    have hsk := (skp_ge (χ 0) n _ a rfl).2 ha
    have hsk2 := (skp_ge (χ 0) n _ a rfl).1
    have hid := skp_idem (χ 0) n a
    have hih := hr_idem (χ 0) n a
    have hR1 : RR (up2 ρ 3 0 (nI (skp (χ 0) n a))) dp op ph := hR.c (fun w hw => up2_n _ _ _ hw)
    have body : xX G (d + 7) mX3_readDraft r r (xΦ G r r Q) 31 [(0, .ref q), (1, .int (nI (121 - (g + 1)))), (2, .int (hr (χ 0) n (skp (χ 0) n a)))] [] (qput (lput f e σ) q x e (up2 ρ 3 0 (nI (skp (χ 0) n a))), r) := by
      refine xr_iload_n (n := 32) dX3_readDraft_31 rfl rfl ?_
      refine xr_aload_n (n := 33) dX3_readDraft_32 rfl rfl ?_
      refine xr_callV (y2 := mX3_awaitedSign) (As := []) (n := 36) dX3_readDraft_33 lm_X3_42 pm_X3_awaitedSign pi_X3_awaitedSign (by first | exact qat_0 (qput_at _ _ _ _ _) | exact qat_r (qput_at _ _ _ _ _) (by decide) | exact xat_0 (bat_out (hX2 _) hd) | exact lat_0 (bat_out (lput_at _ _ _) (by omega))) rfl rfl rfl (by simp [Value.category]) rfl ⟨Nat.le_refl _, Nat.le_refl _⟩ ?_
      refine s_X3_awaitedSign hR1.1 hdp ?_
      dsimp only [xK, xps]
      refine xr_icmp_eq (tgt := 49) (n := 39) dX3_readDraft_36 (by decide) rfl (fun h36 => ?_) (fun h36 => ?_)
      · rw [hR1.a, hih] at h36
        refine xr_iload_n (n := 50) dX3_readDraft_49 rfl rfl ?_
        refine xr_if_ne (tgt := 62) (n := 53) dX3_readDraft_50 (by decide) rfl (fun h50 => ?_) (fun h50 => ?_)
        · have h00 : ¬ hr (χ 0) n a = nI 0 := fun z => h50 (by rw [hih]; exact z)
          have han := hr_lt h00
          have hd0 : 0 < dp := Nat.pos_of_ne_zero (fun z => by subst z; exact h00 h36)
          obtain ⟨dq, rfl⟩ : ∃ dq, dp = dq + 1 := ⟨dp - 1, by omega⟩
          have hph : ph dq = 93 ∨ ph dq = 58 ∨ ph dq = 46 := tph_46 hP (by omega)
          have hc : hr (χ 0) n a = nI (ph dq) := h36
          have hneg : kdI (hr (χ 0) n a) < 0 := by rw [hc]; rcases hph with z | z | z <;> rw [z] <;> decide +kernel
          have e9 := hA.trans (pl_cl h00 hneg (by omega) hc)
          simp only [Nat.add_sub_cancel] at e9
          have hs := (hP.2.2.1 dq (by omega)).1
          have hk4 := (hP.2.2.2.1 _ hs).1.1
          have h58 : hr (χ 0) n a = nI 58 → ph dq = 58 := fun z => nI_inj (by omega) (by omega) (hc.symm.trans z)
          have h58n : ¬ hr (χ 0) n a = nI 58 → ph dq ≠ 58 := fun z w => z (by rw [hc, w])
          refine xr_aload_n (n := 63) dX3_readDraft_62 rfl rfl ?_
          refine xr_iload_n (n := 64) dX3_readDraft_63 rfl rfl ?_
          refine xr_callV (y2 := mX3_goOn) (As := [_]) (n := 67) dX3_readDraft_64 lm_X3_52 pm_X3_goOn pi_X3_goOn (by first | exact qat_0 (qput_at _ _ _ _ _) | exact qat_r (qput_at _ _ _ _ _) (by decide) | exact xat_0 (bat_out (hX2 _) hd) | exact lat_0 (bat_out (lput_at _ _ _) (by omega))) rfl rfl rfl (by simp [Value.category]) rfl ⟨Nat.le_refl _, Nat.le_refl _⟩ ?_
          refine s_X3_goOn (k := k) (dp := dq + 1) (s := op dq) (kd := P (op dq) 0 + 1) hde (up2_ss _ _ _ _) hR1.1 hdp (by omega) (hR1.2.2.2 dq (by omega)).1 hs hD.1 hk6 (hD.2 _ hs).1 (by omega) (fun z => ?_) (fun z => ?_)
          · rw [hih] at z
            have hcc := h58 z
            rw [if_pos z, if_pos z] at e9
            have hP2 := (rp_col hP hcc).1
            have hD2 := dr_col hD hP hcc
            have hR2 := RR.col (a := skp (χ 0) n a + 1) hR1
            rw [up2_up2] at hR2
            have hih2 := ih (skp (χ 0) n a + 1) k _ (dq + 1) op (fun i => if i = dq then 46 else ph i) _ _ [(2, .int (hr (χ 0) n (skp (χ 0) n a)))] (by omega) (by omega) (by omega) (by rw [up2_n _ _ _ (by omega)]; exact up2_ss _ _ _ _) hR2 hD2 hP2 (Or.inr ⟨_, rfl⟩) e9
            dsimp only [xK, xps]
            rw [up2_up2]
            refine xr_iinc (n := 70) dX3_readDraft_67 rfl rfl (rfl) rfl ?_
            simp only [xst, Nat.beq, List.filter, Bool.not_true, Bool.not_false]
            rw [show (Int32.ofInt 1) = nI 1 from rfl, nI_add]
            refine xr_goto (n := 20) dX3_readDraft_70 (by decide) ?_
            rw [show 121 - (g + 1) + 1 = 121 - g by omega]
            exact hih2
          · rw [hih] at z
            have hcc := h58n z
            rw [if_neg z, if_neg z] at e9
            have hP2 := (rp_close hP hcc).1
            have hD2 := dr_close hD hP hcc
            have hR2 := RR.cl (a := skp (χ 0) n a + 1) hR1
            rw [up2_up2] at hR2
            have hih2 := ih (skp (χ 0) n a + 1) k _ dq op (fun i => if i = dq then 46 else ph i) _ _ [(2, .int (hr (χ 0) n (skp (χ 0) n a)))] (by omega) (by omega) (by omega) (by rw [up2_n _ _ _ (by omega)]; exact up2_ss _ _ _ _) hR2 hD2 hP2 (Or.inr ⟨_, rfl⟩) e9
            dsimp only [xK, xps]
            rw [up2_up2]
            simp only [Nat.add_sub_cancel]
            refine xr_iinc (n := 70) dX3_readDraft_67 rfl rfl (rfl) rfl ?_
            simp only [xst, Nat.beq, List.filter, Bool.not_true, Bool.not_false]
            rw [show (Int32.ofInt 1) = nI 1 from rfl, nI_add]
            refine xr_goto (n := 20) dX3_readDraft_70 (by decide) ?_
            rw [show 121 - (g + 1) + 1 = 121 - g by omega]
            exact hih2
        · have h00 : hr (χ 0) n a = nI 0 := by
            rw [hih] at h50
            first | exact h50 | exact Decidable.not_not.mp h50
          have hd0 : dp = 0 := Classical.byContradiction (fun hz => by
            have h3 := tph_46 hP (by omega)
            rw [h00] at h36
            have := nI_inj (by omega) (by omega) h36
            omega)
          subst hd0
          have e9 := hA.trans (pl_0 h00)
          rw [decide_eq_true rfl, if_pos rfl] at e9
          have hwf := rp_wf hP
          refine xr_aload_n (n := 54) dX3_readDraft_53 rfl rfl ?_
          refine xr_get (n := 57) dX3_readDraft_54 fl_X3_22 (by first | exact qat_0 (qput_at _ _ _ _ _) | exact qat_r (qput_at _ _ _ _ _) (by decide) | exact xat_0 (bat_out (hX2 _) hd) | exact lat_0 (bat_out (lput_at _ _ _) (by omega))) (by rfl) rfl ?_
          refine xr_callV (y2 := mX1_link) (As := []) (n := 60) dX3_readDraft_57 lm_X3_49 pm_X1_link pi_X1_link (by first | exact qat_0 (qput_at _ _ _ _ _) | exact qat_r (qput_at _ _ _ _ _) (by decide) | exact xat_0 (bat_out (hX2 _) hd) | exact lat_0 (bat_out (lput_at _ _ _) (by omega))) rfl rfl rfl (by simp [Value.category]) rfl ⟨Nat.le_refl _, Nat.le_refl _⟩ ?_
          refine s_X1_link_r hde (dr_end hD hP) hwf.1 (fun σ2 hσ1 hσ2 => ?_)
          dsimp only [xK, xps]
          refine xr_iconst (v := nI 1) (n := 61) dX3_readDraft_60 (by decide) rfl ?_
          refine xr_ireturn dX3_readDraft_61 rfl (by first | exact b2i_nar | exact nar_1 | exact nar_0) rfl ?_
          have h9 := hq (up2 ρ 3 0 (nI (skp (χ 0) n a))) σ2 hR1.2.1 hR1.2.2.1
          rw [e9] at h9
          exact h9 (fun _ => ⟨hσ2, hwf⟩) (fun z => by cases z)
      · have hne : ¬ hr (χ 0) n (skp (χ 0) n a) = nI (tph ph dp) := fun z => h36 (z.trans hR1.a.symm)
        refine xr_aload_n (n := 40) dX3_readDraft_39 rfl rfl ?_
        refine xr_iload_n (n := 41) dX3_readDraft_40 rfl rfl ?_
        refine xr_callV (y2 := mX3_readStatement) (As := [_]) (n := 44) dX3_readDraft_41 lm_X3_45 pm_X3_readStatement pi_X3_readStatement (by first | exact qat_0 (qput_at _ _ _ _ _) | exact qat_r (qput_at _ _ _ _ _) (by decide) | exact xat_0 (bat_out (hX2 _) hd) | exact lat_0 (bat_out (lput_at _ _ _) (by omega))) rfl rfl rfl (by simp [Value.category]) rfl ⟨Nat.le_refl _, Nat.le_refl _⟩ ?_
        refine s_X3_readStatement (n := n) (a := skp (χ 0) n a) (k := k) (dp := dp) hX hd hxe hde hn hn2 hch (up2_ss _ _ _ _) hsk hR1.1 hdp hD.1 hk6 hid (fun hneg τ t1 t2 => ?_) (fun kd hkd hke τ hτ => ?_)
        · dsimp only [xK, xps]
          refine xr_if_ne (tgt := 67) (n := 47) dX3_readDraft_44 (by decide) rfl (fun h44 => by (exact absurd h44 (by decide))) (fun h44 => ?_)
          refine xr_iconst (v := nI 0) (n := 48) dX3_readDraft_47 (by decide) rfl ?_
          refine xr_ireturn dX3_readDraft_48 rfl (by first | exact b2i_nar | exact nar_1 | exact nar_0) rfl ?_
          have e9 : pAll (χ 0) n = (false, skp (χ 0) n a, P) := by
            rw [hih] at hne hneg
            by_cases h00 : hr (χ 0) n a = nI 0
            · rw [hA, pl_0 h00]
              have hd0 : dp ≠ 0 := fun z => by subst z; exact hne h00
              rw [decide_eq_false hd0, if_neg hd0]
            · rw [hA, pl_no h00 hneg]
              rintro ⟨hd0, hc⟩
              cases dp with
              | zero => omega
              | succ d' => exact hne hc
          have h9 := hq τ σ ((t1 0 (by omega) ▸ (hR1.2.1 : _ = _))) ((t1 1 (by omega) ▸ (hR1.2.2.1 : _ = _)))
          rw [e9] at h9
          exact h9 (fun z => by cases z) (fun _ => ⟨t2, hsk⟩)
        rw [hih] at hke
        have h00 : ¬ hr (χ 0) n a = nI 0 := fun z => by
          rw [z] at hke
          have : nI kd < 0 := by rw [← hke]; decide +kernel
          exact nk_neg hkd this
        have han := hr_lt h00
        have hne2 := hne
        obtain ⟨hτ1, hτ2, hτ3⟩ := hτ
        dsimp only [xK, xps]
        refine xr_bne (tgt := 67) (n := 47) dX3_readDraft_44 (by decide) rfl (fun h44 => ?_) (fun h44 => ?_)
        · have hS1 : (stG (χ 0) n (skp (χ 0) n a) kd k dp).1 = true := by first | exact h44 | exact Classical.byContradiction (fun z => h44 (b2i_f z))
          obtain ⟨hG1, hG2⟩ := stG_t hS1
          have hS2 : (stF (χ 0) n (skp (χ 0) n a) kd).1 = true := by rw [← hG1]; exact hS1
          have hb := stF_b han hS2
          have hz := stF_ok han hkd hS2
          have hz2 : kd ≠ 0 → (stF (χ 0) n (skp (χ 0) n a) kd).2.2 2 = 0 := stF_2
          rw [← hG1] at hb hz hz2
          have hk7 : k < 60 := by unfold ful at hG2; omega
          have hd4 : 3 ≤ kd → dp ≤ 4 := fun z => by unfold ful at hG2; omega
          have e9 := hA.trans (pl_st h00 hke hkd hS1)
          have hP2 := (rp_add hP hz hkd hk7 hd4).1
          have hD2 := dr_add hD hP hz hz2 hkd hk7 hd4
          rw [if_pos hS1, hR1.o]
          have hih2 := fun hR2 => ih _ (k + 1) _ (if 3 ≤ kd then dp + 1 else dp) _ _ τ _ [(2, .int (hr (χ 0) n (skp (χ 0) n a)))] (by omega) (by omega) hb.1 hτ1 hR2 hD2 hP2 (Or.inr ⟨_, rfl⟩) e9
          have hR2 : RR τ (if 3 ≤ kd then dp + 1 else dp) (opn op kd dp k) (opn ph kd dp (if kd = 3 then 93 else 58)) := by
            by_cases h3 : 3 ≤ kd
            · rw [if_pos h3]
              obtain ⟨u0, u1, u2⟩ := hτ2 hS1 h3
              exact hR1.up h3 u0 u1 u2
            · rw [if_neg h3]
              have hw := hτ3 (Or.inr (by omega))
              have o1 : opn op kd dp k = op := funext (fun i => if_neg (fun z => h3 z.1))
              have o2 : opn ph kd dp (if kd = 3 then 93 else 58) = ph := funext (fun i => if_neg (fun z => h3 z.1))
              rw [o1, o2]
              exact hR1.c hw
          refine xr_iinc (n := 70) dX3_readDraft_67 rfl rfl (rfl) rfl ?_
          simp only [xst, Nat.beq, List.filter, Bool.not_true, Bool.not_false]
          rw [show (Int32.ofInt 1) = nI 1 from rfl, nI_add]
          refine xr_goto (n := 20) dX3_readDraft_70 (by decide) ?_
          rw [show 121 - (g + 1) + 1 = 121 - g by omega]
          exact hih2 hR2
        · refine xr_iconst (v := nI 0) (n := 48) dX3_readDraft_47 (by decide) rfl ?_
          refine xr_ireturn dX3_readDraft_48 rfl (by first | exact b2i_nar | exact nar_1 | exact nar_0) rfl ?_
          have hS1 : (stG (χ 0) n (skp (χ 0) n a) kd k dp).1 = false := Bool.eq_false_iff.mpr (fun z => by first | exact h44 z | exact absurd h44 (by rw [z]; decide))
          have e9 := hA.trans (pl_sf h00 hke hkd (by rw [hS1]; decide))
          have hw := hτ3 (Or.inl hS1)
          have h9 := hq τ (if (stG (χ 0) n (skp (χ 0) n a) kd k dp).1 = true then dadd σ k kd (stG (χ 0) n (skp (χ 0) n a) kd k dp).2.2 (up2 ρ 3 0 (nI (skp (χ 0) n a)) 0 dp) else σ) (by rw [hw 0 (by omega)]; exact hR1.2.1) (by rw [hw 1 (by omega)]; exact hR1.2.2.1)
          rw [e9] at h9
          exact h9 (fun z => by cases z) (fun _ => ⟨hτ1, stG_le hsk han⟩)
    rcases htl with rfl | ⟨c0, rfl⟩
    · refine xr_iload_n (n := 21) dX3_readDraft_20 rfl rfl ?_
      refine xr_bipush (v := nI 120) (n := 23) dX3_readDraft_21 (by decide) rfl ?_
      refine xr_icmp_gt (tgt := 73) (n := 26) dX3_readDraft_23 (by decide) rfl (fun h23 => by (exfalso; ((try simp (disch := omega) only [i_lt, i_le, i_eq, nt, i_m1, Int32.toInt_zero] at *); omega))) (fun h23 => ?_)
      refine xr_aload_n (n := 27) dX3_readDraft_26 rfl rfl ?_
      refine xr_callV (y2 := mX3_nextSign) (As := []) (n := 30) dX3_readDraft_27 lm_X3_38 pm_X3_nextSign pi_X3_nextSign (by first | exact qat_0 (qput_at _ _ _ _ _) | exact qat_r (qput_at _ _ _ _ _) (by decide) | exact xat_0 (bat_out (hX2 _) hd) | exact lat_0 (bat_out (lput_at _ _ _) (by omega))) rfl rfl rfl (by simp [Value.category]) rfl ⟨Nat.le_refl _, Nat.le_refl _⟩ ?_
      refine s_X3_nextSign (hX2 _) hd hn hn2 hp ha ?_
      rw [← hih]
      dsimp only [xK, xps]
      refine xq_istore_n 2 (n := 31) dX3_readDraft_30 rfl rfl rfl ?_
      simp only [xst, Nat.beq, List.filter, Bool.not_true, Bool.not_false]
      exact body
    · refine xr_iload_n (n := 21) dX3_readDraft_20 rfl rfl ?_
      refine xr_bipush (v := nI 120) (n := 23) dX3_readDraft_21 (by decide) rfl ?_
      refine xr_icmp_gt (tgt := 73) (n := 26) dX3_readDraft_23 (by decide) rfl (fun h23 => by (exfalso; ((try simp (disch := omega) only [i_lt, i_le, i_eq, nt, i_m1, Int32.toInt_zero] at *); omega))) (fun h23 => ?_)
      refine xr_aload_n (n := 27) dX3_readDraft_26 rfl rfl ?_
      refine xr_callV (y2 := mX3_nextSign) (As := []) (n := 30) dX3_readDraft_27 lm_X3_38 pm_X3_nextSign pi_X3_nextSign (by first | exact qat_0 (qput_at _ _ _ _ _) | exact qat_r (qput_at _ _ _ _ _) (by decide) | exact xat_0 (bat_out (hX2 _) hd) | exact lat_0 (bat_out (lput_at _ _ _) (by omega))) rfl rfl rfl (by simp [Value.category]) rfl ⟨Nat.le_refl _, Nat.le_refl _⟩ ?_
      refine s_X3_nextSign (hX2 _) hd hn hn2 hp ha ?_
      rw [← hih]
      dsimp only [xK, xps]
      refine xq_istore_n 2 (n := 31) dX3_readDraft_30 rfl rfl rfl ?_
      simp only [xst, Nat.beq, List.filter, Bool.not_true, Bool.not_false]
      exact body

theorem s_X3_readDraft {G : xG} {d : Nat} {f : Nat → xC} {r : Nat × Nat} {Q : Option Value → xM → Prop} {q x e n : Nat} {χ ρ σ : xS} (hX : xat f x χ) (hd : x + 2 ≤ q ∨ q + 3 ≤ x) (hxe : x + 2 ≤ e ∨ e + 10 ≤ x) (hde : e + 10 ≤ q ∨ q + 3 ≤ e) (hn : χ 1 0 = nI n) (hn2 : n ≤ 120) (hch : ∀ i, i < n → 0 ≤ (χ 0 i).toInt) (h0a : ρ 0 0 = (-1)) (h0b : ρ 1 0 = nI 0) (hq : ∀ τ σ, τ 0 0 = (-1) → τ 1 0 = nI 0 → ((pAll (χ 0) n).1 = true → LsP σ (pAll (χ 0) n).2.1 (pAll (χ 0) n).2.2 ∧ wfP (pAll (χ 0) n).2.1 (pAll (χ 0) n).2.2) → ((pAll (χ 0) n).1 = false → τ 3 0 = nI (pAll (χ 0) n).2.1 ∧ (pAll (χ 0) n).2.1 ≤ n) → Q (some (.int (b2i ((pAll (χ 0) n).1 = true)))) (qput (lput f e σ) q x e τ, r)) : xMet G (d + 7) mX3_readDraft [.ref q] (qput (lput f e σ) q x e ρ, r) r Q := by
  refine xMet_0 (by decide +kernel) rfl (Nat.le_of_ble_eq_true rfl) ?_
  show xX G (d + 7) mX3_readDraft r r (xΦ G r r Q) 0 [(0, .ref q)] [] (qput (lput f e σ) q x e ρ, r)
  show xX G (d + 7) mX3_readDraft r r (xΦ G r r Q) 0 [(0, .ref q)] [] (rmem f q x e ρ σ, r)
  rw [rmem_c hde]
  refine xr_aload_n (n := 1) dX3_readDraft_0 rfl rfl ?_
  refine xr_get (n := 4) dX3_readDraft_1 fl_X3_22 (by first | exact qat_0 (bat_out (qput_at _ _ _ _ _) (by omega)) | exact qat_r (bat_out (qput_at _ _ _ _ _) (by omega)) (by decide) | exact lat_0 (lput_at _ _ _)) (by rfl) rfl ?_
  refine xr_iconst (v := nI 0) (n := 5) dX3_readDraft_4 (by decide) rfl ?_
  refine xq_put (n := 8) dX3_readDraft_5 fl_X3_26 rfl (by first | exact qat_0 (bat_out (qput_at _ _ _ _ _) (by omega)) | exact qat_r (bat_out (qput_at _ _ _ _ _) (by omega)) (by decide) | exact lat_0 (lput_at _ _ _)) (by rfl) (by rfl) (by rfl) rfl ?_
  simp (disch := omega) only [nI_clamp, List.set, lw_0, lw_1, lw_2, lw_3, lw_4, lw_5, lw_6, lw_7, lw_8, lw_9]
  rw [← rmem_c hde]
  show xX G (d + 7) mX3_readDraft r r (xΦ G r r Q) 8 [(0, .ref q)] [] (qput (lput f e (up2 σ 9 0 (nI 0))) q x e ρ, r)
  refine xr_aload_n (n := 9) dX3_readDraft_8 rfl rfl ?_
  refine xr_iconst (v := nI 0) (n := 10) dX3_readDraft_9 (by decide) rfl ?_
  refine xq_put (n := 13) dX3_readDraft_10 fl_X3_32 rfl (by first | exact qat_0 (qput_at _ _ _ _ _) | exact qat_r (qput_at _ _ _ _ _) (by decide) | exact xat_0 (bat_out (hX2 _) hd) | exact lat_0 (bat_out (lput_at _ _ _) (by omega))) (by rfl) (by rfl) (by rfl) rfl ?_
  simp (disch := omega) only [nI_clamp, List.set, qw_0, qw_1, qw_2, qw_3]
  refine xr_aload_n (n := 14) dX3_readDraft_13 rfl rfl ?_
  refine xr_iconst (v := nI 0) (n := 15) dX3_readDraft_14 (by decide) rfl ?_
  refine xq_put (n := 18) dX3_readDraft_15 fl_X3_35 rfl (by first | exact qat_0 (qput_at _ _ _ _ _) | exact qat_r (qput_at _ _ _ _ _) (by decide) | exact xat_0 (bat_out (hX2 _) hd) | exact lat_0 (bat_out (lput_at _ _ _) (by omega))) (by rfl) (by rfl) (by rfl) rfl ?_
  simp (disch := omega) only [nI_clamp, List.set, qw_0, qw_1, qw_2, qw_3]
  refine xr_iconst (v := nI 0) (n := 19) dX3_readDraft_18 (by decide) rfl ?_
  refine xq_istore_n 1 (n := 20) dX3_readDraft_19 rfl rfl rfl ?_
  simp only [xst, Nat.beq, List.filter, Bool.not_true, Bool.not_false]
  refine s_X3_readDraft_l hX hd hxe hde hn hn2 hch hq 121 0 0 (fun _ _ => 0) 0 (fun _ => 0) (fun _ => 0) _ _ [] (by omega) (by omega) (by omega) (up2_ss _ _ _ _) ⟨?_, ?_, ?_, fun i hi => by omega⟩ ⟨up2_ss _ _ _ _, fun s hs => by omega⟩ rp_0 (Or.inl rfl) rfl
  · rw [up2_n _ _ _ (by omega)]; exact up2_ss _ _ _ _
  · rw [up2_n _ _ _ (by omega), up2_n _ _ _ (by omega)]; exact h0a
  · rw [up2_n _ _ _ (by omega), up2_n _ _ _ (by omega)]; exact h0b
