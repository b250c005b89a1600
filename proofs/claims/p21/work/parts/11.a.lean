/-! READING what the law types -/
section
variable {t : Nat → Int32} {n a : Nat}
theorem nI_ne {a b : Nat} (ha : a < 2 ^ 31) (hb : b < 2 ^ 31) (h : a ≠ b) : ¬ nI a = nI b := fun e => h (nI_inj ha hb e)
theorem sk_at {c : Nat} (h : t a = nI c) (hc : c < 256) (h2 : c ≠ 32) : skp t n a = a := by
  rw [skp_eq, if_neg (fun q => nI_ne (by omega) (by omega) h2 (h.symm.trans q.2))]
theorem hr_at {c : Nat} (ha : a < n) (h : t a = nI c) (hc : c < 256) (h2 : c ≠ 32) : hr t n a = nI c := by
  unfold hr
  rw [sk_at h hc h2, ← h]
  exact if_pos ha
theorem sk_sp (ha : a < n) (h : t a = nI 32) : skp t n a = skp t n (a + 1) := by
  rw [skp_eq]
  exact if_pos ⟨ha, h⟩
theorem hr_sp (ha : a < n) (h : t a = nI 32) : hr t n a = hr t n (a + 1) := by
  unfold hr
  rw [sk_sp ha h]
theorem pas_at {c : Nat} (ha : a < n) (h : t a = nI c) (hc : c < 256) (h2 : c ≠ 32) : pas t n a (nI c) = a + 1 := by
  have := hr_at ha h hc h2
  unfold hr at this
  unfold pas
  rw [if_pos this, sk_at h hc h2]
theorem pas_sp {c : Int32} (ha : a < n) (h : t a = nI 32) : pas t n a c = pas t n (a + 1) c := by
  unfold pas
  rw [sk_sp ha h]
theorem ceF_sp (ha : a < n) (h : t a = nI 32) : ceF t n a = ceF t n (a + 1) := by
  unfold ceF
  rw [hr_sp ha h, sk_sp ha h]
theorem isL_n {c : Nat} (hc : 97 ≤ c ∧ c ≤ 102) : isL (nI c) := by
  show 97 ≤ (nI c).toInt ∧ (nI c).toInt ≤ 102
  rw [nt _ (by omega)]
  omega
theorem isL_no {c : Nat} (h : c < 256) (hc : ¬ (97 ≤ c ∧ c ≤ 102)) : ¬ isL (nI c) := fun q => by
  have q1 : 97 ≤ (nI c).toInt ∧ (nI c).toInt ≤ 102 := q
  rw [nt _ (by omega)] at q1
  omega
theorem isD_n {c : Nat} (hc : 48 ≤ c ∧ c ≤ 57) : isDg (nI c) := by
  show 48 ≤ (nI c).toInt ∧ (nI c).toInt ≤ 57
  rw [nt _ (by omega)]
  omega
theorem isD_no {c : Nat} (h : c < 256) (hc : ¬ (48 ≤ c ∧ c ≤ 57)) : ¬ isDg (nI c) := fun q => by
  have q1 : 48 ≤ (nI c).toInt ∧ (nI c).toInt ≤ 57 := q
  rw [nt _ (by omega)] at q1
  omega
theorem ce_l {c : Nat} (ha : a < n) (h : t a = nI c) (hc : 97 ≤ c ∧ c ≤ 102) : (ceF t n a).1 = true ∧ (ceF t n a).2.1 = a + 1 := by
  unfold ceF
  rw [hr_at ha h (by omega) (by omega), if_pos (isL_n hc), sk_at h (by omega) (by omega)]
  exact ⟨rfl, rfl⟩
theorem te_l {c : Nat} (ha : a < n) (h : t a = nI c) (hc : 97 ≤ c ∧ c ≤ 102) : (teF t n a).1 = true ∧ (teF t n a).2.1 = a + 1 := by
  unfold teF
  rw [hr_at ha h (by omega) (by omega), if_pos (isL_n hc), sk_at h (by omega) (by omega)]
  exact ⟨rfl, rfl⟩
theorem nu_1 {g v : Nat} (ha : a < n) (h : isDg (t a)) (h2 : ¬ (a + 1 < n ∧ isDg (t (a + 1)))) : (nuF t n (g + 1) a v).1 = a + 1 := by
  rw [nuF, if_pos ⟨ha, h⟩]
  cases g with
  | zero => rfl
  | succ g => rw [nuF, if_neg h2]
theorem te_d {c e : Nat} (ha : a + 1 < n) (h : t a = nI c) (hc : 48 ≤ c ∧ c ≤ 57) (h2 : t (a + 1) = nI e) (he : e < 48) : (teF t n a).1 = true ∧ (teF t n a).2.1 = a + 1 := by
  have hd : isDg (t a) := by rw [h]; exact isD_n hc
  have hn : ¬ (a + 1 < n ∧ isDg (t (a + 1))) := fun q => by
    have q2 := q.2
    rw [h2] at q2
    exact isD_no (by omega) (by omega) q2
  unfold teF
  rw [hr_at (by omega) h (by omega) (by omega), if_neg (isL_no (by omega) (by omega)), if_pos (isD_n hc), sk_at h (by omega) (by omega)]
  refine ⟨rfl, ?_⟩
  show (nuF t n (if nI c = nI 48 then 1 else 3) a 0).1 = a + 1
  split
  · exact nu_1 (g := 0) (by omega) hd hn
  · exact nu_1 (g := 2) (by omega) hd hn
theorem te_d9 {c : Nat} (ha : a + 1 < n) (h : t a = nI c) (hc : 48 ≤ c ∧ c ≤ 57) (h2 : t (a + 1) = nI 59) : (teF t n a).1 = true ∧ (teF t n a).2.1 = a + 1 := by
  have hd : isDg (t a) := by rw [h]; exact isD_n hc
  have hn : ¬ (a + 1 < n ∧ isDg (t (a + 1))) := fun q => by
    have q2 := q.2
    rw [h2] at q2
    exact isD_no (by omega) (by omega) q2
  unfold teF
  rw [hr_at (by omega) h (by omega) (by omega), if_neg (isL_no (by omega) (by omega)), if_pos (isD_n hc), sk_at h (by omega) (by omega)]
  refine ⟨rfl, ?_⟩
  show (nuF t n (if nI c = nI 48 then 1 else 3) a 0).1 = a + 1
  split
  · exact nu_1 (g := 0) (by omega) hd hn
  · exact nu_1 (g := 2) (by omega) hd hn
theorem e5_at {z : Nat → Nat} (ha : a < n) (h : t a = nI 59) : (sE5 t n a z).1 = true ∧ (sE5 t n a z).2.1 = a + 1 := by
  unfold sE5
  rw [hr_at ha h (by omega) (by omega), pas_at ha h (by omega) (by omega)]
  exact ⟨decide_eq_true (p := nI 59 = nI 59) rfl, rfl⟩
/-- a cell is set to a sum, a difference or a product -/
theorem st_op {c b p q : Nat} (h6 : a + 6 ≤ n) (h0 : t a = nI c) (hc : 97 ≤ c ∧ c ≤ 102) (h1 : t (a + 1) = nI 61) (h2 : t (a + 2) = nI b) (hb : 97 ≤ b ∧ b ≤ 102) (h3 : t (a + 3) = nI p) (hp : p = 42 ∨ p = 43 ∨ p = 45) (h4 : t (a + 4) = nI q) (hq : 48 ≤ q ∧ q ≤ 57) (h5 : t (a + 5) = nI 59) : (stF t n a 0).1 = true ∧ (stF t n a 0).2.1 = a + 6 := by
  obtain ⟨c1, c2⟩ := ce_l (n := n) (by omega) h0 hc
  obtain ⟨d1, d2⟩ := te_l (n := n) (by omega) h2 hb
  obtain ⟨e1, e2⟩ := te_d9 (n := n) (a := a + 4) (by omega) h4 hq h5
  have ho : opc (nI p) := by
    show nI p = nI 43 ∨ nI p = nI 45 ∨ nI p = nI 42
    rcases hp with rfl | rfl | rfl
    · exact Or.inr (Or.inr rfl)
    · exact Or.inl rfl
    · exact Or.inr (Or.inl rfl)
  have hs3 : skp t n (a + 3) = a + 3 := sk_at h3 (by omega) (by omega)
  show (seF t n a).1 = true ∧ (seF t n a).2.1 = a + 6
  unfold seF
  rw [if_pos c1, c2]
  unfold sE2
  rw [hr_at (by omega) h1 (by omega) (by omega), if_pos rfl, pas_at (by omega) h1 (by omega) (by omega)]
  unfold sE3
  rw [if_pos d1, d2]
  unfold sE4
  rw [hr_at (a := a + 2 + 1) (by omega) h3 (by omega) (by omega), if_pos ho, show a + 2 + 1 = a + 3 from rfl, hs3, show a + 3 + 1 = a + 4 from rfl, if_pos e1, e2]
  exact e5_at (by omega) h5
/-- a cell is set to a number -/
theorem st_eq {c q : Nat} (h6 : a + 4 ≤ n) (h0 : t a = nI c) (hc : 97 ≤ c ∧ c ≤ 102) (h1 : t (a + 1) = nI 61) (h2 : t (a + 2) = nI q) (hq : 48 ≤ q ∧ q ≤ 57) (h3 : t (a + 3) = nI 59) : (stF t n a 0).1 = true ∧ (stF t n a 0).2.1 = a + 4 := by
  obtain ⟨c1, c2⟩ := ce_l (n := n) (by omega) h0 hc
  obtain ⟨d1, d2⟩ := te_d9 (n := n) (a := a + 2) (by omega) h2 hq h3
  have ho : ¬ opc (nI 59) := by
    show ¬ (nI 59 = nI 43 ∨ nI 59 = nI 45 ∨ nI 59 = nI 42)
    decide +kernel
  have hs3 : skp t n (a + 3) = a + 3 := sk_at h3 (by omega) (by omega)
  show (seF t n a).1 = true ∧ (seF t n a).2.1 = a + 4
  unfold seF
  rw [if_pos c1, c2]
  unfold sE2
  rw [hr_at (by omega) h1 (by omega) (by omega), if_pos rfl, pas_at (by omega) h1 (by omega) (by omega)]
  unfold sE3
  rw [if_pos d1, d2]
  unfold sE4
  rw [hr_at (a := a + 2 + 1) (by omega) h3 (by omega) (by omega), if_neg ho, show a + 2 + 1 = a + 3 from rfl, hs3]
  exact e5_at (by omega) h3
theorem st_1 {e : Nat} (h1 : (ceF t n (a + 1)).1 = true) (h2 : (ceF t n (a + 1)).2.1 = e) (he : e < n) (h3 : t e = nI 59) : (stF t n a 1).1 = true ∧ (stF t n a 1).2.1 = e + 1 := by
  unfold stF
  rw [if_neg (by omega), if_neg (by omega), if_pos h1, if_pos rfl, h2, hr_at he h3 (by omega) (by omega), pas_at he h3 (by omega) (by omega)]
  exact ⟨decide_eq_true (p := nI 59 = nI 59) rfl, rfl⟩
/-- a cell is told; a mark; an opening -/
theorem st_te {b : Nat} (h6 : a + 3 ≤ n) (h1 : t (a + 1) = nI b) (hb : 97 ≤ b ∧ b ≤ 102) (h2 : t (a + 2) = nI 59) : (stF t n a 1).1 = true ∧ (stF t n a 1).2.1 = a + 3 := by
  obtain ⟨c1, c2⟩ := ce_l (n := n) (a := a + 1) (by omega) h1 hb
  exact st_1 c1 c2 (by omega) h2
theorem st_tes {b : Nat} (h6 : a + 4 ≤ n) (h1 : t (a + 1) = nI 32) (h2 : t (a + 2) = nI b) (hb : 97 ≤ b ∧ b ≤ 102) (h3 : t (a + 3) = nI 59) : (stF t n a 1).1 = true ∧ (stF t n a 1).2.1 = a + 4 := by
  obtain ⟨c1, c2⟩ := ce_l (n := n) (a := a + 2) (by omega) h2 hb
  have e := ceF_sp (n := n) (a := a + 1) (by omega) h1
  exact st_1 (by rw [e]; exact c1) (by rw [e]; exact c2) (by omega) h3
theorem st_mks (h6 : a + 3 ≤ n) (h1 : t (a + 1) = nI 32) (h2 : t (a + 2) = nI 59) : (stF t n a 2).1 = true ∧ (stF t n a 2).2.1 = a + 3 := by
  unfold stF
  rw [if_neg (by omega), if_pos rfl, hr_sp (by omega) h1, pas_sp (by omega) h1, hr_at (a := a + 1 + 1) (by omega) h2 (by omega) (by omega), pas_at (a := a + 1 + 1) (by omega) h2 (by omega) (by omega)]
  exact ⟨decide_eq_true (p := nI 59 = nI 59) rfl, rfl⟩
theorem st_in {kd c : Nat} (hk : kd = 3 ∨ kd = 4) (h6 : a + 2 ≤ n) (h1 : t (a + 1) = nI c) (hc : 97 ≤ c ∧ c ≤ 102) : (stF t n a kd).1 = true ∧ (stF t n a kd).2.1 = a + 2 := by
  obtain ⟨c1, c2⟩ := ce_l (n := n) (a := a + 1) (by omega) h1 hc
  unfold stF
  rw [if_neg (by omega), if_neg (by omega), if_pos c1, if_neg (by omega), c2]
  exact ⟨rfl, rfl⟩
end
/-! one pass of the reading -/
section
variable {t : Nat → Int32} {n a g k dp : Nat} {P : Nat → Nat → Nat} {op ph : Nat → Nat}
/-- a space -/
theorem p_sp (ha : a < n) (h : t a = nI 32) : plF t n (g + 1) a k P dp op ph = plF t n (g + 1) (a + 1) k P dp op ph := by
  rw [plF, plF, hr_sp ha h, sk_sp ha h]
/-- a statement, or an opening -/
theorem p_st {c kd e : Nat} (ha : a < n) (h : t a = nI c) (hc : 0 < c ∧ c < 256) (h2 : c ≠ 32) (hk : kdI (nI c) = nI kd) (hk4 : kd ≤ 4) (hf : k < 60) (hd : kd < 3 ∨ dp < 5) (hs : (stF t n a kd).1 = true ∧ (stF t n a kd).2.1 = e) : ∃ P' op' ph', plF t n (g + 1) a k P dp op ph = plF t n g e (k + 1) P' (if 3 ≤ kd then dp + 1 else dp) op' ph' ∧ (∀ i, i < dp → ph' i = ph i) ∧ (3 ≤ kd → ph' dp = if kd = 3 then 93 else 58) := by
  have hg : stG t n a kd k dp = stF t n a kd := if_neg (by rintro (q | q) <;> omega)
  have hh := hr_at ha h hc.2 h2
  have hsk : skp t n a = a := sk_at h hc.2 h2
  have hp := pl_st (g := g) (k := k) (dp := dp) (P := P) (op := op) (ph := ph) (t := t) (n := n) (a := a) (by rw [hh]; exact nI_ne (by omega) (by omega) (by omega)) (by rw [hh]; exact hk) hk4 (by rw [hsk, hg]; exact hs.1)
  rw [hsk, hg, hs.2] at hp
  refine ⟨_, _, _, hp, fun i hi => ?_, fun h3 => ?_⟩
  · exact if_neg (by omega)
  · exact if_pos ⟨h3, rfl⟩
/-- what goes on from an opening, or ends it -/
theorem p_cl {c : Nat} (ha : a < n) (h : t a = nI c) (hc : c = 93 ∨ c = 58 ∨ c = 46) (hd : 0 < dp) (hp : ph (dp - 1) = c) : ∃ P' op' ph', plF t n (g + 1) a k P dp op ph = plF t n g (a + 1) k P' (if c = 58 then dp else dp - 1) op' ph' ∧ (∀ i, i < dp - 1 → ph' i = ph i) ∧ ph' (dp - 1) = 46 := by
  have hh := hr_at (n := n) ha h (by omega) (by omega)
  have hsk : skp t n a = a := sk_at h (by omega) (by omega)
  have hk : kdI (nI c) < 0 := by rcases hc with rfl | rfl | rfl <;> decide +kernel
  have hq := pl_cl (g := g) (k := k) (dp := dp) (P := P) (op := op) (ph := ph) (t := t) (n := n) (a := a) (by rw [hh]; exact nI_ne (by omega) (by omega) (by omega)) (by rw [hh]; exact hk) hd (by rw [hh, hp])
  rw [hsk, hh] at hq
  have e58 : (nI c = nI 58) = (c = 58) := propext ⟨fun q => nI_inj (by omega) (by omega) q, fun q => by rw [q]⟩
  simp only [e58] at hq
  exact ⟨_, _, _, hq, fun i hi => if_neg (by omega), if_pos rfl⟩
end
/-- after m signs of t the reading of any text that begins so has g passes left, k statements and dp loops open -/
def Rd (t : Nat → Int32) (m g k dp : Nat) : Prop := ∀ (T : Nat → Int32) (n : Nat), (∀ i, i < m → T i = t i) → m ≤ n → n ≤ 120 → ∃ P op ph, pAll T n = plF T n g m k P dp op ph ∧ ∀ i, i < dp → ph i = 93
theorem Rd_0 (t : Nat → Int32) : Rd t 0 121 0 0 := fun T n _ _ _ => ⟨_, _, _, rfl, fun i hi => absurd hi (Nat.not_lt_zero i)⟩
theorem Rd_sp {t t2 : Nat → Int32} {m g k dp : Nat} (h : Rd t m (g + 1) k dp) (ha : ∀ i, i < m → t2 i = t i) (h0 : t2 m = nI 32) : Rd t2 (m + 1) (g + 1) k dp := fun T n hT hn h120 => by
  obtain ⟨P, op, ph, h1, h2⟩ := h T n (fun i hi => (hT i (by omega)).trans (ha i hi)) (by omega) h120
  exact ⟨P, op, ph, h1.trans (p_sp (by omega) ((hT m (by omega)).trans h0)), h2⟩
theorem Rd_st {t t2 : Nat → Int32} {m g k dp c kd e : Nat} (h : Rd t m (g + 1) k dp) (ha : ∀ i, i < m → t2 i = t i) (hme : m < e) (h0 : t2 m = nI c) (hc : 0 < c ∧ c < 256) (h2 : c ≠ 32) (hk : kdI (nI c) = nI kd) (hk4 : kd < 3) (hf : k < 60) (hs : ∀ T n, (∀ i, i < e → T i = t2 i) → e ≤ n → (stF T n m kd).1 = true ∧ (stF T n m kd).2.1 = e) : Rd t2 e g (k + 1) dp := fun T n hT hn h120 => by
  obtain ⟨P, op, ph, h1, h3⟩ := h T n (fun i hi => (hT i (by omega)).trans (ha i hi)) (by omega) h120
  obtain ⟨P', op', ph', h4, h5, -⟩ := p_st (g := g) (k := k) (dp := dp) (P := P) (op := op) (ph := ph) (t := T) (n := n) (a := m) (by omega) ((hT m hme).trans h0) hc h2 hk (by omega) hf (Or.inl hk4) (hs T n hT hn)
  rw [if_neg (by omega)] at h4
  exact ⟨P', op', ph', h1.trans h4, fun i hi => (h5 i hi).trans (h3 i hi)⟩
/-- a loop is opened -/
theorem Rd_op {t t2 : Nat → Int32} {m g k dp c : Nat} (h : Rd t m (g + 1) k dp) (ha : ∀ i, i < m → t2 i = t i) (h0 : t2 m = nI 91) (h1 : t2 (m + 1) = nI c) (hc : 97 ≤ c ∧ c ≤ 102) (hf : k < 60) (hd : dp < 5) : Rd t2 (m + 2) g (k + 1) (dp + 1) := fun T n hT hn h120 => by
  obtain ⟨P, op, ph, h2, h3⟩ := h T n (fun i hi => (hT i (by omega)).trans (ha i hi)) (by omega) h120
  obtain ⟨P', op', ph', h4, h5, h6⟩ := p_st (g := g) (k := k) (dp := dp) (P := P) (op := op) (ph := ph) (t := T) (n := n) (a := m) (kd := 3) (by omega) ((hT m (by omega)).trans h0) (by omega) (by omega) (by decide +kernel) (by omega) hf (Or.inr hd) (st_in (Or.inl rfl) (by omega) ((hT (m + 1) (by omega)).trans h1) hc)
  rw [if_pos (by omega)] at h4
  refine ⟨P', op', ph', h2.trans h4, fun i hi => ?_⟩
  by_cases e : i = dp
  · subst e; exact h6 (by omega)
  · exact (h5 i (by omega)).trans (h3 i (by omega))
/-- a loop is closed -/
theorem Rd_cl {t t2 : Nat → Int32} {m g k dp : Nat} (h : Rd t m (g + 1) k (dp + 1)) (ha : ∀ i, i < m → t2 i = t i) (h0 : t2 m = nI 93) : Rd t2 (m + 1) g k dp := fun T n hT hn h120 => by
  obtain ⟨P, op, ph, h2, h3⟩ := h T n (fun i hi => (hT i (by omega)).trans (ha i hi)) (by omega) h120
  obtain ⟨P', op', ph', h4, h5, -⟩ := p_cl (g := g) (k := k) (dp := dp + 1) (P := P) (op := op) (ph := ph) (t := T) (n := n) (a := m) (c := 93) (by omega) ((hT m (by omega)).trans h0) (Or.inl rfl) (by omega) (h3 dp (by omega))
  rw [if_neg (by omega)] at h4
  exact ⟨P', op', ph', h2.trans h4, fun i hi => (h5 i hi).trans (h3 i (by omega))⟩
/-- a choice with a first part of one statement and an empty second one -/
theorem Rd_if {t t2 : Nat → Int32} {m g k dp c b : Nat} (h : Rd t m (g + 4) k dp) (ha : ∀ i, i < m → t2 i = t i) (h0 : t2 m = nI 63) (h1 : t2 (m + 1) = nI c) (hc : 97 ≤ c ∧ c ≤ 102) (h2 : t2 (m + 2) = nI 33) (h3 : t2 (m + 3) = nI b) (hb : 97 ≤ b ∧ b ≤ 102) (h4 : t2 (m + 4) = nI 59) (h5 : t2 (m + 5) = nI 58) (h6 : t2 (m + 6) = nI 46) (hf : k + 1 < 60) (hd : dp < 5) : Rd t2 (m + 7) g (k + 2) dp := fun T n hT hn h120 => by
  have hx : ∀ i, i < 7 → T (m + i) = t2 (m + i) := fun i hi => hT _ (by omega)
  obtain ⟨P, op, ph, q1, q2⟩ := h T n (fun i hi => (hT i (by omega)).trans (ha i hi)) (by omega) h120
  obtain ⟨P1, op1, ph1, r1, r2, r3⟩ := p_st (g := g + 3) (k := k) (dp := dp) (P := P) (op := op) (ph := ph) (t := T) (n := n) (a := m) (kd := 4) (by omega) ((hx 0 (by omega)).trans h0) (by omega) (by omega) (by decide +kernel) (by omega) (by omega) (Or.inr hd) (st_in (Or.inr rfl) (by omega) ((hx 1 (by omega)).trans h1) hc)
  rw [if_pos (by omega)] at r1
  have r3 := r3 (by omega)
  rw [if_neg (by omega)] at r3
  obtain ⟨P2, op2, ph2, s1, s2, -⟩ := p_st (g := g + 2) (k := k + 1) (dp := dp + 1) (P := P1) (op := op1) (ph := ph1) (t := T) (n := n) (a := m + 2) (kd := 1) (by omega) ((hx 2 (by omega)).trans h2) (by omega) (by omega) (by decide +kernel) (by omega) hf (Or.inl (by omega)) (st_te (by omega) ((hx 3 (by omega)).trans h3) hb ((hx 4 (by omega)).trans h4))
  rw [if_neg (by omega)] at s1
  obtain ⟨P3, op3, ph3, u1, u2, u3⟩ := p_cl (g := g + 1) (k := k + 1 + 1) (dp := dp + 1) (P := P2) (op := op2) (ph := ph2) (t := T) (n := n) (a := m + 2 + 3) (c := 58) (by omega) ((hx 5 (by omega)).trans h5) (by omega) (by omega) (by rw [show dp + 1 - 1 = dp from rfl, s2 dp (by omega)]; exact r3)
  rw [if_pos rfl] at u1
  obtain ⟨P4, op4, ph4, v1, v2, -⟩ := p_cl (g := g) (k := k + 1 + 1) (dp := dp + 1) (P := P3) (op := op3) (ph := ph3) (t := T) (n := n) (a := m + 2 + 3 + 1) (c := 46) (by omega) ((hx 6 (by omega)).trans h6) (by omega) (by omega) u3
  rw [if_neg (by omega)] at v1
  refine ⟨P4, op4, ph4, q1.trans (r1.trans (s1.trans (u1.trans v1))), fun i hi => ?_⟩
  rw [v2 i (by omega), u2 i (by omega), s2 i (by omega), r2 i (by omega), q2 i hi]
/-- nothing is open at the end: the text is read -/
theorem Rd_end {t : Nat → Int32} {m g k : Nat} (h : Rd t m (g + 1) k 0) (hm : m ≤ 120) : (pAll t m).1 = true := by
  obtain ⟨P, op, ph, h1, -⟩ := h t m (fun _ _ => rfl) (Nat.le_refl _) hm
  have hh : hr t m m = nI 0 := by
    have hs : skp t m m = m := by rw [skp_eq, if_neg (fun q => Nat.lt_irrefl _ q.1)]
    unfold hr ch
    rw [hs]
    exact if_neg (Nat.lt_irrefl _)
  rw [h1, pl_0 hh]
  exact decide_eq_true (p := (0 : Nat) = 0) rfl
