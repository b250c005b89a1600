/-! READING a whole text -/
def opn (op : Nat → Nat) (kd dp k : Nat) : Nat → Nat := fun i => if 3 ≤ kd ∧ i = dp then k else op i
def pcl (P : Nat → Nat → Nat) (s fl k : Nat) : Nat → Nat → Nat := fun j u => if j = s ∧ u = fl then k else P j u
def plF (t : Nat → Int32) (n : Nat) : Nat → Nat → Nat → (Nat → Nat → Nat) → Nat → (Nat → Nat) → (Nat → Nat) → Bool × Nat × (Nat → Nat → Nat)
  | 0, a, _, P, _, _, _ => (false, a, P)
  | g + 1, a, k, P, dp, op, ph =>
    if hr t n a = nI 0 then (decide (dp = 0), (if dp = 0 then k else skp t n a), P)
    else if kdI (hr t n a) < 0 then
      (if 0 < dp ∧ hr t n a = nI (ph (dp - 1)) then plF t n g (skp t n a + 1) k (pcl P (op (dp - 1)) (if hr t n a = nI 58 then 5 else 6) k) (if hr t n a = nI 58 then dp else dp - 1) op (fun i => if i = dp - 1 then 46 else ph i)
       else (false, skp t n a, P))
    else (if (stG t n (skp t n a) (ix (kdI (hr t n a))) k dp).1 = true then plF t n g (stG t n (skp t n a) (ix (kdI (hr t n a))) k dp).2.1 (k + 1) (padd P k (stG t n (skp t n a) (ix (kdI (hr t n a))) k dp).2.2) (if 3 ≤ ix (kdI (hr t n a)) then dp + 1 else dp) (opn op (ix (kdI (hr t n a))) dp k) (opn ph (ix (kdI (hr t n a))) dp (if ix (kdI (hr t n a)) = 3 then 93 else 58))
      else (false, (stG t n (skp t n a) (ix (kdI (hr t n a))) k dp).2.1, P))
def pAll (t : Nat → Int32) (n : Nat) : Bool × Nat × (Nat → Nat → Nat) := plF t n 121 0 0 (fun _ _ => 0) 0 (fun _ => 0) (fun _ => 0)
theorem kd_of {c : Int32} (h : ¬ kdI c < 0) : ∃ k, k ≤ 4 ∧ kdI c = nI k := by
  unfold kdI at *
  split
  · exact ⟨0, by omega, rfl⟩
  · split
    · exact ⟨1, by omega, rfl⟩
    · split
      · exact ⟨2, by omega, rfl⟩
      · split
        · exact ⟨3, by omega, rfl⟩
        · split
          · exact ⟨4, by omega, rfl⟩
          · rename_i h1 h2 h3 h4 h5
            rw [if_neg h1, if_neg h2, if_neg h3, if_neg h4, if_neg h5] at h
            exact absurd (by decide +kernel) h
theorem nk_neg {k : Nat} (hk : k ≤ 4) : ¬ nI k < 0 := fun h => by
  rw [i_lt, nt _ (by omega), Int32.toInt_zero] at h
  omega
section
variable {t : Nat → Int32} {n g a k dp kd : Nat} {P : Nat → Nat → Nat} {op ph : Nat → Nat}
theorem pl_0 (h : hr t n a = nI 0) : plF t n (g + 1) a k P dp op ph = (decide (dp = 0), (if dp = 0 then k else skp t n a), P) := if_pos h
theorem pl_st (h0 : ¬ hr t n a = nI 0) (hk : kdI (hr t n a) = nI kd) (hk4 : kd ≤ 4) (hs : (stG t n (skp t n a) kd k dp).1 = true) : plF t n (g + 1) a k P dp op ph = plF t n g (stG t n (skp t n a) kd k dp).2.1 (k + 1) (padd P k (stG t n (skp t n a) kd k dp).2.2) (if 3 ≤ kd then dp + 1 else dp) (opn op kd dp k) (opn ph kd dp (if kd = 3 then 93 else 58)) := by
  rw [plF, if_neg h0, hk, if_neg (nk_neg hk4), ix_n (by omega), if_pos hs]
theorem pl_sf (h0 : ¬ hr t n a = nI 0) (hk : kdI (hr t n a) = nI kd) (hk4 : kd ≤ 4) (hs : ¬ (stG t n (skp t n a) kd k dp).1 = true) : plF t n (g + 1) a k P dp op ph = (false, (stG t n (skp t n a) kd k dp).2.1, P) := by
  unfold plF
  rw [if_neg h0, hk, if_neg (nk_neg hk4), ix_n (by omega), if_neg hs]
theorem pl_cl (h0 : ¬ hr t n a = nI 0) (hk : kdI (hr t n a) < 0) (hd : 0 < dp) (hc : hr t n a = nI (ph (dp - 1))) : plF t n (g + 1) a k P dp op ph = plF t n g (skp t n a + 1) k (pcl P (op (dp - 1)) (if hr t n a = nI 58 then 5 else 6) k) (if hr t n a = nI 58 then dp else dp - 1) op (fun i => if i = dp - 1 then 46 else ph i) := by
  rw [plF, if_neg h0, if_pos hk, if_pos ⟨hd, hc⟩]
theorem pl_no (h0 : ¬ hr t n a = nI 0) (hk : kdI (hr t n a) < 0) (hc : ¬ (0 < dp ∧ hr t n a = nI (ph (dp - 1)))) : plF t n (g + 1) a k P dp op ph = (false, skp t n a, P) := by
  rw [plF, if_neg h0, if_pos hk, if_neg hc]
end
theorem stF_b {t : Nat → Int32} {n q kd : Nat} (hq : q < n) (h : (stF t n q kd).1 = true) : (stF t n q kd).2.1 ≤ n ∧ q < (stF t n q kd).2.1 := by
  have pl : ∀ a, a ≤ n → a ≤ pas t n a (nI 59) ∧ pas t n a (nI 59) ≤ n := fun a ha => by
    refine ⟨?_, pas_le ha (nz 59 (by omega) (by omega))⟩
    have := (skp_ge t n _ a rfl).1
    unfold pas
    split <;> omega
  have p6 : ∀ a, a ≤ n → a ≤ pas t n a (nI 61) ∧ pas t n a (nI 61) ≤ n := fun a ha => by
    refine ⟨?_, pas_le ha (nz 61 (by omega) (by omega))⟩
    have := (skp_ge t n _ a rfl).1
    unfold pas
    split <;> omega
  have e5 : ∀ a z, a ≤ n → (sE5 t n a z).2.1 ≤ n ∧ a ≤ (sE5 t n a z).2.1 := fun a z ha => ⟨(pl a ha).2, (pl a ha).1⟩
  have e4 : ∀ a c u, a ≤ n → (sE4 t n a c u).1 = true → (sE4 t n a c u).2.1 ≤ n ∧ a ≤ (sE4 t n a c u).2.1 := fun a c u ha h => by
    have hs := skp_ge t n _ a rfl
    have hs2 := hs.2 ha
    unfold sE4 at *
    split
    · rename_i ho
      rw [if_pos ho] at h
      have hl := hr_lt (opc_n ho).2
      have ht := teF_b (t := t) (n := n) (a := skp t n a + 1) (by omega)
      split
      · have := e5 (teF t n (skp t n a + 1)).2.1 (seR c (ix (hr t n a)) u (teF t n (skp t n a + 1)).2.2) ht.1
        omega
      · rename_i h2; rw [if_neg h2] at h; cases h
    · have := e5 (skp t n a) (seR c 0 u 0) hs2
      omega
  have e3 : ∀ a c, a ≤ n → (sE3 t n a c).1 = true → (sE3 t n a c).2.1 ≤ n ∧ a ≤ (sE3 t n a c).2.1 := fun a c ha h => by
    have ht := teF_b (t := t) (n := n) ha
    unfold sE3 at *
    split
    · rename_i h2
      rw [if_pos h2] at h
      have := e4 _ _ _ ht.1 h
      omega
    · rename_i h2; rw [if_neg h2] at h; cases h
  have e2 : ∀ a c, a ≤ n → (sE2 t n a c).1 = true → (sE2 t n a c).2.1 ≤ n ∧ a ≤ (sE2 t n a c).2.1 := fun a c ha h => by
    have hp := p6 a ha
    unfold sE2 at *
    split
    · rename_i h2
      rw [if_pos h2] at h
      have := e3 _ _ hp.2 h
      omega
    · rename_i h2; rw [if_neg h2] at h; cases h
  unfold stF at *
  split
  · rename_i h0
    rw [if_pos h0] at h
    have hc := ceF_b (t := t) (n := n) (a := q) (by omega)
    unfold seF at *
    split
    · rename_i h2
      rw [if_pos h2] at h
      have := e2 _ _ hc.1 h
      have := hc.2.2.2 h2
      omega
    · rename_i h2; rw [if_neg h2] at h; cases h
  · rename_i h0
    rw [if_neg h0] at h
    split
    · have := pl (q + 1) (by omega)
      show pas t n (q + 1) (nI 59) ≤ n ∧ q < pas t n (q + 1) (nI 59)
      omega
    · rename_i h2
      rw [if_neg h2] at h
      have hc := ceF_b (t := t) (n := n) (a := q + 1) (by omega)
      split
      · split
        · have := pl (ceF t n (q + 1)).2.1 hc.1
          show pas t n (ceF t n (q + 1)).2.1 (nI 59) ≤ n ∧ q < pas t n (ceF t n (q + 1)).2.1 (nI 59)
          omega
        · show (ceF t n (q + 1)).2.1 ≤ n ∧ q < (ceF t n (q + 1)).2.1
          omega
      · rename_i h3; rw [if_neg h3] at h; cases h
theorem stG_t {t : Nat → Int32} {n q kd k dp : Nat} (h : (stG t n q kd k dp).1 = true) : stG t n q kd k dp = stF t n q kd ∧ ¬ ful k kd dp := by
  unfold stG at *
  by_cases hf : ful k kd dp
  · rw [if_pos hf] at h; cases h
  · exact ⟨if_neg hf, hf⟩
theorem kd_0 {c : Int32} (h : kdI c = nI 0) : isL c := by
  unfold kdI at h
  by_cases hl : isL c
  · exact hl
  · rw [if_neg hl] at h
    split at h
    · exact absurd h (by decide +kernel)
    · split at h
      · exact absurd h (by decide +kernel)
      · split at h
        · exact absurd h (by decide +kernel)
        · split at h
          · exact absurd h (by decide +kernel)
          · exact absurd h (by decide +kernel)
/-- what the loop holds -/
def rdI (μ ν : xS) (n a k : Nat) (P : Nat → Nat → Nat) (dp : Nat) (op ph : Nat → Nat) : Prop := sam8 μ ν ∧ pst ν n (skp (μ 3) n a) ∧ a ≤ n ∧ isPg (ν 5) k P ∧ k ≤ 60 ∧ dp ≤ 5 ∧ ∀ i, i < dp → ν 7 i = nI (op i) ∧ op i < k ∧ ν 8 i = nI (ph i) ∧ ph i < 2 ^ 31
theorem sam8.t8 {μ ν κ : xS} (h : sam8 μ ν) (h2 : sam8 ν κ) : sam8 μ κ := fun w h5 h6 h7 h8 => (h2 w h5 h6 h7 h8).trans (h w h5 h6 h7 h8)