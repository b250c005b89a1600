/-! the class: its whole state in numbers -/
def CV (f : Nat → xC) (z : Nat) (rl : Nat → Nat) (sv : Nat) (S : Nat → xS) (t : Nat → Int32) (n : Nat) (N : Nat → Nat) (P : Nat → Nat → Nat → Nat) (HN : Nat → Nat → Nat) (HP : Nat → Nat → Nat → Nat → Nat) : Prop := CW f z rl sv S ∧ (S 13 0 = t ∧ S 13 1 0 = nI n) ∧ (S 14 0 0 = (-1) ∧ S 14 1 0 = nI 0) ∧ (∀ i, i ≤ 1 → LsP (S i) (N i) (P i)) ∧ ∀ k, k < sv → ∀ i, i ≤ 1 → LsP (S (2 + 5 * i + k)) (HN k i) (HP k i)
def AI (t : Nat → Int32) (n sv : Nat) (N : Nat → Nat) (P : Nat → Nat → Nat → Nat) (HN : Nat → Nat → Nat) (HP : Nat → Nat → Nat → Nat → Nat) : Prop := n ≤ 120 ∧ (∀ i, i < n → 0 ≤ (t i).toInt) ∧ sv ≤ 5 ∧ (∀ i, i ≤ 1 → wfP (N i) (P i)) ∧ ∀ k, k < sv → ∀ i, i ≤ 1 → wfP (HN k i) (HP k i)
def CI (f : Nat → xC) (z : Nat) (t : Nat → Int32) (n sv : Nat) (N : Nat → Nat) (P : Nat → Nat → Nat → Nat) (HN : Nat → Nat → Nat) (HP : Nat → Nat → Nat → Nat → Nat) : Prop := ∃ rl S, CV f z rl sv S t n N P HN HP
def hpu {α : Type} (X : Nat → Nat → α) (sv : Nat) (Y : Nat → α) : Nat → Nat → α := fun k i => if k = (if sv = 5 then 4 else sv) then Y i else X (k + (if sv = 5 then 1 else 0)) i
def spu (sv : Nat) : Nat := (if sv = 5 then 4 else sv) + 1
def set1 {α : Type} (X : Nat → α) (p : Nat) (x : α) : Nat → α := fun i => if i = p then x else X i
section
variable {z n sv : Nat} {rl : Nat → Nat} {S : Nat → xS} {t : Nat → Int32} {N : Nat → Nat} {P : Nat → Nat → Nat → Nat} {HN : Nat → Nat → Nat} {HP : Nat → Nat → Nat → Nat → Nat} {f f1 : Nat → xC}
theorem CV.tx {τ : xS} {t' : Nat → Int32} {n' : Nat} (h : CV f z rl sv S t n N P HN HP) (h5 : sv ≤ 5) (hC : CW f1 z rl sv (ss S 13 τ)) (h0 : τ 0 = t') (h1 : τ 1 0 = nI n') : CV f1 z rl sv (ss S 13 τ) t' n' N P HN HP := by
  refine ⟨hC, ⟨by rw [ss_s]; exact h0, by rw [ss_s]; exact h1⟩, by rw [ss_n (by omega)]; exact h.2.2.1, fun i hi => by rw [ss_n (by omega)]; exact h.2.2.2.1 i hi, fun k hk i hi => ?_⟩
  rw [ss_n (by omega)]; exact h.2.2.2.2 k hk i hi
theorem CV.sm {S1 : Nat → xS} (h : CV f z rl sv S t n N P HN HP) (h5 : sv ≤ 5) (hC : CW f1 z rl sv S1) (e : ∀ i, i < 12 → S1 i = S i) (e13 : S1 13 = S 13) (e14 : S1 14 0 0 = (-1) ∧ S1 14 1 0 = nI 0) : CV f1 z rl sv S1 t n N P HN HP := ⟨hC, by rw [e13]; exact h.2.1, e14, fun i hi => by rw [e i (by omega)]; exact h.2.2.2.1 i hi, fun k hk i hi => by rw [e _ (by omega)]; exact h.2.2.2.2 k hk i hi⟩
theorem CV.ph {S1 : Nat → xS} {rl1 : Nat → Nat} (h : CV f z rl sv S t n N P HN HP) (h5 : sv ≤ 5) (hC : CW f1 z rl1 (spu sv) S1) (hp : psh S S1 sv) : CV f1 z rl1 (spu sv) S1 t n N P (hpu HN sv N) (hpu HP sv P) := by
  obtain ⟨p1, p2, p3, p4, p5, p6⟩ := hp
  refine ⟨hC, by rw [p1 13 (by omega)]; exact h.2.1, by rw [p1 14 (by omega)]; exact h.2.2.1, fun i hi => ?_, fun k hk i hi => ?_⟩
  · rcases (show i = 0 ∨ i = 1 by omega) with rfl | rfl
    · rw [p2]; exact h.2.2.2.1 0 hi
    · rw [p3]; exact h.2.2.2.1 1 hi
  · unfold spu at hk
    unfold hpu
    generalize hqe : (if sv = 5 then 4 else sv) = q at *
    by_cases e : k = q
    · rw [if_pos e, if_pos e]
      subst e
      rcases (show i = 0 ∨ i = 1 by omega) with rfl | rfl
      · exact (h.2.2.2.1 0 hi).cp p4
      · exact (h.2.2.2.1 1 hi).cp p5
    · rw [if_neg e, if_neg e]
      have hk' : k < q := by omega
      obtain ⟨a, b⟩ := p6 k hk'
      have hks : k + (if sv = 5 then 1 else 0) < sv := by
        by_cases e5 : sv = 5
        · rw [if_pos e5] at hqe ⊢; omega
        · rw [if_neg e5] at hqe ⊢; omega
      have g := h.2.2.2.2 _ hks i hi
      rcases (show i = 0 ∨ i = 1 by omega) with rfl | rfl
      · rw [show 2 + 5 * 0 + k = 2 + k by omega, a]; exact g
      · rw [show 2 + 5 * 1 + k = 7 + k by omega, b]; exact g
theorem CV.li {p n' : Nat} {P' : Nat → Nat → Nat} {τ : xS} (h : CV f z rl sv S t n N P HN HP) (hp : p ≤ 1) (hC : CW f1 z rl sv (ss S p τ)) (hτ : LsP τ n' P') : CV f1 z rl sv (ss S p τ) t n (set1 N p n') (set1 P p P') HN HP := by
  refine ⟨hC, by rw [ss_n (by omega)]; exact h.2.1, by rw [ss_n (by omega)]; exact h.2.2.1, fun i hi => ?_, fun k hk i hi => by rw [ss_n (by omega)]; exact h.2.2.2.2 k hk i hi⟩
  unfold set1
  by_cases e : i = p
  · subst e
    rw [ss_s, if_pos rfl, if_pos rfl]
    exact hτ
  · rw [ss_n e, if_neg e, if_neg e]
    exact h.2.2.2.1 i hi
end
theorem s_X5_add_p {G : xG} {d : Nat} {f : Nat → xC} {r : Nat × Nat} {Q : Option Value → xM → Prop} {a n : Nat} {χ : xS} {c : Int32} (hX : xat f a χ) (hn : χ 1 0 = nI n) (hn2 : n < 120) (hc : vp_nar .char c = c) (hq : Q none (xput f a (up2 (up2 χ 0 n c) 1 0 (nI (n + 1))), r)) : xMet G (d + 1) mX5_add [.ref a, .int c] (f, r) r Q := by
  have h := s_X5_add (G := G) (d := d) (f := f) (r := r) (Q := Q) (a := a) hn hn2 hc hq
  rw [xat_put hX] at h
  exact h
theorem nar_c {c : Int32} (h : 1 ≤ c.toInt ∧ c.toInt ≤ 255) : (c.toUInt32 % 65536).toInt32 = c ∧ vp_nar .char c = c := by
  have e : (c.toUInt32 % 65536).toInt32 = c := by
    obtain ⟨k, hk, rfl⟩ := k_of (v := c) (by omega)
    rw [nt _ hk] at h
    rcases h with ⟨h1, h2⟩
    have key : ∀ k : Nat, k < 256 → ((nI k).toUInt32 % 65536).toInt32 = nI k := by decide +kernel
    exact key k (by omega)
  exact ⟨e, e⟩
theorem s_X7_append {G : xG} {d : Nat} {f : Nat → xC} {r : Nat × Nat} {Q : Option Value → xM → Prop} {z n sv : Nat} {rl : Nat → Nat} {S : Nat → xS} {t : Nat → Int32} {N : Nat → Nat} {P : Nat → Nat → Nat → Nat} {HN : Nat → Nat → Nat} {HP : Nat → Nat → Nat → Nat → Nat} {c : Int32} (hV : CV f z rl sv S t n N P HN HP) (hA : AI t n sv N P HN HP) (hq1 : ¬ (1 ≤ c.toInt ∧ c.toInt ≤ 255) → Q (some (.int (-10001))) (f, r)) (hq2 : (1 ≤ c.toInt ∧ c.toInt ≤ 255) → n = 120 → Q (some (.int (-10003))) (f, r)) (hq : (1 ≤ c.toInt ∧ c.toInt ≤ 255) → n < 120 → ∀ f', CI f' z (upd t n c) (n + 1) sv N P HN HP → rgn z f f' → Q (some (.int (nI (n + 1)))) (f', r)) : xMet G (d + 2) mX7_append [.ref z, .int c] (f, r) r Q := by
  refine xMet_0 (by decide +kernel) rfl (Nat.le_of_ble_eq_true rfl) ?_
  show xX G (d + 2) mX7_append r r (xΦ G r r Q) 0 [(0, .ref z), (1, .int c)] [] (f, r)
  have hC := hV.1
  have hn2 := hA.1
  refine xr_iload_n (n := 1) dX7_append_0 rfl rfl ?_
  refine xr_iconst (v := nI 1) (n := 2) dX7_append_1 (by decide) rfl ?_
  refine xr_sipush (v := nI 255) (n := 5) dX7_append_2 (by decide) rfl ?_
  refine xr_callS (y2 := mX7_isWithin) (As := [_, _, _]) (n := 8) dX7_append_5 lm_X7_59 pm_X7_isWithin kp_static_yX7_isWithin rfl rfl (by simp [Value.category]) rfl ⟨Nat.le_refl _, Nat.le_refl _⟩ ?_
  refine s_X7_isWithin ?_
  dsimp only [xK, xps]
  refine xr_bne (tgt := 15) (n := 11) dX7_append_8 (by decide) rfl (fun h8 => ?_) (fun h8 => ?_)
  · rw [nt _ (by omega), nt _ (by omega)] at h8
    refine xr_aload_n (n := 16) dX7_append_15 rfl rfl ?_
    refine xr_get (n := 19) dX7_append_16 fl_X7_12 (by first | assumption | exact hC.2.1.1 | exact hC.2.1.2.1 | exact hC.2.2.1.1 | exact xat_0 hC.x | exact lat_0 hC.d | exact lat_0 (hC.l (by omega)) | exact qat_0 hC.q | exact tat_0 hC.t0 | exact tat_0 hC.t1 | exact tat_r hC.t0 (i := 1) (by decide) | exact tat_r hC.t1 (i := 1) (by decide) | exact hC1.2.1.1 | exact hC1.2.1.2.1 | exact hC1.2.2.1.1 | exact xat_0 hC1.x | exact lat_0 hC1.d | exact lat_0 (hC1.l (by omega)) | exact qat_0 hC1.q | exact tat_0 hC1.t0 | exact tat_0 hC1.t1 | exact tat_r hC1.t0 (i := 1) (by decide) | exact tat_r hC1.t1 (i := 1) (by decide) | exact hC2.2.1.1 | exact hC2.2.1.2.1 | exact hC2.2.2.1.1 | exact xat_0 hC2.x | exact lat_0 hC2.d | exact lat_0 (hC2.l (by omega)) | exact qat_0 hC2.q | exact tat_0 hC2.t0 | exact tat_0 hC2.t1 | exact tat_r hC2.t0 (i := 1) (by decide) | exact tat_r hC2.t1 (i := 1) (by decide)) (by rfl) rfl ?_
    refine xr_callV (y2 := mX5_isFull) (As := []) (n := 22) dX7_append_19 lm_X7_63 pm_X5_isFull pi_X5_isFull (by first | assumption | exact hC.2.1.1 | exact hC.2.1.2.1 | exact hC.2.2.1.1 | exact xat_0 hC.x | exact lat_0 hC.d | exact lat_0 (hC.l (by omega)) | exact qat_0 hC.q | exact tat_0 hC.t0 | exact tat_0 hC.t1 | exact tat_r hC.t0 (i := 1) (by decide) | exact tat_r hC.t1 (i := 1) (by decide) | exact hC1.2.1.1 | exact hC1.2.1.2.1 | exact hC1.2.2.1.1 | exact xat_0 hC1.x | exact lat_0 hC1.d | exact lat_0 (hC1.l (by omega)) | exact qat_0 hC1.q | exact tat_0 hC1.t0 | exact tat_0 hC1.t1 | exact tat_r hC1.t0 (i := 1) (by decide) | exact tat_r hC1.t1 (i := 1) (by decide) | exact hC2.2.1.1 | exact hC2.2.1.2.1 | exact hC2.2.2.1.1 | exact xat_0 hC2.x | exact lat_0 hC2.d | exact lat_0 (hC2.l (by omega)) | exact qat_0 hC2.q | exact tat_0 hC2.t0 | exact tat_0 hC2.t1 | exact tat_r hC2.t0 (i := 1) (by decide) | exact tat_r hC2.t1 (i := 1) (by decide)) rfl rfl rfl (by simp [Value.category]) rfl ⟨Nat.le_refl _, Nat.le_refl _⟩ ?_
    refine s_X5_isFull hC.x hV.2.1.2 hn2 ?_
    dsimp only [xK, xps]
    refine xr_beq (tgt := 29) (n := 25) dX7_append_22 (by decide) rfl (fun h22 => ?_) (fun h22 => ?_)
    · refine xr_aload_n (n := 30) dX7_append_29 rfl rfl ?_
      refine xr_get (n := 33) dX7_append_30 fl_X7_12 (by first | assumption | exact hC.2.1.1 | exact hC.2.1.2.1 | exact hC.2.2.1.1 | exact xat_0 hC.x | exact lat_0 hC.d | exact lat_0 (hC.l (by omega)) | exact qat_0 hC.q | exact tat_0 hC.t0 | exact tat_0 hC.t1 | exact tat_r hC.t0 (i := 1) (by decide) | exact tat_r hC.t1 (i := 1) (by decide) | exact hC1.2.1.1 | exact hC1.2.1.2.1 | exact hC1.2.2.1.1 | exact xat_0 hC1.x | exact lat_0 hC1.d | exact lat_0 (hC1.l (by omega)) | exact qat_0 hC1.q | exact tat_0 hC1.t0 | exact tat_0 hC1.t1 | exact tat_r hC1.t0 (i := 1) (by decide) | exact tat_r hC1.t1 (i := 1) (by decide) | exact hC2.2.1.1 | exact hC2.2.1.2.1 | exact hC2.2.2.1.1 | exact xat_0 hC2.x | exact lat_0 hC2.d | exact lat_0 (hC2.l (by omega)) | exact qat_0 hC2.q | exact tat_0 hC2.t0 | exact tat_0 hC2.t1 | exact tat_r hC2.t0 (i := 1) (by decide) | exact tat_r hC2.t1 (i := 1) (by decide)) (by rfl) rfl ?_
      refine xr_iload_n (n := 34) dX7_append_33 rfl rfl ?_
      refine xr_i2c (n := 35) dX7_append_34 ((nar_c h8).1) rfl ?_
      refine xr_callV (y2 := mX5_add) (As := [_]) (n := 38) dX7_append_35 lm_X7_67 pm_X5_add pi_X5_add (by first | assumption | exact hC.2.1.1 | exact hC.2.1.2.1 | exact hC.2.2.1.1 | exact xat_0 hC.x | exact lat_0 hC.d | exact lat_0 (hC.l (by omega)) | exact qat_0 hC.q | exact tat_0 hC.t0 | exact tat_0 hC.t1 | exact tat_r hC.t0 (i := 1) (by decide) | exact tat_r hC.t1 (i := 1) (by decide) | exact hC1.2.1.1 | exact hC1.2.1.2.1 | exact hC1.2.2.1.1 | exact xat_0 hC1.x | exact lat_0 hC1.d | exact lat_0 (hC1.l (by omega)) | exact qat_0 hC1.q | exact tat_0 hC1.t0 | exact tat_0 hC1.t1 | exact tat_r hC1.t0 (i := 1) (by decide) | exact tat_r hC1.t1 (i := 1) (by decide) | exact hC2.2.1.1 | exact hC2.2.1.2.1 | exact hC2.2.2.1.1 | exact xat_0 hC2.x | exact lat_0 hC2.d | exact lat_0 (hC2.l (by omega)) | exact qat_0 hC2.q | exact tat_0 hC2.t0 | exact tat_0 hC2.t1 | exact tat_r hC2.t0 (i := 1) (by decide) | exact tat_r hC2.t1 (i := 1) (by decide)) rfl rfl rfl (by simp [Value.category]) rfl ⟨Nat.le_refl _, Nat.le_refl _⟩ ?_
      refine s_X5_add_p hC.x hV.2.1.2 (by omega) (nar_c h8).2 ?_
      obtain ⟨hC1, hr1⟩ := hC.ux (up2 (up2 (S 13) 0 n c) 1 0 (nI (n + 1)))
      have hV1 := hV.tx hA.2.2.1 hC1 (t' := upd t n c) (n' := n + 1) (by rw [up2_n _ _ _ (by omega), up2_s, hV.2.1.1]) (up2_ss _ _ _ _)
      generalize xput f (z + 1) (up2 (up2 (S 13) 0 n c) 1 0 (nI (n + 1))) = f1 at hC1 hr1 hV1 ⊢
      dsimp only [xK, xps]
      refine xr_aload_n (n := 39) dX7_append_38 rfl rfl ?_
      refine xr_get (n := 42) dX7_append_39 fl_X7_12 (by first | assumption | exact hC.2.1.1 | exact hC.2.1.2.1 | exact hC.2.2.1.1 | exact xat_0 hC.x | exact lat_0 hC.d | exact lat_0 (hC.l (by omega)) | exact qat_0 hC.q | exact tat_0 hC.t0 | exact tat_0 hC.t1 | exact tat_r hC.t0 (i := 1) (by decide) | exact tat_r hC.t1 (i := 1) (by decide) | exact hC1.2.1.1 | exact hC1.2.1.2.1 | exact hC1.2.2.1.1 | exact xat_0 hC1.x | exact lat_0 hC1.d | exact lat_0 (hC1.l (by omega)) | exact qat_0 hC1.q | exact tat_0 hC1.t0 | exact tat_0 hC1.t1 | exact tat_r hC1.t0 (i := 1) (by decide) | exact tat_r hC1.t1 (i := 1) (by decide) | exact hC2.2.1.1 | exact hC2.2.1.2.1 | exact hC2.2.2.1.1 | exact xat_0 hC2.x | exact lat_0 hC2.d | exact lat_0 (hC2.l (by omega)) | exact qat_0 hC2.q | exact tat_0 hC2.t0 | exact tat_0 hC2.t1 | exact tat_r hC2.t0 (i := 1) (by decide) | exact tat_r hC2.t1 (i := 1) (by decide)) (by rfl) rfl ?_
      refine xr_get (n := 45) dX7_append_42 fl_X7_71 (by first | assumption | exact hC.2.1.1 | exact hC.2.1.2.1 | exact hC.2.2.1.1 | exact xat_0 hC.x | exact lat_0 hC.d | exact lat_0 (hC.l (by omega)) | exact qat_0 hC.q | exact tat_0 hC.t0 | exact tat_0 hC.t1 | exact tat_r hC.t0 (i := 1) (by decide) | exact tat_r hC.t1 (i := 1) (by decide) | exact hC1.2.1.1 | exact hC1.2.1.2.1 | exact hC1.2.2.1.1 | exact xat_0 hC1.x | exact lat_0 hC1.d | exact lat_0 (hC1.l (by omega)) | exact qat_0 hC1.q | exact tat_0 hC1.t0 | exact tat_0 hC1.t1 | exact tat_r hC1.t0 (i := 1) (by decide) | exact tat_r hC1.t1 (i := 1) (by decide) | exact hC2.2.1.1 | exact hC2.2.1.2.1 | exact hC2.2.2.1.1 | exact xat_0 hC2.x | exact lat_0 hC2.d | exact lat_0 (hC2.l (by omega)) | exact qat_0 hC2.q | exact tat_0 hC2.t0 | exact tat_0 hC2.t1 | exact tat_r hC2.t0 (i := 1) (by decide) | exact tat_r hC2.t1 (i := 1) (by decide)) (by rfl) rfl ?_
      rw [hV1.2.1.2]
      refine xr_ireturn dX7_append_45 rfl rfl rfl ?_
      exact hq h8 (by omega) f1 ⟨_, _, hV1⟩ hr1
    · refine xr_sipush (v := (-10003)) (n := 28) dX7_append_25 (by decide) rfl ?_
      refine xr_ireturn dX7_append_28 rfl rfl rfl ?_
      exact hq2 h8 (by omega)
  · rw [nt _ (by omega), nt _ (by omega)] at h8
    refine xr_sipush (v := (-10001)) (n := 14) dX7_append_11 (by decide) rfl ?_
    refine xr_ireturn dX7_append_14 rfl rfl rfl ?_
    exact hq1 h8

theorem s_X7_clearText {G : xG} {d : Nat} {f : Nat → xC} {r : Nat × Nat} {Q : Option Value → xM → Prop} {z n sv : Nat} {rl : Nat → Nat} {S : Nat → xS} {t : Nat → Int32} {N : Nat → Nat} {P : Nat → Nat → Nat → Nat} {HN : Nat → Nat → Nat} {HP : Nat → Nat → Nat → Nat → Nat}  (hV : CV f z rl sv S t n N P HN HP) (hA : AI t n sv N P HN HP)  (hq : ∀ f', CI f' z t 0 sv N P HN HP → rgn z f f' → Q (some (.int (nI n))) (f', r)) : xMet G d mX7_clearText [.ref z] (f, r) r Q := by
  refine xMet_0 (by decide +kernel) rfl (Nat.le_of_ble_eq_true rfl) ?_
  show xX G d mX7_clearText r r (xΦ G r r Q) 0 [(0, .ref z)] [] (f, r)
  have hC := hV.1
  have hx := hV.2.1
  have he := xat_put hC.x
  refine xr_aload_n (n := 1) dX7_clearText_0 rfl rfl ?_
  refine xr_get (n := 4) dX7_clearText_1 fl_X7_12 (by first | assumption | exact hC.2.1.1 | exact hC.2.1.2.1 | exact hC.2.2.1.1 | exact xat_0 hC.x | exact lat_0 hC.d | exact lat_0 (hC.l (by omega)) | exact qat_0 hC.q | exact tat_0 hC.t0 | exact tat_0 hC.t1 | exact tat_r hC.t0 (i := 1) (by decide) | exact tat_r hC.t1 (i := 1) (by decide) | exact hC1.2.1.1 | exact hC1.2.1.2.1 | exact hC1.2.2.1.1 | exact xat_0 hC1.x | exact lat_0 hC1.d | exact lat_0 (hC1.l (by omega)) | exact qat_0 hC1.q | exact tat_0 hC1.t0 | exact tat_0 hC1.t1 | exact tat_r hC1.t0 (i := 1) (by decide) | exact tat_r hC1.t1 (i := 1) (by decide) | exact hC2.2.1.1 | exact hC2.2.1.2.1 | exact hC2.2.2.1.1 | exact xat_0 hC2.x | exact lat_0 hC2.d | exact lat_0 (hC2.l (by omega)) | exact qat_0 hC2.q | exact tat_0 hC2.t0 | exact tat_0 hC2.t1 | exact tat_r hC2.t0 (i := 1) (by decide) | exact tat_r hC2.t1 (i := 1) (by decide)) (by rfl) rfl ?_
  refine xr_get (n := 7) dX7_clearText_4 fl_X7_71 (by first | assumption | exact hC.2.1.1 | exact hC.2.1.2.1 | exact hC.2.2.1.1 | exact xat_0 hC.x | exact lat_0 hC.d | exact lat_0 (hC.l (by omega)) | exact qat_0 hC.q | exact tat_0 hC.t0 | exact tat_0 hC.t1 | exact tat_r hC.t0 (i := 1) (by decide) | exact tat_r hC.t1 (i := 1) (by decide) | exact hC1.2.1.1 | exact hC1.2.1.2.1 | exact hC1.2.2.1.1 | exact xat_0 hC1.x | exact lat_0 hC1.d | exact lat_0 (hC1.l (by omega)) | exact qat_0 hC1.q | exact tat_0 hC1.t0 | exact tat_0 hC1.t1 | exact tat_r hC1.t0 (i := 1) (by decide) | exact tat_r hC1.t1 (i := 1) (by decide) | exact hC2.2.1.1 | exact hC2.2.1.2.1 | exact hC2.2.2.1.1 | exact xat_0 hC2.x | exact lat_0 hC2.d | exact lat_0 (hC2.l (by omega)) | exact qat_0 hC2.q | exact tat_0 hC2.t0 | exact tat_0 hC2.t1 | exact tat_r hC2.t0 (i := 1) (by decide) | exact tat_r hC2.t1 (i := 1) (by decide)) (by rfl) rfl ?_
  rw [hV.2.1.2]
  refine xq_istore_n 1 (n := 8) dX7_clearText_7 rfl rfl rfl ?_
  simp only [xst, Nat.beq, List.filter, Bool.not_true, Bool.not_false]
  refine xr_aload_n (n := 9) dX7_clearText_8 rfl rfl ?_
  refine xr_get (n := 12) dX7_clearText_9 fl_X7_12 (by first | assumption | exact hC.2.1.1 | exact hC.2.1.2.1 | exact hC.2.2.1.1 | exact xat_0 hC.x | exact lat_0 hC.d | exact lat_0 (hC.l (by omega)) | exact qat_0 hC.q | exact tat_0 hC.t0 | exact tat_0 hC.t1 | exact tat_r hC.t0 (i := 1) (by decide) | exact tat_r hC.t1 (i := 1) (by decide) | exact hC1.2.1.1 | exact hC1.2.1.2.1 | exact hC1.2.2.1.1 | exact xat_0 hC1.x | exact lat_0 hC1.d | exact lat_0 (hC1.l (by omega)) | exact qat_0 hC1.q | exact tat_0 hC1.t0 | exact tat_0 hC1.t1 | exact tat_r hC1.t0 (i := 1) (by decide) | exact tat_r hC1.t1 (i := 1) (by decide) | exact hC2.2.1.1 | exact hC2.2.1.2.1 | exact hC2.2.2.1.1 | exact xat_0 hC2.x | exact lat_0 hC2.d | exact lat_0 (hC2.l (by omega)) | exact qat_0 hC2.q | exact tat_0 hC2.t0 | exact tat_0 hC2.t1 | exact tat_r hC2.t0 (i := 1) (by decide) | exact tat_r hC2.t1 (i := 1) (by decide)) (by rfl) rfl ?_
  refine xr_iconst (v := nI 0) (n := 13) dX7_clearText_12 (by decide) rfl ?_
  refine xq_put (n := 16) dX7_clearText_13 fl_X7_71 rfl (by first | assumption | exact hC.2.1.1 | exact hC.2.1.2.1 | exact hC.2.2.1.1 | exact xat_0 hC.x | exact lat_0 hC.d | exact lat_0 (hC.l (by omega)) | exact qat_0 hC.q | exact tat_0 hC.t0 | exact tat_0 hC.t1 | exact tat_r hC.t0 (i := 1) (by decide) | exact tat_r hC.t1 (i := 1) (by decide) | exact hC1.2.1.1 | exact hC1.2.1.2.1 | exact hC1.2.2.1.1 | exact xat_0 hC1.x | exact lat_0 hC1.d | exact lat_0 (hC1.l (by omega)) | exact qat_0 hC1.q | exact tat_0 hC1.t0 | exact tat_0 hC1.t1 | exact tat_r hC1.t0 (i := 1) (by decide) | exact tat_r hC1.t1 (i := 1) (by decide) | exact hC2.2.1.1 | exact hC2.2.1.2.1 | exact hC2.2.2.1.1 | exact xat_0 hC2.x | exact lat_0 hC2.d | exact lat_0 (hC2.l (by omega)) | exact qat_0 hC2.q | exact tat_0 hC2.t0 | exact tat_0 hC2.t1 | exact tat_r hC2.t0 (i := 1) (by decide) | exact tat_r hC2.t1 (i := 1) (by decide)) (by rfl) (by rfl) (by rfl) rfl ?_
  rw [show xu f (z + 1) (ob 5 ([Value.ref (z + 1 + 1), Value.int (S 13 1 0)].set 1 (.int (nI 0)))) = xput f (z + 1) (up2 (S 13) 1 0 (nI 0)) from (congrArg (fun g => xu g (z + 1) (ob 5 [Value.ref (z + 1 + 1), Value.int (nI 0)])) he.symm).trans (xw_1 f (z + 1) (S 13) (nI 0))]
  obtain ⟨hC1, hr1⟩ := hC.ux (up2 (S 13) 1 0 (nI 0))
  have hV1 := hV.tx hA.2.2.1 hC1 (t' := t) (n' := 0) (by rw [up2_n _ _ _ (by omega)]; exact hx.1) (up2_ss _ _ _ _)
  generalize xput f (z + 1) (up2 (S 13) 1 0 (nI 0)) = f1 at hC1 hr1 hV1 ⊢
  refine xr_iload_n (n := 17) dX7_clearText_16 rfl rfl ?_
  refine xr_ireturn dX7_clearText_17 rfl rfl rfl ?_
  exact hq f1 ⟨_, _, hV1⟩ hr1

theorem s_X7_count {G : xG} {d : Nat} {f : Nat → xC} {r : Nat × Nat} {Q : Option Value → xM → Prop} {z n sv : Nat} {rl : Nat → Nat} {S : Nat → xS} {t : Nat → Int32} {N : Nat → Nat} {P : Nat → Nat → Nat → Nat} {HN : Nat → Nat → Nat} {HP : Nat → Nat → Nat → Nat → Nat} {w : Int32} (hV : CV f z rl sv S t n N P HN HP) (hA : AI t n sv N P HN HP) (hq0 : w.toInt = 0 → Q (some (.int (nI (N 0)))) (f, r)) (hq1 : w.toInt = 1 → Q (some (.int (nI (N 1)))) (f, r)) (hq2 : w.toInt = 2 → Q (some (.int (nI sv))) (f, r)) (hq3 : w.toInt = 3 → Q (some (.int (nI n))) (f, r)) (hq : ¬ (0 ≤ w.toInt ∧ w.toInt ≤ 3) → Q (some (.int (-10001))) (f, r)) : xMet G d mX7_count [.ref z, .int w] (f, r) r Q := by
  refine xMet_0 (by decide +kernel) rfl (Nat.le_of_ble_eq_true rfl) ?_
  show xX G d mX7_count r r (xΦ G r r Q) 0 [(0, .ref z), (1, .int w)] [] (f, r)
  have hC := hV.1
  have hl0 := (hV.2.2.2.1 0 (by omega)).1
  have hl1 := (hV.2.2.2.1 1 (by omega)).1
  have hx5 := hV.2.1.2
  refine xr_iload_n (n := 1) dX7_count_0 rfl rfl ?_
  rcases (show w.toInt < 0 ∨ 3 < w.toInt ∨ w.toInt = 0 ∨ w.toInt = 1 ∨ w.toInt = 2 ∨ w.toInt = 3 by omega) with hx | hx | hx | hx | hx | hx
  · refine xr_tableOut (n := 64) dX7_count_1 (Or.inl hx) (by decide) ?_
    refine xr_sipush (v := (-10001)) (n := 67) dX7_count_64 (by decide) rfl ?_
    refine xr_ireturn dX7_count_67 rfl rfl rfl ?_
    exact hq (by omega)
  · refine xr_tableOut (n := 64) dX7_count_1 (Or.inr hx) (by decide) ?_
    refine xr_sipush (v := (-10001)) (n := 67) dX7_count_64 (by decide) rfl ?_
    refine xr_ireturn dX7_count_67 rfl rfl rfl ?_
    exact hq (by omega)
  · refine xr_tableIn (n := 32) (off := 31) dX7_count_1 (by omega) (by omega) (by rw [hx]; rfl) (by decide) ?_
    refine xr_aload_n (n := 33) dX7_count_32 rfl rfl ?_
    refine xr_get (n := 36) dX7_count_33 fl_X7_53 (by first | assumption | exact hC.2.1.1 | exact hC.2.1.2.1 | exact hC.2.2.1.1 | exact xat_0 hC.x | exact lat_0 hC.d | exact lat_0 (hC.l (by omega)) | exact qat_0 hC.q | exact tat_0 hC.t0 | exact tat_0 hC.t1 | exact tat_r hC.t0 (i := 1) (by decide) | exact tat_r hC.t1 (i := 1) (by decide) | exact hC1.2.1.1 | exact hC1.2.1.2.1 | exact hC1.2.2.1.1 | exact xat_0 hC1.x | exact lat_0 hC1.d | exact lat_0 (hC1.l (by omega)) | exact qat_0 hC1.q | exact tat_0 hC1.t0 | exact tat_0 hC1.t1 | exact tat_r hC1.t0 (i := 1) (by decide) | exact tat_r hC1.t1 (i := 1) (by decide) | exact hC2.2.1.1 | exact hC2.2.1.2.1 | exact hC2.2.2.1.1 | exact xat_0 hC2.x | exact lat_0 hC2.d | exact lat_0 (hC2.l (by omega)) | exact qat_0 hC2.q | exact tat_0 hC2.t0 | exact tat_0 hC2.t1 | exact tat_r hC2.t0 (i := 1) (by decide) | exact tat_r hC2.t1 (i := 1) (by decide)) (by rfl) rfl ?_
    refine xr_get (n := 39) dX7_count_36 fl_X7_97 (by first | assumption | exact hC.2.1.1 | exact hC.2.1.2.1 | exact hC.2.2.1.1 | exact xat_0 hC.x | exact lat_0 hC.d | exact lat_0 (hC.l (by omega)) | exact qat_0 hC.q | exact tat_0 hC.t0 | exact tat_0 hC.t1 | exact tat_r hC.t0 (i := 1) (by decide) | exact tat_r hC.t1 (i := 1) (by decide) | exact hC1.2.1.1 | exact hC1.2.1.2.1 | exact hC1.2.2.1.1 | exact xat_0 hC1.x | exact lat_0 hC1.d | exact lat_0 (hC1.l (by omega)) | exact qat_0 hC1.q | exact tat_0 hC1.t0 | exact tat_0 hC1.t1 | exact tat_r hC1.t0 (i := 1) (by decide) | exact tat_r hC1.t1 (i := 1) (by decide) | exact hC2.2.1.1 | exact hC2.2.1.2.1 | exact hC2.2.2.1.1 | exact xat_0 hC2.x | exact lat_0 hC2.d | exact lat_0 (hC2.l (by omega)) | exact qat_0 hC2.q | exact tat_0 hC2.t0 | exact tat_0 hC2.t1 | exact tat_r hC2.t0 (i := 1) (by decide) | exact tat_r hC2.t1 (i := 1) (by decide)) (by rfl) rfl ?_
    rw [hl0]
    refine xr_ireturn dX7_count_39 rfl rfl rfl ?_
    exact hq0 hx
  · refine xr_tableIn (n := 40) (off := 39) dX7_count_1 (by omega) (by omega) (by rw [hx]; rfl) (by decide) ?_
    refine xr_aload_n (n := 41) dX7_count_40 rfl rfl ?_
    refine xr_get (n := 44) dX7_count_41 fl_X7_56 (by first | assumption | exact hC.2.1.1 | exact hC.2.1.2.1 | exact hC.2.2.1.1 | exact xat_0 hC.x | exact lat_0 hC.d | exact lat_0 (hC.l (by omega)) | exact qat_0 hC.q | exact tat_0 hC.t0 | exact tat_0 hC.t1 | exact tat_r hC.t0 (i := 1) (by decide) | exact tat_r hC.t1 (i := 1) (by decide) | exact hC1.2.1.1 | exact hC1.2.1.2.1 | exact hC1.2.2.1.1 | exact xat_0 hC1.x | exact lat_0 hC1.d | exact lat_0 (hC1.l (by omega)) | exact qat_0 hC1.q | exact tat_0 hC1.t0 | exact tat_0 hC1.t1 | exact tat_r hC1.t0 (i := 1) (by decide) | exact tat_r hC1.t1 (i := 1) (by decide) | exact hC2.2.1.1 | exact hC2.2.1.2.1 | exact hC2.2.2.1.1 | exact xat_0 hC2.x | exact lat_0 hC2.d | exact lat_0 (hC2.l (by omega)) | exact qat_0 hC2.q | exact tat_0 hC2.t0 | exact tat_0 hC2.t1 | exact tat_r hC2.t0 (i := 1) (by decide) | exact tat_r hC2.t1 (i := 1) (by decide)) (by rfl) rfl ?_
    refine xr_get (n := 47) dX7_count_44 fl_X7_97 (by first | assumption | exact hC.2.1.1 | exact hC.2.1.2.1 | exact hC.2.2.1.1 | exact xat_0 hC.x | exact lat_0 hC.d | exact lat_0 (hC.l (by omega)) | exact qat_0 hC.q | exact tat_0 hC.t0 | exact tat_0 hC.t1 | exact tat_r hC.t0 (i := 1) (by decide) | exact tat_r hC.t1 (i := 1) (by decide) | exact hC1.2.1.1 | exact hC1.2.1.2.1 | exact hC1.2.2.1.1 | exact xat_0 hC1.x | exact lat_0 hC1.d | exact lat_0 (hC1.l (by omega)) | exact qat_0 hC1.q | exact tat_0 hC1.t0 | exact tat_0 hC1.t1 | exact tat_r hC1.t0 (i := 1) (by decide) | exact tat_r hC1.t1 (i := 1) (by decide) | exact hC2.2.1.1 | exact hC2.2.1.2.1 | exact hC2.2.2.1.1 | exact xat_0 hC2.x | exact lat_0 hC2.d | exact lat_0 (hC2.l (by omega)) | exact qat_0 hC2.q | exact tat_0 hC2.t0 | exact tat_0 hC2.t1 | exact tat_r hC2.t0 (i := 1) (by decide) | exact tat_r hC2.t1 (i := 1) (by decide)) (by rfl) rfl ?_
    rw [hl1]
    refine xr_ireturn dX7_count_47 rfl rfl rfl ?_
    exact hq1 hx
  · refine xr_tableIn (n := 48) (off := 47) dX7_count_1 (by omega) (by omega) (by rw [hx]; rfl) (by decide) ?_
    refine xr_aload_n (n := 49) dX7_count_48 rfl rfl ?_
    refine xr_get (n := 52) dX7_count_49 fl_X7_35 (by first | assumption | exact hC.2.1.1 | exact hC.2.1.2.1 | exact hC.2.2.1.1 | exact xat_0 hC.x | exact lat_0 hC.d | exact lat_0 (hC.l (by omega)) | exact qat_0 hC.q | exact tat_0 hC.t0 | exact tat_0 hC.t1 | exact tat_r hC.t0 (i := 1) (by decide) | exact tat_r hC.t1 (i := 1) (by decide) | exact hC1.2.1.1 | exact hC1.2.1.2.1 | exact hC1.2.2.1.1 | exact xat_0 hC1.x | exact lat_0 hC1.d | exact lat_0 (hC1.l (by omega)) | exact qat_0 hC1.q | exact tat_0 hC1.t0 | exact tat_0 hC1.t1 | exact tat_r hC1.t0 (i := 1) (by decide) | exact tat_r hC1.t1 (i := 1) (by decide) | exact hC2.2.1.1 | exact hC2.2.1.2.1 | exact hC2.2.2.1.1 | exact xat_0 hC2.x | exact lat_0 hC2.d | exact lat_0 (hC2.l (by omega)) | exact qat_0 hC2.q | exact tat_0 hC2.t0 | exact tat_0 hC2.t1 | exact tat_r hC2.t0 (i := 1) (by decide) | exact tat_r hC2.t1 (i := 1) (by decide)) (by rfl) rfl ?_
    refine xr_get (n := 55) dX7_count_52 fl_X7_107 (by first | assumption | exact hC.2.1.1 | exact hC.2.1.2.1 | exact hC.2.2.1.1 | exact xat_0 hC.x | exact lat_0 hC.d | exact lat_0 (hC.l (by omega)) | exact qat_0 hC.q | exact tat_0 hC.t0 | exact tat_0 hC.t1 | exact tat_r hC.t0 (i := 1) (by decide) | exact tat_r hC.t1 (i := 1) (by decide) | exact hC1.2.1.1 | exact hC1.2.1.2.1 | exact hC1.2.2.1.1 | exact xat_0 hC1.x | exact lat_0 hC1.d | exact lat_0 (hC1.l (by omega)) | exact qat_0 hC1.q | exact tat_0 hC1.t0 | exact tat_0 hC1.t1 | exact tat_r hC1.t0 (i := 1) (by decide) | exact tat_r hC1.t1 (i := 1) (by decide) | exact hC2.2.1.1 | exact hC2.2.1.2.1 | exact hC2.2.2.1.1 | exact xat_0 hC2.x | exact lat_0 hC2.d | exact lat_0 (hC2.l (by omega)) | exact qat_0 hC2.q | exact tat_0 hC2.t0 | exact tat_0 hC2.t1 | exact tat_r hC2.t0 (i := 1) (by decide) | exact tat_r hC2.t1 (i := 1) (by decide)) (by rfl) rfl ?_
    (first | (simp (disch := omega) only [nI_clamp, pk_mul, nI_add, oi1, up2_ss, up2_n, up2_sn, ur_s, ur_n, Nat.reduceMul, Nat.reduceAdd, Nat.add_zero]) | skip)
    refine xr_ireturn dX7_count_55 rfl rfl rfl ?_
    exact hq2 hx
  · refine xr_tableIn (n := 56) (off := 55) dX7_count_1 (by omega) (by omega) (by rw [hx]; rfl) (by decide) ?_
    refine xr_aload_n (n := 57) dX7_count_56 rfl rfl ?_
    refine xr_get (n := 60) dX7_count_57 fl_X7_12 (by first | assumption | exact hC.2.1.1 | exact hC.2.1.2.1 | exact hC.2.2.1.1 | exact xat_0 hC.x | exact lat_0 hC.d | exact lat_0 (hC.l (by omega)) | exact qat_0 hC.q | exact tat_0 hC.t0 | exact tat_0 hC.t1 | exact tat_r hC.t0 (i := 1) (by decide) | exact tat_r hC.t1 (i := 1) (by decide) | exact hC1.2.1.1 | exact hC1.2.1.2.1 | exact hC1.2.2.1.1 | exact xat_0 hC1.x | exact lat_0 hC1.d | exact lat_0 (hC1.l (by omega)) | exact qat_0 hC1.q | exact tat_0 hC1.t0 | exact tat_0 hC1.t1 | exact tat_r hC1.t0 (i := 1) (by decide) | exact tat_r hC1.t1 (i := 1) (by decide) | exact hC2.2.1.1 | exact hC2.2.1.2.1 | exact hC2.2.2.1.1 | exact xat_0 hC2.x | exact lat_0 hC2.d | exact lat_0 (hC2.l (by omega)) | exact qat_0 hC2.q | exact tat_0 hC2.t0 | exact tat_0 hC2.t1 | exact tat_r hC2.t0 (i := 1) (by decide) | exact tat_r hC2.t1 (i := 1) (by decide)) (by rfl) rfl ?_
    refine xr_get (n := 63) dX7_count_60 fl_X7_71 (by first | assumption | exact hC.2.1.1 | exact hC.2.1.2.1 | exact hC.2.2.1.1 | exact xat_0 hC.x | exact lat_0 hC.d | exact lat_0 (hC.l (by omega)) | exact qat_0 hC.q | exact tat_0 hC.t0 | exact tat_0 hC.t1 | exact tat_r hC.t0 (i := 1) (by decide) | exact tat_r hC.t1 (i := 1) (by decide) | exact hC1.2.1.1 | exact hC1.2.1.2.1 | exact hC1.2.2.1.1 | exact xat_0 hC1.x | exact lat_0 hC1.d | exact lat_0 (hC1.l (by omega)) | exact qat_0 hC1.q | exact tat_0 hC1.t0 | exact tat_0 hC1.t1 | exact tat_r hC1.t0 (i := 1) (by decide) | exact tat_r hC1.t1 (i := 1) (by decide) | exact hC2.2.1.1 | exact hC2.2.1.2.1 | exact hC2.2.2.1.1 | exact xat_0 hC2.x | exact lat_0 hC2.d | exact lat_0 (hC2.l (by omega)) | exact qat_0 hC2.q | exact tat_0 hC2.t0 | exact tat_0 hC2.t1 | exact tat_r hC2.t0 (i := 1) (by decide) | exact tat_r hC2.t1 (i := 1) (by decide)) (by rfl) rfl ?_
    rw [hx5]
    refine xr_ireturn dX7_count_63 rfl rfl rfl ?_
    exact hq3 hx

theorem s_X7_listingOf {G : xG} {d : Nat} {f : Nat → xC} {r : Nat × Nat} {Q : Option Value → xM → Prop} {z sv pn : Nat} {rl : Nat → Nat} {S : Nat → xS} (hC : CW f z rl sv S) (hpn : pn ≤ 1) (hq : Q (some (.ref (rl pn))) (f, r)) : xMet G d mX7_listingOf [.ref z, .int (nI pn)] (f, r) r Q := by
  refine xMet_0 (by decide +kernel) rfl (Nat.le_of_ble_eq_true rfl) ?_
  show xX G d mX7_listingOf r r (xΦ G r r Q) 0 [(0, .ref z), (1, .int (nI pn))] [] (f, r)
  rcases (show pn = 0 ∨ pn = 1 by omega) with rfl | rfl
  · refine xr_iload_n (n := 1) dX7_listingOf_0 rfl rfl ?_
    refine xr_if_ne (tgt := 11) (n := 4) dX7_listingOf_1 (by decide) rfl (fun h1 => by (exact absurd rfl h1)) (fun h1 => ?_)
    refine xr_aload_n (n := 5) dX7_listingOf_4 rfl rfl ?_
    refine xr_get (n := 8) dX7_listingOf_5 fl_X7_53 (by first | assumption | exact hC.2.1.1 | exact hC.2.1.2.1 | exact hC.2.2.1.1 | exact xat_0 hC.x | exact lat_0 hC.d | exact lat_0 (hC.l (by omega)) | exact qat_0 hC.q | exact tat_0 hC.t0 | exact tat_0 hC.t1 | exact tat_r hC.t0 (i := 1) (by decide) | exact tat_r hC.t1 (i := 1) (by decide) | exact hC1.2.1.1 | exact hC1.2.1.2.1 | exact hC1.2.2.1.1 | exact xat_0 hC1.x | exact lat_0 hC1.d | exact lat_0 (hC1.l (by omega)) | exact qat_0 hC1.q | exact tat_0 hC1.t0 | exact tat_0 hC1.t1 | exact tat_r hC1.t0 (i := 1) (by decide) | exact tat_r hC1.t1 (i := 1) (by decide) | exact hC2.2.1.1 | exact hC2.2.1.2.1 | exact hC2.2.2.1.1 | exact xat_0 hC2.x | exact lat_0 hC2.d | exact lat_0 (hC2.l (by omega)) | exact qat_0 hC2.q | exact tat_0 hC2.t0 | exact tat_0 hC2.t1 | exact tat_r hC2.t0 (i := 1) (by decide) | exact tat_r hC2.t1 (i := 1) (by decide)) (by rfl) rfl ?_
    refine xr_goto (n := 15) dX7_listingOf_8 (by decide) ?_
    refine xr_areturn dX7_listingOf_15 rfl rfl ?_
    exact hq
  · refine xr_iload_n (n := 1) dX7_listingOf_0 rfl rfl ?_
    refine xr_if_ne (tgt := 11) (n := 4) dX7_listingOf_1 (by decide) rfl (fun h1 => ?_) (fun h1 => by (exact absurd h1 (by decide +kernel)))
    refine xr_aload_n (n := 12) dX7_listingOf_11 rfl rfl ?_
    refine xr_get (n := 15) dX7_listingOf_12 fl_X7_56 (by first | assumption | exact hC.2.1.1 | exact hC.2.1.2.1 | exact hC.2.2.1.1 | exact xat_0 hC.x | exact lat_0 hC.d | exact lat_0 (hC.l (by omega)) | exact qat_0 hC.q | exact tat_0 hC.t0 | exact tat_0 hC.t1 | exact tat_r hC.t0 (i := 1) (by decide) | exact tat_r hC.t1 (i := 1) (by decide) | exact hC1.2.1.1 | exact hC1.2.1.2.1 | exact hC1.2.2.1.1 | exact xat_0 hC1.x | exact lat_0 hC1.d | exact lat_0 (hC1.l (by omega)) | exact qat_0 hC1.q | exact tat_0 hC1.t0 | exact tat_0 hC1.t1 | exact tat_r hC1.t0 (i := 1) (by decide) | exact tat_r hC1.t1 (i := 1) (by decide) | exact hC2.2.1.1 | exact hC2.2.1.2.1 | exact hC2.2.2.1.1 | exact xat_0 hC2.x | exact lat_0 hC2.d | exact lat_0 (hC2.l (by omega)) | exact qat_0 hC2.q | exact tat_0 hC2.t0 | exact tat_0 hC2.t1 | exact tat_r hC2.t0 (i := 1) (by decide) | exact tat_r hC2.t1 (i := 1) (by decide)) (by rfl) rfl ?_
    refine xr_areturn dX7_listingOf_15 rfl rfl ?_
    exact hq
