/-! shapes of memory, truth values, numbers -/
def b2i (p : Prop) [Decidable p] : Int32 := if p then nI 1 else nI 0
theorem b2i_t {p : Prop} [Decidable p] (h : p) : b2i p = nI 1 := if_pos h
theorem b2i_f {p : Prop} [Decidable p] (h : ¬ p) : b2i p = nI 0 := if_neg h
theorem b2i_0 {p : Prop} [Decidable p] : b2i p = 0 ↔ ¬ p := by
  unfold b2i
  by_cases h : p
  · rw [if_pos h]; exact ⟨fun e => absurd e (by decide), fun e => absurd h e⟩
  · rw [if_neg h]; exact ⟨fun _ => h, fun _ => nI_0⟩
theorem b2i_iff {p q : Prop} [Decidable p] [Decidable q] (h : p ↔ q) : b2i p = b2i q := by
  unfold b2i
  by_cases hp : p
  · rw [if_pos hp, if_pos (h.mp hp)]
  · rw [if_neg hp, if_neg (fun x => hp (h.mpr x))]
theorem b2i_nar {p : Prop} [Decidable p] : narrow .boolean (.int (b2i p)) = .int (b2i p) := by
  unfold b2i
  by_cases h : p
  · rw [if_pos h]; decide +kernel
  · rw [if_neg h]; decide +kernel
theorem nar_1 : narrow .boolean (.int (nI 1)) = .int (nI 1) := by decide +kernel
theorem nar_0 : narrow .boolean (.int (nI 0)) = .int (nI 0) := by decide +kernel
theorem nt (n : Nat) (h : n < 2 ^ 31) : (nI n).toInt = (n : Int) := nI_toInt h
theorem i_lt (a b : Int32) : a < b ↔ a.toInt < b.toInt := Int32.lt_iff_toInt_lt
theorem i_le (a b : Int32) : a ≤ b ↔ a.toInt ≤ b.toInt := Int32.le_iff_toInt_le
theorem i_eq (a b : Int32) : a = b ↔ a.toInt = b.toInt := ⟨fun h => by rw [h], fun h => Int32.toInt_inj.mp h⟩
theorem i_rng (x : Int32) : -2147483648 ≤ x.toInt ∧ x.toInt < 2147483648 := by
  have h1 := Int32.le_toInt x
  have h2 := Int32.toInt_lt x
  omega
theorem i_of {x : Int32} {n : Nat} (h : x.toInt = (n : Int)) : x = nI n := by
  have hr := i_rng x
  exact (i_eq _ _).mpr (by rw [h, nt n (by omega)])
theorem i_ix {x : Int32} {n : Nat} (h : x.toInt = (n : Int)) : x.toNatClampNeg = n := by
  show x.toInt.toNat = n
  rw [h]; rfl
theorem i_bmod {z : Int} (h1 : -2147483648 ≤ z) (h2 : z < 2147483648) : z.bmod (2 ^ 32) = z := by
  rw [Int.bmod_def]
  split <;> omega
theorem i_add {x y : Int32} (h1 : -2147483648 ≤ x.toInt + y.toInt) (h2 : x.toInt + y.toInt < 2147483648) : (x + y).toInt = x.toInt + y.toInt := by
  rw [Int32.toInt_add]; exact i_bmod h1 h2
theorem i_sub {x y : Int32} (h1 : -2147483648 ≤ x.toInt - y.toInt) (h2 : x.toInt - y.toInt < 2147483648) : (x - y).toInt = x.toInt - y.toInt := by
  rw [Int32.toInt_sub]; exact i_bmod h1 h2
theorem i_mul {x y : Int32} (h1 : -2147483648 ≤ x.toInt * y.toInt) (h2 : x.toInt * y.toInt < 2147483648) : (x * y).toInt = x.toInt * y.toInt := by
  rw [Int32.toInt_mul]; exact i_bmod h1 h2
theorem i_m1 : (-1 : Int32).toInt = -1 := by decide +kernel
theorem i_in {x : Int32} {n : Nat} (h : 0 ≤ x.toInt) (h2 : x.toInt < n) : vp_in x n := vp_in_iff.mpr ⟨h, h2⟩
/-- a block of n cells from a on -/
def bput (f : Nat → xC) (a n : Nat) (c : Nat → xC) : Nat → xC := fun q => if a ≤ q ∧ q < a + n then c (q - a) else f q
theorem bput_in {f : Nat → xC} {a n i : Nat} {c : Nat → xC} (h : i < n) : bput f a n c (a + i) = c i := by
  unfold bput
  rw [if_pos ⟨by omega, by omega⟩, Nat.add_sub_cancel_left]
theorem bput_out {f : Nat → xC} {a n q : Nat} {c : Nat → xC} (h : q < a ∨ a + n ≤ q) : bput f a n c q = f q := by
  unfold bput
  rw [if_neg (by omega)]
theorem bput_xu {f : Nat → xC} {a n i : Nat} {c : Nat → xC} {x : xC} (h : i < n) : xu (bput f a n c) (a + i) x = bput f a n (fun j => if j = i then x else c j) := by
  funext q
  unfold xu bput
  by_cases hq : q = a + i
  · subst hq
    rw [if_pos rfl, if_pos ⟨by omega, by omega⟩, Nat.add_sub_cancel_left]
    exact (if_pos rfl).symm
  · rw [if_neg hq]
    by_cases h2 : a ≤ q ∧ q < a + n
    · rw [if_pos h2, if_pos h2]
      exact (if_neg (show ¬ q - a = i by omega)).symm
    · rw [if_neg h2, if_neg h2]
theorem bput_congr {f : Nat → xC} {a n : Nat} {c c' : Nat → xC} (h : ∀ i, i < n → c i = c' i) : bput f a n c = bput f a n c' := by
  funext q
  unfold bput
  by_cases h2 : a ≤ q ∧ q < a + n
  · rw [if_pos h2, if_pos h2, h _ (by omega)]
  · rw [if_neg h2, if_neg h2]
theorem bput_bput {f : Nat → xC} {a n : Nat} {c c' : Nat → xC} : bput (bput f a n c) a n c' = bput f a n c' := by
  funext q
  unfold bput
  by_cases h2 : a ≤ q ∧ q < a + n
  · rw [if_pos h2, if_pos h2]
  · rw [if_neg h2, if_neg h2, if_neg h2]
theorem bput_self {f : Nat → xC} {a n : Nat} {c : Nat → xC} (h : ∀ i, i < n → f (a + i) = c i) : bput f a n c = f := by
  funext q
  unfold bput
  by_cases h2 : a ≤ q ∧ q < a + n
  · rw [if_pos h2, ← h _ (by omega)]
    congr 1
    omega
  · rw [if_neg h2]
theorem bput_comm {f : Nat → xC} {a n b m : Nat} {c c' : Nat → xC} (h : a + n ≤ b ∨ b + m ≤ a) : bput (bput f a n c) b m c' = bput (bput f b m c') a n c := by
  funext q
  unfold bput
  by_cases h1 : a ≤ q ∧ q < a + n
  · rw [if_neg (show ¬ (b ≤ q ∧ q < b + m) by omega), if_pos h1, if_pos h1]
  · by_cases h2 : b ≤ q ∧ q < b + m
    · rw [if_pos h2, if_neg h1, if_pos h2]
    · rw [if_neg h2, if_neg h1, if_neg h1, if_neg h2]
/-- a state: field, place, value -/
abbrev xS : Type := Nat → Nat → Int32
def up2 (s : xS) (i j : Nat) (v : Int32) : xS := fun a b => if a = i then (if b = j then v else s a b) else s a b
theorem up2_s (s : xS) (i j : Nat) (v : Int32) : up2 s i j v i = upd (s i) j v := by
  funext b
  simp [up2, upd]
theorem up2_n (s : xS) {i a : Nat} (j : Nat) (v : Int32) (h : a ≠ i) : up2 s i j v a = s a := by
  funext b
  simp [up2, h]
theorem up2_ss (s : xS) (i j : Nat) (v : Int32) : up2 s i j v i j = v := by simp [up2]
theorem up2_sn (s : xS) (i : Nat) {j b : Nat} (v : Int32) (h : b ≠ j) : up2 s i j v i b = s i b := by simp [up2, h]
/-- a whole row -/
def ur (s : xS) (i : Nat) (g : Nat → Int32) : xS := fun a => if a = i then g else s a
theorem ur_s (s : xS) (i : Nat) (g : Nat → Int32) : ur s i g i = g := by simp [ur]
theorem ur_n (s : xS) {i a : Nat} (g : Nat → Int32) (h : a ≠ i) : ur s i g a = s a := by simp [ur, h]
theorem ur_up (s : xS) (i j : Nat) (v : Int32) : ur s i (upd (s i) j v) = up2 s i j v := by
  funext a b
  by_cases h : a = i
  · subst h; simp [ur, up2, upd]
  · simp [ur, up2, h]
section XQ
variable {G : xG} {d : Nat} {y : xY} {r0 lim : Nat × Nat} {Φ : xF} {ls : List (Nat × Value)} {st : List Value} {f : Nat → xC} {r : Nat × Nat} {pc n : Nat}
theorem xq_put {a ci k idx : Nat} {fs : List Value} {v : Value} (hd : decode y.2.1 pc = .ok (.putfield idx, 3)) (hF : xFld y.1.cls idx ci k) (hfin : ((vwCl[ci]?).map fun q => (q.2.1 k).2.2.2) = some false) (ha : f a = ob ci fs) (hl0 : Nat.blt k fs.length = true) (hnar : narrow (xft ci k) v = v) (hfit : fits (xft ci k) v = true) (hn : pc + 3 = n) (kk : xX G d y r0 lim Φ n ls st (xu f a (ob ci (fs.set k v)), r)) : xX G d y r0 lim Φ pc ls (v :: .ref a :: st) (f, r) := xr_put (M := (f, r)) hd hF hfin ha hl0 hnar hfit hn kk
theorem xq_putF {a ci k idx : Nat} {fs : List Value} {v : Value} (hd : decode y.2.1 pc = .ok (.putfield idx, 3)) (hF : xFld y.1.cls idx ci k) (hfin : ((vwCl[ci]?).map fun q => (q.2.1 k).2.2.2) = some true) (hini : y.1.name = "<init>") (hown0 : ((vwCl[ci]?).map fun q => q.1) = some y.1.cls) (ha : f a = ob ci fs) (hl0 : Nat.blt k fs.length = true) (hnar : narrow (xft ci k) v = v) (hfit : fits (xft ci k) v = true) (hn : pc + 3 = n) (kk : xX G d y r0 lim Φ n ls st (xu f a (ob ci (fs.set k v)), r)) : xX G d y r0 lim Φ pc ls (v :: .ref a :: st) (f, r) := xr_putF (M := (f, r)) hd hF hfin hini hown0 ha hl0 hnar hfit hn kk
theorem xq_iastore {a nn : Nat} {g : Nat → Int32} {i x : Int32} (hd : decode y.2.1 pc = .ok (.iastore, 1)) (ha : f a = aI 0 nn g) (hin : vp_in i nn) (hn : pc + 1 = n) (kk : xX G d y r0 lim Φ n ls st (xu f a (aI 0 nn (upd g i.toNatClampNeg x)), r)) : xX G d y r0 lim Φ pc ls (.int x :: .int i :: .ref a :: st) (f, r) := xr_iastore (M := (f, r)) hd ha hin hn kk
theorem xq_castore {a nn : Nat} {g : Nat → Int32} {i x : Int32} (hd : decode y.2.1 pc = .ok (.castore, 1)) (ha : f a = aI 1 nn g) (hin : vp_in i nn) (hx : vp_nar .char x = x) (hn : pc + 1 = n) (kk : xX G d y r0 lim Φ n ls st (xu f a (aI 1 nn (upd g i.toNatClampNeg x)), r)) : xX G d y r0 lim Φ pc ls (.int x :: .int i :: .ref a :: st) (f, r) := xr_castore (M := (f, r)) hd ha hin hx hn kk
theorem xq_aastore {a t nn v ci : Nat} {vs : List Value} {g : Nat → Option Nat} {i : Int32} (hd : decode y.2.1 pc = .ok (.aastore, 1)) (ha : f a = aR t nn g) (hv : f v = ob ci vs) (ht : (t = 2 ∧ ci = 1) ∨ (t = 3 ∧ ci = 2)) (hin : vp_in i nn) (hn : pc + 1 = n) (kk : xX G d y r0 lim Φ n ls st (xu f a (aR t nn (va_up g i.toNatClampNeg (some v))), r)) : xX G d y r0 lim Φ pc ls (.ref v :: .int i :: .ref a :: st) (f, r) := xr_aastore (M := (f, r)) hd ha hv ht hin hn kk
theorem xq_copy {a a0 n0 n1 idx : Nat} {g0 g : Nat → Int32} {sp dp nn : Int32} (hd : decode y.2.1 pc = .ok (.invokestatic idx, 3)) (hL : Cond.methodLink y.1.cls idx arraycopyName ∈ xWs) (ha0 : f a0 = aI 0 n0 g0) (ha1 : f a = aI 0 n1 g) (h1 : ¬ sp < 0) (h2 : ¬ dp < 0) (h3 : ¬ nn < 0) (h4 : sp.toNatClampNeg + nn.toNatClampNeg ≤ n0) (h5 : dp.toNatClampNeg + nn.toNatClampNeg ≤ n1) (hst : (st.map fun v => v.category).sum ≤ 8) (hn : pc + 3 = n)
    (kk : xX G (d + 1) y r0 lim Φ n ls st (xu f a (aI 0 n1 (va_cpy g0 g sp.toNatClampNeg dp.toNatClampNeg nn.toNatClampNeg)), r)) : xX G (d + 1) y r0 lim Φ pc ls (.int nn :: .int dp :: .ref a :: .int sp :: .ref a0 :: st) (f, r) := xr_copy (M := (f, r)) hd hL ha0 ha1 h1 h2 h3 h4 h5 hst hn kk
theorem xq_new {idx ci : Nat} {C : String} {N e k : Nat} {fs : List Value} (hd : decode y.2.1 pc = .ok (.new idx, 3)) (hL : Cond.classLink y.1.cls idx C ∈ xWs) (hci : ((vwCl[ci]?).map fun q => (q.1, q.2.2)) = some (C, N)) (hfs : ∀ j, j < N → defaultValue (xft ci j) = vp_V fs j) (hlim : e + 1 ≤ lim.1 ∧ k + N ≤ lim.2) (hn : pc + 3 = n) (kk : xX G d y r0 lim Φ n ls (.ref e :: st) (xu f e (ob ci fs), (e + 1, k + N))) : xX G d y r0 lim Φ pc ls st (f, (e, k)) := xr_new (M := (f, (e, k))) hd hL hci hfs hlim hn kk
theorem xq_newarray {z : Int32} {N t e k : Nat} {at0 : ArrayType} (hd : decode y.2.1 pc = .ok (.newarray at0, 2)) (ht : (at0 = .int ∧ t = 0) ∨ (at0 = .char ∧ t = 1)) (hz : ¬ z < 0) (hN : z.toNatClampNeg = N) (hbig : N ≤ 100000) (hlim : e + 1 ≤ lim.1 ∧ k + N ≤ lim.2) (hn : pc + 2 = n) (kk : xX G d y r0 lim Φ n ls (.ref e :: st) (xu f e (aI t N (fun _ => 0)), (e + 1, k + N))) : xX G d y r0 lim Φ pc ls (.int z :: st) (f, (e, k)) := xr_newarray (M := (f, (e, k))) hd ht hz hN hbig hlim hn kk
theorem xq_anewarray {z : Int32} {N t idx e k : Nat} {C : String} (hd : decode y.2.1 pc = .ok (.anewarray idx, 3)) (hL : Cond.classLink y.1.cls idx C ∈ xWs) (ht : (C = RX1 ∧ t = 2) ∨ (C = RX2 ∧ t = 3)) (hz : ¬ z < 0) (hN : z.toNatClampNeg = N) (hbig : N ≤ 100000) (hlim : e + 1 ≤ lim.1 ∧ k + N ≤ lim.2) (hn : pc + 3 = n) (kk : xX G d y r0 lim Φ n ls (.ref e :: st) (xu f e (aR t N (fun _ => none)), (e + 1, k + N))) : xX G d y r0 lim Φ pc ls (.int z :: st) (f, (e, k)) := xr_anewarray (M := (f, (e, k))) hd hL ht hz hN hbig hlim hn kk
theorem xr_beq {p : Prop} [Decidable p] {M : xM} {off : Int} {tgt : Nat} (hd : decode y.2.1 pc = .ok (.ifCond .eq off, 3)) (ht : (pc : Int) + off = (tgt : Int)) (hn : pc + 3 = n) (kt : ¬ p → xX G d y r0 lim Φ tgt ls st M) (kf : p → xX G d y r0 lim Φ n ls st M) : xX G d y r0 lim Φ pc ls (.int (b2i p) :: st) M := xr_if_eq hd ht hn (fun h => kt (b2i_0.mp h)) (fun h => kf (Decidable.not_not.mp (fun q => h (b2i_0.mpr q))))
theorem xr_bne {p : Prop} [Decidable p] {M : xM} {off : Int} {tgt : Nat} (hd : decode y.2.1 pc = .ok (.ifCond .ne off, 3)) (ht : (pc : Int) + off = (tgt : Int)) (hn : pc + 3 = n) (kt : p → xX G d y r0 lim Φ tgt ls st M) (kf : ¬ p → xX G d y r0 lim Φ n ls st M) : xX G d y r0 lim Φ pc ls (.int (b2i p) :: st) M := xr_if_ne hd ht hn (fun h => kt (Decidable.not_not.mp (fun q => h (b2i_0.mpr q)))) (fun h => kf (b2i_0.mp h))
theorem xMet_0 {av : List Value} {Q : Option Value → xM → Prop} (hy : plainName y.1.cls = true) (hav : av.all (fun v => v.category == 1) = true) (hlen : (lg_sl av).length ≤ y.2.2.1)
    (k : xX G d y r r (xΦ G r r Q) 0 (lv_args 0 av) [] (f, r)) : xMet G d y av (f, r) r Q := xMet_of hy ⟨Nat.le_refl _, Nat.le_refl _⟩ hav hlen k
end XQ
theorem qi {Q : Option Value → xM → Prop} {M : xM} {a b : Int32} (h : Q (some (.int a)) M) (e : a = b) : Q (some (.int b)) M := e ▸ h
theorem qm {Q : Option Value → xM → Prop} {v : Option Value} {M M' : xM} (h : Q v M) (e : M = M') : Q v M' := e ▸ h
theorem up2_a (s : xS) (i j : Nat) (v : Int32) (a b : Nat) : up2 s i j v a b = if a = i then (if b = j then v else s a b) else s a b := rfl
theorem ur_a (s : xS) (i : Nat) (g : Nat → Int32) (a b : Nat) : ur s i g a b = if a = i then g b else s a b := by
  unfold ur
  by_cases h : a = i
  · rw [if_pos h, if_pos h]
  · rw [if_neg h, if_neg h]
theorem up2_up2 (s : xS) (i j : Nat) (v w : Int32) : up2 (up2 s i j v) i j w = up2 s i j w := by
  funext a b
  simp only [up2_a]
  by_cases h1 : a = i
  · by_cases h2 : b = j
    · rw [if_pos h1, if_pos h2, if_pos h1, if_pos h2]
    · rw [if_pos h1, if_neg h2, if_pos h1, if_neg h2, if_pos h1, if_neg h2]
  · rw [if_neg h1, if_neg h1, if_neg h1]
theorem up2_id {s : xS} {i j : Nat} {v : Int32} (h : s i j = v) : up2 s i j v = s := by
  funext a b
  simp only [up2_a]
  by_cases h1 : a = i
  · by_cases h2 : b = j
    · rw [if_pos h1, if_pos h2, h1, h2, h]
    · rw [if_pos h1, if_neg h2]
  · rw [if_neg h1]
/-- g laid into h from off on, k places of it -/
def fo (g h : Nat → Int32) (off k : Nat) : Nat → Int32 := fun j => if off ≤ j ∧ j < off + k then g (j - off) else h j
theorem fo_a (g h : Nat → Int32) (off k j : Nat) : fo g h off k j = if off ≤ j ∧ j < off + k then g (j - off) else h j := rfl
theorem fo_0 (g h : Nat → Int32) (off : Nat) : fo g h off 0 = h := by
  funext j
  rw [fo_a, if_neg (by omega)]
theorem fo_in {g h : Nat → Int32} {off k j : Nat} (h1 : off ≤ j) (h2 : j < off + k) : fo g h off k j = g (j - off) := if_pos ⟨h1, h2⟩
theorem fo_out {g h : Nat → Int32} {off k j : Nat} (h1 : j < off ∨ off + k ≤ j) : fo g h off k j = h j := if_neg (by omega)
theorem fo_step {g h : Nat → Int32} {off k : Nat} {v : Int32} (hv : v = g k) : upd (fo g h off k) (off + k) v = fo g h off (k + 1) := by
  subst hv
  funext j
  unfold upd
  by_cases e : j = off + k
  · subst e
    rw [if_pos rfl, fo_in (by omega) (by omega), Nat.add_sub_cancel_left]
  · rw [if_neg e]
    by_cases h2 : off ≤ j ∧ j < off + k
    · rw [fo_in h2.1 h2.2, fo_in h2.1 (by omega)]
    · rw [fo_out (by omega), fo_out (by omega)]
theorem ur_fo {s : xS} {i : Nat} {g h : Nat → Int32} {off k : Nat} {v : Int32} (hv : v = g k) : up2 (ur s i (fo g h off k)) i (off + k) v = ur s i (fo g h off (k + 1)) := by
  rw [← fo_step hv]
  funext a b
  simp only [up2_a, ur_a, upd]
  by_cases h1 : a = i
  · by_cases h2 : b = off + k
    · rw [if_pos h1, if_pos h2, if_pos h1, if_pos h2]
    · rw [if_pos h1, if_neg h2, if_pos h1, if_pos h1, if_neg h2]
  · rw [if_neg h1, if_neg h1, if_neg h1]
theorem ur_fo0 {s : xS} {i : Nat} {g : Nat → Int32} {off : Nat} : ur s i (fo g (s i) off 0) = s := by
  rw [fo_0]
  funext a b
  rw [ur_a]
  by_cases h1 : a = i
  · rw [if_pos h1, h1]
  · rw [if_neg h1]
theorem nat_down {P : Nat → Prop} {N : Nat} (hN : P N) (hs : ∀ k, k < N → P (k + 1) → P k) : ∀ k, k ≤ N → P k := by
  intro k hk
  generalize e : N - k = n
  induction n generalizing k with
  | zero =>
    have : k = N := by omega
    subst this
    exact hN
  | succ n ih => exact hs k (by omega) (ih (k + 1) (by omega) (by omega))
/-- text: the first place from a on that is no space, and the sign there (0 behind the end) -/
def sk (t : Nat → Int32) (n : Nat) : Nat → Nat → Nat
  | 0, a => a
  | k + 1, a => if a < n ∧ t a = nI 32 then sk t n k (a + 1) else a
def skp (t : Nat → Int32) (n a : Nat) : Nat := sk t n (n - a) a
def ch (t : Nat → Int32) (n a : Nat) : Int32 := if a < n then t a else nI 0
theorem skp_eq (t : Nat → Int32) (n a : Nat) : skp t n a = if a < n ∧ t a = nI 32 then skp t n (a + 1) else a := by
  unfold skp
  by_cases h : a < n
  · have e : n - a = (n - (a + 1)) + 1 := by omega
    rw [e]
    rfl
  · have e : n - a = 0 := by omega
    rw [e, if_neg (fun q => h q.1)]
    rfl
theorem skp_ge (t : Nat → Int32) (n : Nat) : ∀ k a, n - a = k → a ≤ skp t n a ∧ (a ≤ n → skp t n a ≤ n) := by
  intro k
  induction k with
  | zero =>
    intro a e
    rw [skp_eq, if_neg (fun q => by have := q.1; omega)]
    exact ⟨Nat.le_refl _, fun h => h⟩
  | succ k ih =>
    intro a e
    rw [skp_eq]
    by_cases h : a < n ∧ t a = nI 32
    · rw [if_pos h]
      have := ih (a + 1) (by omega)
      exact ⟨by omega, fun _ => this.2 (by omega)⟩
    · rw [if_neg h]
      exact ⟨Nat.le_refl _, fun h => h⟩
theorem skp_no (t : Nat → Int32) (n : Nat) : ∀ k a, n - a = k → ¬ (skp t n a < n ∧ t (skp t n a) = nI 32) := by
  intro k
  induction k with
  | zero =>
    intro a e
    rw [skp_eq, if_neg (fun q => by have := q.1; omega)]
    exact fun q => by have := q.1; omega
  | succ k ih =>
    intro a e
    rw [skp_eq]
    by_cases h : a < n ∧ t a = nI 32
    · rw [if_pos h]
      exact ih (a + 1) (by omega)
    · rw [if_neg h]
      exact h
