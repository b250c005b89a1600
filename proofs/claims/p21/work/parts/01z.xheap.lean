/-! THE ROWS of the X layer that read and write the memory, calls, and ends -/
def xft (ci k : Nat) : FieldType := match ci with
  | 0 => tyX0 k
  | 1 => tyX1 k
  | 2 => tyX2 k
  | 3 => tyX3 k
  | 4 => tyX4 k
  | 5 => tyX5 k
  | 6 => tyX6 k
  | 7 => tyX7 k
  | _ => tyX8 k
def xCl (ci : Nat) : Prop := ∃ (C : String) (T : u_T) (N : Nat), vwCl[ci]? = some (C, T, N) ∧ (∀ w ∈ u_ws C T N, w ∈ xWs) ∧ (∀ k, k < N → parseFieldDescriptor (T k).2.2.1 = some (xft ci k)) ∧ (∀ a, a < N → ∀ b, b < N → a ≠ b → (T a).2.1 ≠ (T b).2.1) ∧ (∀ k, k < N → (T k).1 = C) ∧ Cond.instantiable C N ∈ xWs ∧ Cond.initialized C ∈ xWs
theorem xCl_0 : xCl 0 := ⟨RX0, TX0, 3, rfl, inxX0, tyX0_ok, nmX0, by decide +kernel, kp_inst_RX0, kp_init_RX0⟩
theorem xCl_1 : xCl 1 := ⟨RX1, TX1, 10, rfl, inxX1, tyX1_ok, nmX1, by decide +kernel, kp_inst_RX1, kp_init_RX1⟩
theorem xCl_2 : xCl 2 := ⟨RX2, TX2, 3, rfl, inxX2, tyX2_ok, nmX2, by decide +kernel, kp_inst_RX2, kp_init_RX2⟩
theorem xCl_3 : xCl 3 := ⟨RX3, TX3, 6, rfl, inxX3, tyX3_ok, nmX3, by decide +kernel, kp_inst_RX3, kp_init_RX3⟩
theorem xCl_4 : xCl 4 := ⟨RX4, TX4, 2, rfl, inxX4, tyX4_ok, nmX4, by decide +kernel, kp_inst_RX4, kp_init_RX4⟩
theorem xCl_5 : xCl 5 := ⟨RX5, TX5, 2, rfl, inxX5, tyX5_ok, nmX5, by decide +kernel, kp_inst_RX5, kp_init_RX5⟩
theorem xCl_6 : xCl 6 := ⟨RX6, TX6, 9, rfl, inxX6, tyX6_ok, nmX6, by decide +kernel, kp_inst_RX6, kp_init_RX6⟩
theorem xCl_7 : xCl 7 := ⟨RX7, TX7, 8, rfl, inxX7, tyX7_ok, nmX7, by decide +kernel, kp_inst_RX7, kp_init_RX7⟩
theorem xCl_all {ci : Nat} (h : ci < 8) : xCl ci := by
  match ci, h with
  | 0, _ => exact xCl_0
  | 1, _ => exact xCl_1
  | 2, _ => exact xCl_2
  | 3, _ => exact xCl_3
  | 4, _ => exact xCl_4
  | 5, _ => exact xCl_5
  | 6, _ => exact xCl_6
  | 7, _ => exact xCl_7
/-- a field as the class own names it at place idx: field k of class ci -/
def xFld (own : String) (idx ci k : Nat) : Prop := ∃ (C : String) (T : u_T) (N : Nat), vwCl[ci]? = some (C, T, N) ∧ k < N ∧ (Cond.fieldLink own idx C (T k).2.1 (T k).2.2.1 ∈ xWs ∨ ∃ host, Cond.fieldLinkNest own idx C (T k).2.1 (T k).2.2.1 host ∈ xWs)
theorem xw_in {G : xG} {M : xM} {H : Heap} {a ci : Nat} {fs : List Value} (h : xw G M H) (ha : M.1 a = ob ci fs) (hc : ci < 8) : va_at G.2.1 vwCl (a, .inr (ci, fs)) H ∧ G.2.2.2 ≤ a ∧ a < M.2.1 := by
  have hne : M.1 a ≠ xAbs := by
    rw [ha]
    intro e
    have e2 : (ci, fs) = (999, []) := Sum.inr.inj (Sum.inr.inj e)
    have e3 : ci = 999 := congrArg Prod.fst e2
    omega
  obtain ⟨h1, h2, h3⟩ := h.2.2 a hne
  rw [ha] at h3
  exact ⟨h3, h1, h2⟩
theorem xw_inI {G : xG} {M : xM} {H : Heap} {a t n : Nat} {g : Nat → Int32} (h : xw G M H) (ha : M.1 a = aI t n g) : H[a]? = some (vp_cell (G.2.2.1 t) (n, .inl g)) ∧ G.2.2.2 ≤ a ∧ a < M.2.1 := by
  have hne : M.1 a ≠ xAbs := by rw [ha]; intro e; cases e
  obtain ⟨h1, h2, h3⟩ := h.2.2 a hne
  rw [ha] at h3
  exact ⟨h3, h1, h2⟩
theorem xw_inR {G : xG} {M : xM} {H : Heap} {a t n : Nat} {g : Nat → Option Nat} (h : xw G M H) (ha : M.1 a = aR t n g) : H[a]? = some (vp_cell (G.2.2.1 t) (n, .inr (.inr (.inr (.inr g))))) ∧ G.2.2.2 ≤ a ∧ a < M.2.1 := by
  have hne : M.1 a ≠ xAbs := by rw [ha]; intro e; cases e
  obtain ⟨h1, h2, h3⟩ := h.2.2 a hne
  rw [ha] at h3
  exact ⟨h3, h1, h2⟩
theorem xw_put {G : xG} {M : xM} {H H1 : Heap} {a : Nat} {c : xC} (h : xw G M H) (hz : H1.size = H.size) (ho : ∀ q, q ≠ a → H1[q]? = H[q]?) (hr : G.2.2.2 ≤ a ∧ a < M.2.1) (hc : va_at G.2.1 vwCl (a, xtr G.2.2.1 c) H1) : xw G (xu M.1 a c, M.2) H1 := by
  refine ⟨hz.trans h.1, h.2.1, fun q hq => ?_⟩
  by_cases e : q = a
  · subst e
    rw [show (xu M.1 q c, M.2).1 q = c from xu_s ..] at hq ⊢
    exact ⟨hr.1, hr.2, hc⟩
  · rw [show (xu M.1 a c, M.2).1 q = M.1 q from xu_n _ _ e] at hq ⊢
    obtain ⟨h1, h2, h3⟩ := h.2.2 q hq
    exact ⟨h1, h2, h3.kept (ho q e)⟩
theorem xw_new {G : xG} {M : xM} {H H1 : Heap} {c : xC} {nn : Nat} (h : xw G M H) (hz : H1.size = H.size + 1) (ho : ∀ q, q < H.size → H1[q]? = H[q]?) (hc : va_at G.2.1 vwCl (M.2.1, xtr G.2.2.1 c) H1) : xw G (xu M.1 M.2.1 c, (M.2.1 + 1, M.2.2 + nn)) H1 := by
  refine ⟨by show H1.size = M.2.1 + 1; rw [hz, h.1], by show _ ≤ M.2.1 + 1; have := h.2.1; omega, fun q hq => ?_⟩
  by_cases e : q = M.2.1
  · subst e
    rw [show (xu M.1 M.2.1 c, (M.2.1 + 1, M.2.2 + nn)).1 M.2.1 = c from xu_s ..] at hq ⊢
    exact ⟨h.2.1, Nat.lt_succ_self _, hc⟩
  · rw [show (xu M.1 M.2.1 c, (M.2.1 + 1, M.2.2 + nn)).1 q = M.1 q from xu_n _ _ e] at hq ⊢
    obtain ⟨h1, h2, h3⟩ := h.2.2 q hq
    exact ⟨h1, Nat.lt_succ_of_lt h2, h3.kept (ho q (by rw [h.1]; exact h2))⟩
theorem vwCl_lt {ci : Nat} {q : vw_C} (h : vwCl[ci]? = some q) : ci < 8 := (List.getElem?_eq_some_iff.mp h).1
theorem xKn {G : xG} {s : State} (h : xk G s) : va_K G.2.1 vwCl [] s := ⟨h.2.1, fun k q hq => by simp at hq⟩
theorem xP1 {D : va_G} {H : Heap} {q : Nat × va_E} (h : va_at D vwCl q H) : va_P D vwCl [q] H := by
  intro k x hx
  match k, hx with
  | 0, hx => cases hx; exact h
theorem xS_put {A : Nat → Prop} {H0 H H1 : Heap} {locs : List Loc} {a k : Nat} (h : va_S A H0 H locs) (z : H1.size = H.size) (oq : ∀ q : Nat, q ≠ a → H1[q]? = H[q]?) (ha : A a) : va_S A H0 H1 (locs ++ [⟨a, k⟩]) := h.put z oq ha
def xMth (y : xY) (np : Nat) : Prop := Cond.code y.1 y.2.1 y.2.2.1 y.2.2.2 ∈ xWs ∧ Cond.initialized y.1.cls ∈ xWs ∧ ((y.1.cls ≠ "java/lang/invoke/MethodHandle" ∧ y.1.cls ≠ "java/lang/invoke/VarHandle") ∧ (parseMethodDescriptor y.1.desc).map (fun d => d.parameters.length) = some np) ∧ y.2.2.1 ≤ 19
def xLnk (own : String) (idx : Nat) (x : MethodName) : Prop := Cond.methodLink own idx x ∈ xWs ∨ ∃ host, Cond.methodLinkNest own idx x host ∈ xWs
abbrev xps (v : Option Value) (st : List Value) : List Value := match v with
  | some w => w :: st
  | none => st
section XH
variable {G : xG} {d : Nat} {y : xY} {r0 lim : Nat × Nat} {Φ : xF} {ls : List (Nat × Value)} {st : List Value} {M : xM} {pc n : Nat}
theorem xr_get {a ci k idx : Nat} {fs : List Value} {v : Value} (hd : decode y.2.1 pc = .ok (.getfield idx, 3)) (hF : xFld y.1.cls idx ci k) (ha : M.1 a = ob ci fs) (hv : fs[k]? = some v) (hn : pc + 3 = n) (kk : xX G d y r0 lim Φ n ls (v :: st) M) : xX G d y r0 lim Φ pc ls (.ref a :: st) M := by
  subst hn
  intro p e R s m args below meth c Zf H locs lo hΦ hC hw hS hl hb
  obtain ⟨C, T, N, hcl, hk, hlink⟩ := hF
  obtain ⟨C', T', N', hcl', hin, hty, hnm, hown, -, -⟩ := xCl_all (vwCl_lt hcl)
  cases hcl.symm.trans hcl'
  have hxk := hC.2.2.2.2.2.2.2.1
  have hP := xP1 (xw_in hw ha (vwCl_lt hcl)).1
  have k2 := kk p e R s m args below meth c Zf H locs lo hΦ hC hw hS hl hb
  rcases hlink with hlink | ⟨host, hlink⟩
  · exact va_get hC.1 hC.2.1 (xk_ts hxk args) hin hC.2.2.2.2.1 (xKn hxk) hP 0 rfl hcl k hk (xk_ts hxk args _ hlink) (fun x hx => by rw [hown k hk] at hx; exact hx) hv hd k2
  · exact va_getN hC.1 hC.2.1 (xk_ts hxk args) hin hC.2.2.2.2.1 (xKn hxk) hP 0 rfl hcl k hk (xk_ts hxk args _ hlink) (fun x hx => by rw [hown k hk] at hx; exact hx) hv hd k2
theorem xr_put {a ci k idx : Nat} {fs : List Value} {v : Value} (hd : decode y.2.1 pc = .ok (.putfield idx, 3)) (hF : xFld y.1.cls idx ci k) (hfin : ((vwCl[ci]?).map fun q => (q.2.1 k).2.2.2) = some false) (ha : M.1 a = ob ci fs) (hl0 : Nat.blt k fs.length = true) (hnar : narrow (xft ci k) v = v) (hfit : fits (xft ci k) v = true) (hn : pc + 3 = n) (kk : xX G d y r0 lim Φ n ls st (xu M.1 a (ob ci (fs.set k v)), M.2)) : xX G d y r0 lim Φ pc ls (v :: .ref a :: st) M := by
  subst hn
  intro p e R s m args below meth c Zf H locs lo hΦ hC hw hS hl hb
  obtain ⟨C, T, N, hcl, hk, hlink⟩ := hF
  obtain ⟨C', T', N', hcl', hin, hty, hnm, hown, -, -⟩ := xCl_all (vwCl_lt hcl)
  cases hcl.symm.trans hcl'
  rw [hcl] at hfin
  have hfin : (T k).2.2.2 = false := Option.some.inj hfin
  have hxk := hC.2.2.2.2.2.2.2.1
  obtain ⟨hat, hr⟩ := xw_in hw ha (vwCl_lt hcl)
  have hts := xk_ts hxk args
  have hK : va_K G.2.1 vwCl [] s := xKn hxk
  have hap := va_apart (own := C) hts hin (xft ci) hty hnm hK hcl
  obtain ⟨r, h1, cell, q1, q2, q3, q4⟩ := hat
  cases h1.symm.trans hcl
  obtain ⟨hSl, hfc, kC, hkC, hkind⟩ := hK.1 ci _ hcl
  obtain ⟨cf, kf, fi, f, hi, hsl⟩ := hSl k hk
  have hlay := hts _ (hin _ (u_in_lay hk))
  unfold u_lay at hlay
  rw [if_neg (by rw [hfin]; decide)] at hlay
  have hst := (u_facts hfc hkC (u_lays hts hin hk) hi).1
  have h6 := u_store hfc hkC hkind hlay hi (hty k hk) hnar hfit
  have hi2 := hi
  rw [hown k hk] at hi2
  have kk2 : ∀ H' : Heap, H'[a]? = some (cell.setSlot f.slot v) → H'.size = H.size → (∀ q, q ≠ a → H'[q]? = H[q]?) → W p G.1 e R s m args below meth c H' (locs ++ [⟨a, f.slot⟩]) (M.2.1 - r0.1) (M.2.2 - r0.2) Zf (F0 m (pc + 3) lo st) := fun H' e1 e2 e3 =>
    kk p e R s m args below meth c Zf H' _ lo hΦ hC (xw_put hw e2 e3 hr ⟨_, hcl, t_OB.to (V := updV (vp_V fs) k v) ⟨_, e1, q2, q3, by rw [hsl]; exact t_set q4 hap hk v⟩ (fun j _ => vp_updV_set (Nat.le_of_ble_eq_true hl0) v j)⟩) (hS.put e2 e3 hr.1) hl hb
  rcases hlink with hlink | ⟨host, hlink⟩
  · exact W.putK hC.1 hC.2.1 (f := f) ⟨hC.2.2.2.2.1, hts _ hlink, ⟨_, _, _, hi2⟩, hst⟩ (by rw [q2]; exact h6) q1 q3 (by rw [hsl]; exact k2_hasslot (q4 k hk)) rfl rfl hd kk2
  · exact va_WputK hC.1 hC.2.1 (f := f) hC.2.2.2.2.1 (hts _ hlink) hi2 hst (by rw [q2]; exact h6) q1 q3 (by rw [hsl]; exact k2_hasslot (q4 k hk)) rfl rfl hd kk2
/-- a final field, in a constructor of its class -/
theorem xr_putF {a ci k idx : Nat} {fs : List Value} {v : Value} (hd : decode y.2.1 pc = .ok (.putfield idx, 3)) (hF : xFld y.1.cls idx ci k) (hfin : ((vwCl[ci]?).map fun q => (q.2.1 k).2.2.2) = some true) (hini : y.1.name = "<init>") (hown0 : ((vwCl[ci]?).map fun q => q.1) = some y.1.cls) (ha : M.1 a = ob ci fs) (hl0 : Nat.blt k fs.length = true) (hnar : narrow (xft ci k) v = v) (hfit : fits (xft ci k) v = true) (hn : pc + 3 = n) (kk : xX G d y r0 lim Φ n ls st (xu M.1 a (ob ci (fs.set k v)), M.2)) : xX G d y r0 lim Φ pc ls (v :: .ref a :: st) M := by
  subst hn
  intro p e R s m args below meth c Zf H locs lo hΦ hC hw hS hl hb
  obtain ⟨C, T, N, hcl, hk, hlink⟩ := hF
  obtain ⟨C', T', N', hcl', hin, hty, hnm, hown, -, -⟩ := xCl_all (vwCl_lt hcl)
  cases hcl.symm.trans hcl'
  rw [hcl] at hfin hown0
  have hfin : (T k).2.2.2 = true := Option.some.inj hfin
  have hown0 : C = y.1.cls := Option.some.inj hown0
  have hxk := hC.2.2.2.2.2.2.2.1
  obtain ⟨hat, hr⟩ := xw_in hw ha (vwCl_lt hcl)
  have hts := xk_ts hxk args
  have hK : va_K G.2.1 vwCl [] s := xKn hxk
  have hap := va_apart (own := C) hts hin (xft ci) hty hnm hK hcl
  obtain ⟨r, h1, cell, q1, q2, q3, q4⟩ := hat
  cases h1.symm.trans hcl
  obtain ⟨hSl, hfc, kC, hkC, hkind⟩ := hK.1 ci _ hcl
  obtain ⟨cf, kf, fi, f, hi, hsl⟩ := hSl k hk
  have hlay := hts _ (hin _ (u_in_lay hk))
  unfold u_lay at hlay
  rw [if_pos hfin] at hlay
  have hst := (u_facts hfc hkC (u_lays hts hin hk) hi).1
  have hownC : s.vm.findClass C = some m.cls := by rw [hown0]; exact hC.2.2.2.2.1
  have hcf : m.cls = cf := by
    obtain ⟨_, _, c', _, _, _, -, -, hf', -, -, -, hown2, -⟩ := Cond.laysFinal_spec hlay
    have e1 : c' = cf := by have := hi.symm.trans hf'; simp at this; exact this.1.symm
    rw [hown k hk] at hown2
    rw [← e1]; exact Option.some.inj (hownC.symm.trans hown2)
  have h6 := u_fits hfc hkC hkind (Or.inr hlay) hi (hty k hk) hnar hfit
  have hi2 := hi
  rw [hown k hk] at hi2
  have hin2 : meth.name = "<init>" := hC.2.2.2.2.2.1.trans hini
  have kk2 : ∀ H' : Heap, H'[a]? = some (cell.setSlot f.slot v) → H'.size = H.size → (∀ q, q ≠ a → H'[q]? = H[q]?) → W p G.1 e R s m args below meth c H' (locs ++ [⟨a, f.slot⟩]) (M.2.1 - r0.1) (M.2.2 - r0.2) Zf (F0 m (pc + 3) lo st) := fun H' e1 e2 e3 =>
    kk p e R s m args below meth c Zf H' _ lo hΦ hC (xw_put hw e2 e3 hr ⟨_, hcl, t_OB.to (V := updV (vp_V fs) k v) ⟨_, e1, q2, q3, by rw [hsl]; exact t_set q4 hap hk v⟩ (fun j _ => vp_updV_set (Nat.le_of_ble_eq_true hl0) v j)⟩) (hS.put e2 e3 hr.1) hl hb
  rcases hlink with hlink | ⟨host, hlink⟩
  · exact W.putFinK hC.1 hC.2.1 hC.2.2.2.2.1 (hts _ hlink) hi2 hst hcf hin2 (by rw [q2]; exact h6) q1 q3 (by rw [hsl]; exact k2_hasslot (q4 k hk)) rfl rfl hd kk2
  · have hlink2 := hts _ hlink
    exact va_Wputf hC.1 hC.2.1 hC.2.2.2.2.1 hlink2 hi2 hst (Or.inr ⟨hcf, hin2⟩) q1 (by rw [q3]; exact fun h => by cases h) (by rw [hsl]; exact k2_hasslot (q4 k hk)) h6.1 (by rw [q2, q3]; exact h6.2) rfl rfl hd (kk2 _ (by simp [Array.getElem?_setIfInBounds, (Array.getElem?_eq_some_iff.mp q1).1]) (by simp) (fun q hq => by simp [Array.getElem?_setIfInBounds, Ne.symm hq]))
theorem xr_iaload {a nn : Nat} {g : Nat → Int32} {i : Int32} (hd : decode y.2.1 pc = .ok (.iaload, 1)) (ha : M.1 a = aI 0 nn g) (hin : vp_in i nn) (hn : pc + 1 = n) (kk : xX G d y r0 lim Φ n ls (.int (g i.toNatClampNeg) :: st) M) : xX G d y r0 lim Φ pc ls (.int i :: .ref a :: st) M := by
  subst hn
  intro p e R s m args below meth c Zf H locs lo hΦ hC hw hS hl hb
  have hxk := hC.2.2.2.2.2.2.2.1
  obtain ⟨hat, hr⟩ := xw_inI hw ha
  have hlt : i.toNatClampNeg < nn := Nat.not_le.mp fun q => hin (Or.inr q)
  exact W.iald (v := .int (g i.toNatClampNeg)) hC.1 hC.2.1 hat ((hxk.2.2.1 0 (by omega)).1 nn (fun j => .int (g j))) (fun q => by cases q) (by show ¬ (i < 0 ∨ (arrV _ _ _).slots.size ≤ _); rw [arrV_size]; exact hin) (by show (arrV _ _ _).slots[_]? = _; rw [arrV_read _ _ hlt]) rfl rfl hd (kk p e R s m args below meth c Zf H locs lo hΦ hC hw hS hl hb)
theorem xr_caload {a nn : Nat} {g : Nat → Int32} {i : Int32} (hd : decode y.2.1 pc = .ok (.caload, 1)) (ha : M.1 a = aI 1 nn g) (hin : vp_in i nn) (hn : pc + 1 = n) (kk : xX G d y r0 lim Φ n ls (.int (g i.toNatClampNeg) :: st) M) : xX G d y r0 lim Φ pc ls (.int i :: .ref a :: st) M := by
  subst hn
  intro p e R s m args below meth c Zf H locs lo hΦ hC hw hS hl hb
  have hxk := hC.2.2.2.2.2.2.2.1
  obtain ⟨hat, hr⟩ := xw_inI hw ha
  have hlt : i.toNatClampNeg < nn := Nat.not_le.mp fun q => hin (Or.inr q)
  exact W.cald (v := .int (g i.toNatClampNeg)) hC.1 hC.2.1 hat ((hxk.2.2.1 1 (by omega)).1 nn (fun j => .int (g j))) (fun q => by cases q) (by show ¬ (i < 0 ∨ (arrV _ _ _).slots.size ≤ _); rw [arrV_size]; exact hin) (by show (arrV _ _ _).slots[_]? = _; rw [arrV_read _ _ hlt]) rfl rfl hd (kk p e R s m args below meth c Zf H locs lo hΦ hC hw hS hl hb)
theorem xr_aaload {a t nn : Nat} {g : Nat → Option Nat} {i : Int32} (hd : decode y.2.1 pc = .ok (.aaload, 1)) (ha : M.1 a = aR t nn g) (ht : t = 2 ∨ t = 3) (hin : vp_in i nn) (hn : pc + 1 = n) (kk : xX G d y r0 lim Φ n ls (va_rf (g i.toNatClampNeg) :: st) M) : xX G d y r0 lim Φ pc ls (.int i :: .ref a :: st) M := by
  subst hn
  intro p e R s m args below meth c Zf H locs lo hΦ hC hw hS hl hb
  have hxk := hC.2.2.2.2.2.2.2.1
  obtain ⟨hat, hr⟩ := xw_inR hw ha
  have hlt : i.toNatClampNeg < nn := Nat.not_le.mp fun q => hin (Or.inr q)
  exact W.aald (v := va_rf (g i.toNatClampNeg)) (ty := xTy t) hC.1 hC.2.1 hat ((hxk.2.2.1 t (by omega)).1 nn (fun j => va_rf (g j))) (by rcases ht with rfl | rfl <;> rfl) (fun q => by cases q) (by show ¬ (i < 0 ∨ (arrV _ _ _).slots.size ≤ _); rw [arrV_size]; exact hin) (by show (arrV _ _ _).slots[_]? = _; rw [arrV_read _ _ hlt]) rfl rfl hd (kk p e R s m args below meth c Zf H locs lo hΦ hC hw hS hl hb)
theorem xr_iastore {a nn : Nat} {g : Nat → Int32} {i x : Int32} (hd : decode y.2.1 pc = .ok (.iastore, 1)) (ha : M.1 a = aI 0 nn g) (hin : vp_in i nn) (hn : pc + 1 = n) (kk : xX G d y r0 lim Φ n ls st (xu M.1 a (aI 0 nn (upd g i.toNatClampNeg x)), M.2)) : xX G d y r0 lim Φ pc ls (.int x :: .int i :: .ref a :: st) M := by
  subst hn
  intro p e R s m args below meth c Zf H locs lo hΦ hC hw hS hl hb
  have hxk := hC.2.2.2.2.2.2.2.1
  obtain ⟨hat, hr⟩ := xw_inI hw ha
  refine W.iast hC.1 hC.2.1 hat ((hxk.2.2.1 0 (by omega)).1 nn (fun j => .int (g j))) (fun q => by cases q) (by show ¬ (i < 0 ∨ (arrV _ _ _).slots.size ≤ _); rw [arrV_size]; exact hin) rfl rfl hd fun H1 e1 z oq => ?_
  refine kk p e R s m args below meth c Zf H1 _ lo hΦ hC (xw_put hw z oq hr ?_) (hS.put z oq hr.1) hl hb
  show H1[a]? = some (vp_cell _ _)
  rw [e1]
  rw [vp_cell_i, vp_cell_i, arrV_store]
  congr 2
  funext q
  by_cases hq : q = i.toNatClampNeg
  · subst hq
    simp [updV, upd]
  · simp [updV, upd, hq]
theorem xr_castore {a nn : Nat} {g : Nat → Int32} {i x : Int32} (hd : decode y.2.1 pc = .ok (.castore, 1)) (ha : M.1 a = aI 1 nn g) (hin : vp_in i nn) (hx : vp_nar .char x = x) (hn : pc + 1 = n) (kk : xX G d y r0 lim Φ n ls st (xu M.1 a (aI 1 nn (upd g i.toNatClampNeg x)), M.2)) : xX G d y r0 lim Φ pc ls (.int x :: .int i :: .ref a :: st) M := by
  subst hn
  intro p e R s m args below meth c Zf H locs lo hΦ hC hw hS hl hb
  have hxk := hC.2.2.2.2.2.2.2.1
  obtain ⟨hat, hr⟩ := xw_inI hw ha
  refine W.cast hC.1 hC.2.1 hat ((hxk.2.2.1 1 (by omega)).1 nn (fun j => .int (g j))) (fun q => by cases q) (by show ¬ (i < 0 ∨ (arrV _ _ _).slots.size ≤ _); rw [arrV_size]; exact hin) rfl rfl hd fun H1 e1 z oq => ?_
  refine kk p e R s m args below meth c Zf H1 _ lo hΦ hC (xw_put hw z oq hr ?_) (hS.put z oq hr.1) hl hb
  show H1[a]? = some (vp_cell _ _)
  rw [e1]
  have hx2 : narrow .char (.int x) = .int x := by
    rw [show narrow .char (.int x) = .int (vp_nar .char x) from rfl, hx]
  rw [hx2, vp_cell_i, vp_cell_i, arrV_store]
  congr 2
  funext q
  by_cases hq : q = i.toNatClampNeg
  · subst hq
    simp [updV, upd]
  · simp [updV, upd, hq]
theorem xr_aastore {a t nn v ci : Nat} {vs : List Value} {g : Nat → Option Nat} {i : Int32} (hd : decode y.2.1 pc = .ok (.aastore, 1)) (ha : M.1 a = aR t nn g) (hv : M.1 v = ob ci vs) (ht : (t = 2 ∧ ci = 1) ∨ (t = 3 ∧ ci = 2)) (hin : vp_in i nn) (hn : pc + 1 = n) (kk : xX G d y r0 lim Φ n ls st (xu M.1 a (aR t nn (va_up g i.toNatClampNeg (some v))), M.2)) : xX G d y r0 lim Φ pc ls (.ref v :: .int i :: .ref a :: st) M := by
  subst hn
  intro p e R s m args below meth c Zf H locs lo hΦ hC hw hS hl hb
  have hxk := hC.2.2.2.2.2.2.2.1
  obtain ⟨hat, hr⟩ := xw_inR hw ha
  have hlt : i.toNatClampNeg < nn := Nat.not_le.mp fun q => hin (Or.inr q)
  have h0 : ¬ i < 0 := fun q => hin (Or.inl q)
  obtain ⟨⟨r', hr', cellV, g1, g2, g3, -⟩, -⟩ := xw_in hw hv (by omega)
  have hcls := (hxk.2.1 ci r' hr').2
  have hra := (hxk.2.2.1 t (by omega)).2
  have hx : ∃ (kA : Class) (comp : ClassId) (tt : FieldType), s.vm.classes[G.2.2.1 t]? = some kA ∧ kA.kind = .array comp tt ∧ tt.isReference = true ∧ s.vm.findClass r'.1 = some comp := by
    rcases ht with ⟨rfl, rfl⟩ | ⟨rfl, rfl⟩ <;> (cases hr'; obtain ⟨kA, comp, k1, k2, k3, -⟩ := hra; exact ⟨kA, comp, _, k1, k2, rfl, k3⟩)
  obtain ⟨kA, comp, tt, k1, k2, k4, k3⟩ := hx
  have hcomp : comp = G.2.1.1 ci := Option.some.inj (k3.symm.trans hcls.1)
  subst hcomp
  obtain ⟨kC, hkC, -⟩ := hcls.2
  refine W.aast hC.1 hC.2.1 hat (fun q h => by cases h) (fun h => by cases h) k1 k2 k4 hkC ⟨h0, by show _ < (arrV _ _ _).slots.size; rw [arrV_size]; exact hlt⟩ g1 (fun q h => by rw [g3] at h; cases h) (by rw [g2]; exact hkC) (by rw [g2]; exact va_assign hcls) rfl rfl hd fun H1 e1 z oq => ?_
  refine kk p e R s m args below meth c Zf H1 _ lo hΦ hC (xw_put hw z oq hr ?_) (hS.put z oq hr.1) hl hb
  show H1[a]? = some (vp_cell _ _)
  rw [e1]
  rw [vp_cell_q, vp_cell_q, arrV_store]
  congr 2
  funext q
  by_cases hq : q = i.toNatClampNeg
  · subst hq
    simp [updV, va_up, va_rf]
  · simp [updV, va_up, hq]
theorem xr_mmin {x z : Int32} {idx : Nat} (hd : decode y.2.1 pc = .ok (.invokestatic idx, 3)) (hL : Cond.methodLink y.1.cls idx Lib.Math.min.name ∈ xWs) (hst : (st.map fun v => v.category).sum ≤ 8) (hn : pc + 3 = n) (kk : xX G (d + 1) y r0 lim Φ n ls (.int (if z < x then z else x) :: st) M) : xX G (d + 1) y r0 lim Φ pc ls (.int z :: .int x :: st) M := by
  subst hn
  intro p e R s m args below meth c Zf H locs lo hΦ hC hw hS hl hb
  have hts := xk_ts hC.2.2.2.2.2.2.2.1 args
  obtain ⟨hR1, hR2, hR3, hR4⟩ := hC.2.2.2.2.2.2.2.2.2.2
  exact va_mmin hC.1 hC.2.1 (hC.2.2.2.1.trans hl.1.1.symm) hC.2.2.2.2.1 (hts _ hL) (hts _ kp_static_Lib_Math_min_name) (hts _ kp_init_java_lang_Math) (hts _ kp_code_Lib_Math_min_name) (by omega) (by omega) (by omega) (by omega) hd (kk p e R s m args below meth c Zf H locs lo hΦ hC hw hS hl hb)
theorem xr_mmax {x z : Int32} {idx : Nat} (hd : decode y.2.1 pc = .ok (.invokestatic idx, 3)) (hL : Cond.methodLink y.1.cls idx Lib.Math.max.name ∈ xWs) (hst : (st.map fun v => v.category).sum ≤ 8) (hn : pc + 3 = n) (kk : xX G (d + 1) y r0 lim Φ n ls (.int (if x < z then z else x) :: st) M) : xX G (d + 1) y r0 lim Φ pc ls (.int z :: .int x :: st) M := by
  subst hn
  intro p e R s m args below meth c Zf H locs lo hΦ hC hw hS hl hb
  have hts := xk_ts hC.2.2.2.2.2.2.2.1 args
  obtain ⟨hR1, hR2, hR3, hR4⟩ := hC.2.2.2.2.2.2.2.2.2.2
  exact va_mmax hC.1 hC.2.1 (hC.2.2.2.1.trans hl.1.1.symm) hC.2.2.2.2.1 (hts _ hL) (hts _ kp_static_Lib_Math_max_name) (hts _ kp_init_java_lang_Math) (hts _ kp_code_Lib_Math_max_name) (by omega) (by omega) (by omega) (by omega) hd (kk p e R s m args below meth c Zf H locs lo hΦ hC hw hS hl hb)
theorem xr_mabs {x : Int32} {idx : Nat} (hd : decode y.2.1 pc = .ok (.invokestatic idx, 3)) (hL : Cond.methodLink y.1.cls idx Lib.Math.abs.name ∈ xWs) (hst : (st.map fun v => v.category).sum ≤ 8) (hn : pc + 3 = n) (kk : xX G (d + 1) y r0 lim Φ n ls (.int (if 0 ≤ x then x else 0 - x) :: st) M) : xX G (d + 1) y r0 lim Φ pc ls (.int x :: st) M := by
  subst hn
  intro p e R s m args below meth c Zf H locs lo hΦ hC hw hS hl hb
  have hts := xk_ts hC.2.2.2.2.2.2.2.1 args
  obtain ⟨hR1, hR2, hR3, hR4⟩ := hC.2.2.2.2.2.2.2.2.2.2
  exact va_mabs hC.1 hC.2.1 (hC.2.2.2.1.trans hl.1.1.symm) hC.2.2.2.2.1 (hts _ hL) (hts _ kp_static_Lib_Math_abs_name) (hts _ kp_init_java_lang_Math) (hts _ kp_code_Lib_Math_abs_name) (by omega) (by omega) (by omega) (by omega) hd (kk p e R s m args below meth c Zf H locs lo hΦ hC hw hS hl hb)
theorem xr_objInit {a idx : Nat} (hd : decode y.2.1 pc = .ok (.invokespecial idx, 3)) (hL : Cond.methodLink y.1.cls idx objectInit ∈ xWs) (hst : (st.map fun v => v.category).sum ≤ 8) (hn : pc + 3 = n) (kk : xX G (d + 1) y r0 lim Φ n ls st M) : xX G (d + 1) y r0 lim Φ pc ls (.ref a :: st) M := by
  subst hn
  intro p e R s m args below meth c Zf H locs lo hΦ hC hw hS hl hb
  have hts := xk_ts hC.2.2.2.2.2.2.2.1 args
  obtain ⟨hR1, hR2, hR3, hR4⟩ := hC.2.2.2.2.2.2.2.2.2.2
  exact W.objInit hC.1 hC.2.1 hC.2.2.2.2.1 (hts _ hL) (hts _ kp_instanceMethod_objectInit) (hts _ kp_code_objectInit) rfl (by rw [hC.2.2.2.1]; exact hl.1.1) rfl hd (by omega) (by show 2 * 0 + _ + 12 ≤ _; omega) (kk p e R s m args below meth c Zf H locs lo hΦ hC hw hS hl hb)
theorem xr_new {idx ci : Nat} {C : String} {N : Nat} {fs : List Value} (hd : decode y.2.1 pc = .ok (.new idx, 3)) (hL : Cond.classLink y.1.cls idx C ∈ xWs) (hci : ((vwCl[ci]?).map fun q => (q.1, q.2.2)) = some (C, N)) (hfs : ∀ j, j < N → defaultValue (xft ci j) = vp_V fs j) (hlim : M.2.1 + 1 ≤ lim.1 ∧ M.2.2 + N ≤ lim.2) (hn : pc + 3 = n) (kk : xX G d y r0 lim Φ n ls (.ref M.2.1 :: st) (xu M.1 M.2.1 (ob ci fs), (M.2.1 + 1, M.2.2 + N))) : xX G d y r0 lim Φ pc ls st M := by
  subst hn
  intro p e R s m args below meth c Zf H locs lo hΦ hC hw hS hl hb
  obtain ⟨⟨C1, T, N1⟩, hcl, hcn⟩ := Option.map_eq_some_iff.mp hci
  have e1 : C = C1 := (congrArg Prod.fst hcn).symm
  have e2 : N = N1 := (congrArg Prod.snd hcn).symm
  subst e1
  subst e2
  obtain ⟨C', T', N', hcl', hin, hty, hnm, hown, hins, hini⟩ := xCl_all (vwCl_lt hcl)
  cases hcl.symm.trans hcl'
  have hxk := hC.2.2.2.2.2.2.2.1
  have hts := xk_ts hxk args
  obtain ⟨hR1, hR2, hR3, hR4⟩ := hC.2.2.2.2.2.2.2.2.2.2
  have hKn := hxk.2.1 ci _ hcl
  refine W.newcK hC.1 hC.2.1 hC.2.2.2.2.1 (hts _ hL) (hts _ hins) (hts _ hini) rfl hd (by omega) (by omega) hKn.2.1 hw.1 fun H1 kC hkC e1 z1 o1 => ?_
  refine W.cs (cells' := M.2.1 + 1 - r0.1) (slots' := M.2.2 + N - r0.2) (by omega) (by omega) ?_
  exact kk p e R s m args below meth c Zf H1 locs lo hΦ hC (xw_new hw (by rw [z1, hw.1]) (by rw [hw.1]; exact o1) ⟨_, hcl, (u_born (xft ci) hts hin hKn hkC e1 hty).to hfs⟩) ⟨Nat.le_trans hS.1 (by rw [z1, hw.1]; omega), fun q h1 h2 => (o1 q (by rw [← hw.1]; exact Nat.lt_of_lt_of_le h1 hS.1)).trans (hS.2.1 q h1 h2), hS.2.2⟩ hl ⟨by show _ ≤ M.2.1 + 1; omega, by show _ ≤ M.2.2 + N; omega, hlim.1, hlim.2⟩
theorem arrOfT_eq {s : State} {c1 c2 : ClassId} {ty : FieldType} (h1 : s.vm.findClass ("[" ++ ty.toString) = some c1) (h2 : s.vm.findClass ("[" ++ ty.toString) = some c2) : c1 = c2 := Option.some.inj (h1.symm.trans h2)
theorem xr_newarray {z : Int32} {N t : Nat} {at0 : ArrayType} (hd : decode y.2.1 pc = .ok (.newarray at0, 2)) (ht : (at0 = .int ∧ t = 0) ∨ (at0 = .char ∧ t = 1)) (hz : ¬ z < 0) (hN : z.toNatClampNeg = N) (hbig : N ≤ 100000) (hlim : M.2.1 + 1 ≤ lim.1 ∧ M.2.2 + N ≤ lim.2) (hn : pc + 2 = n) (kk : xX G d y r0 lim Φ n ls (.ref M.2.1 :: st) (xu M.1 M.2.1 (aI t N (fun _ => 0)), (M.2.1 + 1, M.2.2 + N))) : xX G d y r0 lim Φ pc ls (.int z :: st) M := by
  subst hn
  intro p e R s m args below meth c Zf H locs lo hΦ hC hw hS hl hb
  have hxk := hC.2.2.2.2.2.2.2.1
  have hts := xk_ts hxk args
  obtain ⟨hR1, hR2, hR3, hR4⟩ := hC.2.2.2.2.2.2.2.2.2.2
  have h4 := hxk.2.2.2.1
  have key : ∀ (ty : FieldType), newarray.typeOf at0 = ty → ty = xTy t → (Cond.arrayClass ty).before args s = true → componentBytes ty ≤ 4 → defaultValue ty = .int 0 → va_RA s (G.2.2.1 t) ty → (∀ c, va_RA s c ty → s.vm.findClass ("[" ++ ty.toString) = some c) → W p G.1 e R s m args below meth c H locs (M.2.1 - r0.1) (M.2.2 - r0.2) Zf (F0 m pc lo (.int z :: st)) := by
    intro ty hty hty2 hac hcb hdv hra hraf
    subst hty
    refine va_newaK hC.1 hC.2.1 hac rfl hd rfl hz hN (Nat.le_trans (Nat.mul_le_mul hbig hcb) (by decide)) (by omega) (by omega) hw.1 fun H1 cA e1 z1 o1 hAr hNm => ?_
    have hcA : cA = G.2.2.1 t := Option.some.inj (hNm.symm.trans (hraf _ hra))
    subst hcA
    refine W.cs (cells' := M.2.1 + 1 - r0.1) (slots' := M.2.2 + N - r0.2) (by omega) (by omega) ?_
    refine kk p e R s m args below meth c Zf H1 locs lo hΦ hC (xw_new hw (by rw [z1, hw.1]) (by rw [hw.1]; exact o1) ?_) ⟨Nat.le_trans hS.1 (by rw [z1, hw.1]; omega), fun q h1 h2 => (o1 q (by rw [← hw.1]; exact Nat.lt_of_lt_of_le h1 hS.1)).trans (hS.2.1 q h1 h2), hS.2.2⟩ hl ⟨by show _ ≤ M.2.1 + 1; omega, by show _ ≤ M.2.2 + N; omega, hlim.1, hlim.2⟩
    show H1[M.2.1]? = some (vp_cell _ _)
    rw [e1, hdv]
    rfl
  rcases ht with ⟨rfl, rfl⟩ | ⟨rfl, rfl⟩
  · exact key .int rfl rfl (h4.1 args) (by decide) rfl (hxk.2.2.1 0 (by omega)).2 (fun c h => h)
  · exact key .char rfl rfl (h4.2 args) (by decide) rfl (hxk.2.2.1 1 (by omega)).2 (fun c h => h)
theorem xr_anewarray {z : Int32} {N t idx : Nat} {C : String} (hd : decode y.2.1 pc = .ok (.anewarray idx, 3)) (hL : Cond.classLink y.1.cls idx C ∈ xWs) (ht : (C = RX1 ∧ t = 2) ∨ (C = RX2 ∧ t = 3)) (hz : ¬ z < 0) (hN : z.toNatClampNeg = N) (hbig : N ≤ 100000) (hlim : M.2.1 + 1 ≤ lim.1 ∧ M.2.2 + N ≤ lim.2) (hn : pc + 3 = n) (kk : xX G d y r0 lim Φ n ls (.ref M.2.1 :: st) (xu M.1 M.2.1 (aR t N (fun _ => none)), (M.2.1 + 1, M.2.2 + N))) : xX G d y r0 lim Φ pc ls (.int z :: st) M := by
  subst hn
  subst hN
  intro p e R s m args below meth c Zf H locs lo hΦ hC hw hS hl hb
  have hxk := hC.2.2.2.2.2.2.2.1
  have hts := xk_ts hxk args
  obtain ⟨hR1, hR2, hR3, hR4⟩ := hC.2.2.2.2.2.2.2.2.2.2
  have hover : va_AO C s := by
    rcases ht with ⟨rfl, -⟩ | ⟨rfl, -⟩
    · exact hxk.2.2.2.2.1
    · exact hxk.2.2.2.2.2
  have hraf : s.vm.findClass ("[" ++ (FieldType.object C).toString) = some (G.2.2.1 t) := by
    rcases ht with ⟨rfl, rfl⟩ | ⟨rfl, rfl⟩
    · obtain ⟨_, _, -, -, -, h⟩ := (hxk.2.2.1 2 (by omega)).2; exact h
    · obtain ⟨_, _, -, -, -, h⟩ := (hxk.2.2.1 3 (by omega)).2; exact h
  refine W.anew hC.1 hC.2.1 hC.2.2.2.2.1 (hts _ hL) (va_AO.use hover) rfl hd rfl hz (by omega) (by omega) (by omega) fun cA kA comp f1 f2 f3 f4 => ?_
  have hcA : cA = G.2.2.1 t := Option.some.inj (f1.symm.trans hraf)
  subst hcA
  generalize hH1 : H.push ({ cls := G.2.2.1 t, slots := Array.replicate z.toNatClampNeg .null, vm := .none } : Cell) = H1
  have z1 : H1.size = H.size + 1 := by rw [← hH1, Array.size_push]
  have e1 : H1[H.size]? = some (arrV (G.2.2.1 t) z.toNatClampNeg (fun _ => .null)) := by rw [← hH1, Array.getElem?_push_size, ← arrV_new]
  have o1 : ∀ q : Nat, q < H.size → H1[q]? = H[q]? := fun q hq => by rw [← hH1, Array.getElem?_push, if_neg (Nat.ne_of_lt hq)]
  have hsz := hw.1
  rw [show (Value.ref H.size) = Value.ref M.2.1 by rw [hsz]]
  refine W.cs (cells' := M.2.1 + 1 - r0.1) (slots' := M.2.2 + z.toNatClampNeg - r0.2) (by omega) (by omega) ?_
  refine kk p e R s m args below meth c Zf H1 locs lo hΦ hC (xw_new hw z1 o1 ?_) ⟨Nat.le_trans hS.1 (by omega), fun q h1 h2 => (o1 q (Nat.lt_of_lt_of_le h1 hS.1)).trans (hS.2.1 q h1 h2), hS.2.2⟩ hl ⟨by show _ ≤ M.2.1 + 1; omega, by show _ ≤ M.2.2 + _; omega, hlim.1, hlim.2⟩
  show H1[M.2.1]? = some (vp_cell _ _)
  rw [← hsz, e1]
  rfl
end XH
