/-! calls and ends of the X layer -/
theorem xPc_blind {G : xG} {M : xM} {av : List Value} : FrameBlind (va_Pc av (fun U => xw G M U.heap ∧ xk G U)) := fun a U g mk q => ⟨q.1, q.2.1, xk_same (s := U) rfl q.2.2⟩
section XC
variable {G : xG} {d : Nat} {y : xY} {r0 lim : Nat × Nat} {Φ : xF} {ls : List (Nat × Value)} {st : List Value} {M : xM} {pc n : Nat}
/-- what a call goes on with -/
def xK (G : xG) (d : Nat) (y : xY) (r0 lim : Nat × Nat) (Φ : xF) (n : Nat) (ls : List (Nat × Value)) (st : List Value) : Option Value → xM → Prop := fun v M' => xX G d y r0 lim Φ n ls (xps v st) M'
theorem xr_run {p : Program} {e : Env} {R : Room} {s : State} {m : MethodId} {args : Array Value} {below : List Frame} {meth : Method} {c : Code} {Zf : State → Prop} {H : Heap} {locs : List Loc} {lo : Array Slot} {st0 : List Value} {lim2 : Nat × Nat} {a : Array Value}
    (hΦ : Φ p e R s m args below meth c Zf) (hC : xCx G d y r0 lim p R s m meth c) (hw : xw G M H) (hS : va_S (fun q => G.2.2.2 ≤ q) s.heap H locs) (hl : xl lo y.2.2.1 ls) (hb : r0.1 ≤ M.2.1 ∧ r0.2 ≤ M.2.2 ∧ M.2.1 ≤ lim.1 ∧ M.2.2 ≤ lim.2)
    (h1 : M.2.1 ≤ lim2.1 ∧ M.2.2 ≤ lim2.2) (h2 : lim2.1 ≤ lim.1 ∧ lim2.2 ≤ lim.2) (hn : pc + 3 = n)
    (hr : va_Run p G.1 e R s m args below meth c H locs (M.2.1 - r0.1) (M.2.2 - r0.2) (lim2.1 - M.2.1) (lim2.2 - M.2.2) (F0 m pc lo st0) st (xPost G lim2 (xK G d y r0 lim Φ n ls st) a) (fun q => G.2.2.2 ≤ q)) :
    W p G.1 e R s m args below meth c H locs (M.2.1 - r0.1) (M.2.2 - r0.2) Zf (F0 m pc lo st0) := by
  subst hn
  intro T hT X
  obtain ⟨v, st₀, t, T', L, g0, X', hL, e1, e2, ⟨⟨v', M', hv, hQ, hM2, hw2⟩, hz, hk⟩, stp⟩ := hr T hT X
  cases hv
  rw [g0] at hz hk
  have hS2 : va_S (fun q => G.2.2.2 ≤ q) s.heap T'.heap (locs ++ L) := ⟨Nat.le_trans hS.1 (by rw [e1]; exact hz), fun q q1 q2 => by
      rw [e1, hk q (Nat.lt_of_lt_of_le q1 hS.1) q2]; exact hS.2.1 q q1 q2, fun q hq => by
      rcases List.mem_append.mp hq with h | h
      · exact hS.2.2 q h
      · exact hL q h⟩
  have hW := hQ p e R s m args below meth c Zf T'.heap (locs ++ L) lo hΦ hC (by rw [e1]; exact hw2) hS2 hl ⟨by rw [hM2]; omega, by rw [hM2]; omega, by rw [hM2]; exact h2.1, by rw [hM2]; exact h2.2⟩
  have q1 : M.2.1 - r0.1 + (lim2.1 - M.2.1) = M'.2.1 - r0.1 := by rw [hM2]; omega
  have q2 : M.2.2 - r0.2 + (lim2.2 - M.2.2) = M'.2.2 - r0.2 := by rw [hM2]; omega
  rw [q1, q2] at X'
  obtain ⟨t2, a1, b1⟩ := hW T' rfl X'
  refine ⟨t2, stp t2 ?_, b1⟩
  have hst : xps v st = v.toList ++ st := by cases v <;> rfl
  rw [hst] at a1
  exact a1
theorem xr_cb {own : String} {idx np : Nat} {y2 : xY} {lim2 : Nat × Nat} {R : Room} {s : State} {args : Array Value} (hk : xk G s) (hM : xMth y2 np) (hL : Cond.methodLink own idx y2.1 ∈ xWs) (hR1 : d + 1 ≤ R.frames) (hR2 : 38 * (d + 1) ≤ R.locals) :
    CallB R s args own idx y2.1 y2.2.1 y2.2.2.1 y2.2.2.2 [Cond.code y2.1 y2.2.1 y2.2.2.1 y2.2.2.2] { frames := d, cells := lim2.1 - M.2.1, slots := lim2.2 - M.2.2, locals := 38 * d } (lim2.1 - M.2.1) (lim2.2 - M.2.2) np := by
  have hts := xk_ts hk args
  obtain ⟨h1, h2, h3, h4⟩ := hM
  refine ⟨rfl, rfl, hR1, by show 8 + (y2.2.2.1 + 11) + 38 * d ≤ _; omega, fun w hw a' U hW => ?_, List.mem_singleton.mpr rfl, hts _ h1, hts _ h2, h3.1, fun sig h => ?_, hts _ hL⟩
  · rw [List.mem_singleton.mp hw]
    exact word_at hW (good_of_word rfl) (hts _ h1)
  · have h5 := h3.2
    rw [h] at h5
    exact (Option.some.inj h5).symm
theorem xr_cn {own host : String} {idx np : Nat} {y2 : xY} {lim2 : Nat × Nat} {R : Room} {s : State} {args : Array Value} (hk : xk G s) (hM : xMth y2 np) (hL : Cond.methodLinkNest own idx y2.1 host ∈ xWs) (hR1 : d + 1 ≤ R.frames) (hR2 : 38 * (d + 1) ≤ R.locals) :
    va_CN R s args own idx y2.1 host y2.2.1 y2.2.2.1 y2.2.2.2 [Cond.code y2.1 y2.2.1 y2.2.2.1 y2.2.2.2] { frames := d, cells := lim2.1 - M.2.1, slots := lim2.2 - M.2.2, locals := 38 * d } (lim2.1 - M.2.1) (lim2.2 - M.2.2) np := by
  have hts := xk_ts hk args
  obtain ⟨h1, h2, h3, h4⟩ := hM
  refine ⟨⟨rfl, rfl, hR1, by show 8 + (y2.2.2.1 + 11) + 38 * d ≤ _; omega, fun w hw a' U hW => ?_, List.mem_singleton.mpr rfl⟩, hts _ h1, hts _ h2, h3.1, fun sig h => ?_, hts _ hL⟩
  · rw [List.mem_singleton.mp hw]
    exact word_at hW (good_of_word rfl) (hts _ h1)
  · have h5 := h3.2
    rw [h] at h5
    exact (Option.some.inj h5).symm
theorem xr_callV {b ci np idx : Nat} {fs As stk : List Value} {y2 : xY} {lim2 : Nat × Nat} (hd : decode y.2.1 pc = .ok (.invokevirtual idx, 3)) (hL : xLnk y.1.cls idx y2.1) (hM : xMth y2 np) (hI : Cond.instanceMethod y2.1 ∈ xWs ∧ Cond.selects y2.1.cls y2.1 y2.1 ∈ xWs) (ha : M.1 b = ob ci fs) (hc : ((vwCl[ci]?).map fun q => q.1) = some y2.1.cls) (hnp : As.length = np) (hstk : stk = As.reverse ++ .ref b :: st) (hst : (st.map fun v => v.category).sum ≤ 8) (hn : pc + 3 = n) (h2 : lim2.1 ≤ lim.1 ∧ lim2.2 ≤ lim.2)
    (k : xMet G d y2 (.ref b :: As) M lim2 (xK G (d + 1) y r0 lim Φ n ls st)) : xX G (d + 1) y r0 lim Φ pc ls stk M := by
  subst hstk
  intro p e R s m args below meth c Zf H locs lo hΦ hC hw hS hl hb
  have hxk := hC.2.2.2.2.2.2.2.1
  have hts := xk_ts hxk args
  obtain ⟨hR1, hR2, hR3, hR4⟩ := hC.2.2.2.2.2.2.2.2.2.2
  obtain ⟨q, hcl, hq⟩ := Option.map_eq_some_iff.mp hc
  obtain ⟨⟨r', hr', cellB, g1, g2, g3, -⟩, -⟩ := xw_in hw ha (vwCl_lt hcl)
  cases hr'.symm.trans hcl
  have hfc := (hxk.2.1 ci _ hcl).2.1
  have hPV : PreV s H y2.1.cls b (va_Pc (.ref b :: As) (fun U => xw G M U.heap ∧ xk G U)) As := ⟨xPc_blind, ⟨cellB, g1, by rw [g3]; rfl, by rw [g2, ← hq]; exact hfc⟩, fun U hU hW => ⟨rfl, by rw [hU]; exact hw, xk_moved hW hxk⟩⟩
  have hroom : 2 * (F0 m pc lo (As.reverse ++ .ref b :: st)).monitorRoom + (st.map fun v => v.category).sum ≤ 8 := lv_room hst
  refine xr_run (st := st) hΦ hC hw hS hl hb k.1 h2 hn (a := (Value.ref b :: As).toArray) ?_
  rcases hL with hL | ⟨host, hL⟩
  · exact va_runV (Ts := xWs) ⟨hC.1, hC.2.1, hC.2.2.2.1, hC.2.2.2.2.1, hts⟩ k.2 ⟨xr_cb hxk hM hL hR1 hR2, hts _ hI.1, hts _ hI.2⟩ hPV rfl hnp hl.1.1 rfl hroom hd ⟨by omega, by omega⟩
  · exact va_runVN (Ts := xWs) ⟨hC.1, hC.2.1, hC.2.2.2.1, hC.2.2.2.2.1, hts⟩ k.2 ⟨xr_cn hxk hM hL hR1 hR2, hts _ hI.1, hts _ hI.2⟩ hPV rfl hnp hl.1.1 rfl hroom hd ⟨by omega, by omega⟩
theorem xr_callS {np idx : Nat} {As stk : List Value} {y2 : xY} {lim2 : Nat × Nat} (hd : decode y.2.1 pc = .ok (.invokestatic idx, 3)) (hL : xLnk y.1.cls idx y2.1) (hM : xMth y2 np) (hI : Cond.static y2.1 ∈ xWs) (hnp : As.length = np) (hstk : stk = As.reverse ++ st) (hst : (st.map fun v => v.category).sum ≤ 8) (hn : pc + 3 = n) (h2 : lim2.1 ≤ lim.1 ∧ lim2.2 ≤ lim.2)
    (k : xMet G d y2 As M lim2 (xK G (d + 1) y r0 lim Φ n ls st)) : xX G (d + 1) y r0 lim Φ pc ls stk M := by
  subst hstk
  intro p e R s m args below meth c Zf H locs lo hΦ hC hw hS hl hb
  have hxk := hC.2.2.2.2.2.2.2.1
  have hts := xk_ts hxk args
  obtain ⟨hR1, hR2, hR3, hR4⟩ := hC.2.2.2.2.2.2.2.2.2.2
  have hPV : PreS s H (va_Pc As (fun U => xw G M U.heap ∧ xk G U)) As := ⟨xPc_blind, fun U hU hW => ⟨rfl, by rw [hU]; exact hw, xk_moved hW hxk⟩⟩
  have hroom : 2 * (F0 m pc lo (As.reverse ++ st)).monitorRoom + (st.map fun v => v.category).sum ≤ 8 := lv_room hst
  refine xr_run (st := st) hΦ hC hw hS hl hb k.1 h2 hn (a := As.toArray) ?_
  rcases hL with hL | ⟨host, hL⟩
  · exact va_runS (Ts := xWs) ⟨hC.1, hC.2.1, hC.2.2.2.1, hC.2.2.2.2.1, hts⟩ k.2 ⟨xr_cb hxk hM hL hR1 hR2, hts _ hI⟩ hPV rfl hnp hl.1.1 rfl hroom hd ⟨by omega, by omega⟩
  · exact va_runSN (Ts := xWs) ⟨hC.1, hC.2.1, hC.2.2.2.1, hC.2.2.2.2.1, hts⟩ k.2 ⟨xr_cn hxk hM hL hR1 hR2, hts _ hI, trivial⟩ hPV rfl hnp hl.1.1 rfl hroom hd ⟨by omega, by omega⟩
theorem xr_callI {b np idx : Nat} {As stk : List Value} {y2 : xY} {lim2 : Nat × Nat} (hd : decode y.2.1 pc = .ok (.invokespecial idx, 3)) (hL : xLnk y.1.cls idx y2.1) (hM : xMth y2 np) (hret : y2.2.2.2 = none) (hini : y2.1.name = "<init>") (hI : Cond.instanceMethod y2.1 ∈ xWs) (hnp : As.length = np) (hstk : stk = As.reverse ++ .ref b :: st) (hst : (st.map fun v => v.category).sum ≤ 8) (hn : pc + 3 = n) (h2 : lim2.1 ≤ lim.1 ∧ lim2.2 ≤ lim.2)
    (k : xMet G d y2 (.ref b :: As) M lim2 (xK G (d + 1) y r0 lim Φ n ls st)) : xX G (d + 1) y r0 lim Φ pc ls stk M := by
  subst hstk
  intro p e R s m args below meth c Zf H locs lo hΦ hC hw hS hl hb
  have hxk := hC.2.2.2.2.2.2.2.1
  have hts := xk_ts hxk args
  obtain ⟨hR1, hR2, hR3, hR4⟩ := hC.2.2.2.2.2.2.2.2.2.2
  have hPV : PreS s H (va_Pc (.ref b :: As) (fun U => xw G M U.heap ∧ xk G U)) (.ref b :: As) := ⟨xPc_blind, fun U hU hW => ⟨rfl, by rw [hU]; exact hw, xk_moved hW hxk⟩⟩
  have hroom : 2 * (F0 m pc lo (As.reverse ++ .ref b :: st)).monitorRoom + (st.map fun v => v.category).sum ≤ 8 := lv_room hst
  refine xr_run (st := st) hΦ hC hw hS hl hb k.1 h2 hn (a := (Value.ref b :: As).toArray) ?_
  obtain ⟨yn, yb, yl, yr⟩ := y2
  cases hret
  rcases hL with hL | ⟨host, hL⟩
  · exact va_runI (Ts := xWs) ⟨hC.1, hC.2.1, hC.2.2.2.1, hC.2.2.2.2.1, hts⟩ k.2 ⟨xr_cb hxk hM hL hR1 hR2, hini, hts _ hI⟩ hPV rfl hnp hl.1.1 rfl hroom hd ⟨by omega, by omega⟩
  · exact va_runIN (Ts := xWs) ⟨hC.1, hC.2.1, hC.2.2.2.1, hC.2.2.2.2.1, hts⟩ k.2 ⟨xr_cn hxk hM hL hR1 hR2, hini, hts _ hI⟩ hPV rfl hnp hl.1.1 rfl hroom hd ⟨by omega, by omega⟩
theorem xr_ireturn {v : Int32} {Q : Option Value → xM → Prop} {ty : FieldType} (hd : decode y.2.1 pc = .ok (.ireturn, 1)) (hr : y.2.2.2 = some ty) (hnar : narrow ty (.int v) = .int v) (hlim : M.2 = lim) (hq : Q (some (.int v)) M) : xX G d y r0 lim (xΦ G r0 lim Q) pc ls [.int v] M := by
  intro p e R s m args below meth c Zf H locs lo hΦ hC hw hS hl hb
  cases hΦ
  rw [hlim]
  exact W.zret hC.1 hC.2.1 (hC.2.2.1.trans hr) hnar (fun t ht hW => ⟨⟨_, M, rfl, hq, hlim, by rw [ht]; exact hw⟩, hS.F ht⟩) hS.2.2 hd hC.2.2.2.2.2.2.1
theorem xr_areturn {a : Nat} {Q : Option Value → xM → Prop} {nm : String} (hd : decode y.2.1 pc = .ok (.areturn, 1)) (hr : y.2.2.2 = some (.object nm)) (hlim : M.2 = lim) (hq : Q (some (.ref a)) M) : xX G d y r0 lim (xΦ G r0 lim Q) pc ls [.ref a] M := by
  intro p e R s m args below meth c Zf H locs lo hΦ hC hw hS hl hb
  cases hΦ
  rw [hlim]
  exact W.aret hC.1 hC.2.1 (hC.2.2.1.trans hr) (Or.inl ⟨_, rfl⟩) (Or.inr ⟨_, rfl⟩) (fun t ht hW => ⟨⟨_, M, rfl, hq, hlim, by rw [ht]; exact hw⟩, hS.F ht⟩) hS.2.2 hd hC.2.2.2.2.2.2.1
theorem xr_return {Q : Option Value → xM → Prop} (hd : decode y.2.1 pc = .ok (.return_, 1)) (hr : y.2.2.2 = none) (hlim : M.2 = lim) (hq : Q none M) : xX G d y r0 lim (xΦ G r0 lim Q) pc ls [] M := by
  intro p e R s m args below meth c Zf H locs lo hΦ hC hw hS hl hb
  cases hΦ
  rw [hlim]
  exact W.vret hC.1 hC.2.1 (hC.2.2.1.trans hr) (fun t ht hW => ⟨⟨_, M, rfl, hq, hlim, by rw [ht]; exact hw⟩, hS.F ht⟩) hS.2.2 hd hC.2.2.2.2.2.2.1
/-- System.arraycopy of ints -/
theorem xr_copy {a a0 n0 n1 idx : Nat} {f g : Nat → Int32} {sp dp nn : Int32} (hd : decode y.2.1 pc = .ok (.invokestatic idx, 3)) (hL : Cond.methodLink y.1.cls idx arraycopyName ∈ xWs) (ha0 : M.1 a0 = aI 0 n0 f) (ha1 : M.1 a = aI 0 n1 g) (h1 : ¬ sp < 0) (h2 : ¬ dp < 0) (h3 : ¬ nn < 0) (h4 : sp.toNatClampNeg + nn.toNatClampNeg ≤ n0) (h5 : dp.toNatClampNeg + nn.toNatClampNeg ≤ n1) (hst : (st.map fun v => v.category).sum ≤ 8) (hn : pc + 3 = n)
    (kk : xX G (d + 1) y r0 lim Φ n ls st (xu M.1 a (aI 0 n1 (va_cpy f g sp.toNatClampNeg dp.toNatClampNeg nn.toNatClampNeg)), M.2)) : xX G (d + 1) y r0 lim Φ pc ls (.int nn :: .int dp :: .ref a :: .int sp :: .ref a0 :: st) M := by
  subst hn
  intro p e R s m args below meth c Zf H locs lo hΦ hC hw hS hl hb
  have hxk := hC.2.2.2.2.2.2.2.1
  have hts := xk_ts hxk args
  obtain ⟨hR1, hR2, hR3, hR4⟩ := hC.2.2.2.2.2.2.2.2.2.2
  obtain ⟨hc0, hr0⟩ := xw_inI hw ha0
  obtain ⟨hc1, hr1⟩ := xw_inI hw ha1
  have hfr : nativeFrameWords "java/lang/System" "arraycopy" 5 + 11 ≤ 30 := by decide +kernel
  have nneg : ∀ z : Int32, ¬ z < 0 → z.toInt = (z.toNatClampNeg : Int) := by
    intro z hz
    have hz0 : (0 : Int) ≤ z.toInt := by
      have := Int32.not_lt.mp hz
      simpa using Int32.le_iff_toInt_le.mp this
    show z.toInt = ((z.toInt.toNat : Nat) : Int)
    omega
  intro T hT X
  have hA := (hxk.2.2.1 0 (by omega)).1
  obtain ⟨-, k0, hk0, cm0, hkk0⟩ := hA n0 (fun j => .int (f j))
  obtain ⟨-, k1, hk1, cm1, hkk1⟩ := hA n1 (fun j => .int (g j))
  obtain ⟨vm', X', step⟩ := X.arraycopy hC.1 hC.2.2.2.2.1 (hts _ hL) (hts _ kp_native_arraycopyName) (hts _ kp_static_arraycopyName) (hts _ kp_init_java_lang_System) (src := a0) (dst := a) (cs := vp_cell (G.2.2.1 0) (n0, .inl f)) (cd := vp_cell (G.2.2.1 0) (n1, .inl g)) (srcPos := sp) (destPos := dp) (n := nn) (by rw [hT]; exact hc0) (by rw [hT]; exact hc1)
    (fun _ h => by cases h) (fun _ h => by cases h) (fun h => by cases h) (fun h => by cases h) hk0 hk1 hkk0 hkk1 (by simp [show refKind (xTy 0) = false from rfl]) h1 h2 h3
    (by rw [nneg sp h1, nneg nn h3]; show ¬ _ > ((arrV (G.2.2.1 0) n0 (fun j => .int (f j))).slots.size : Int); rw [arrV_size]; omega)
    (by rw [nneg dp h2, nneg nn h3]; show ¬ _ > ((arrV (G.2.2.1 0) n1 (fun j => .int (g j))).slots.size : Int); rw [arrV_size]; omega)
    (fun vm₁ _ i hi => by
      have e : (vp_cell (G.2.2.1 0) (n0, .inl f)).slots.getD (sp.toNatClampNeg + i) .null = .int (f (sp.toNatClampNeg + i)) := by
        show (arrV (G.2.2.1 0) n0 (fun j => .int (f j))).slots.getD _ _ = _
        rw [Array.getD_eq_getD_getElem?, arrV_read _ _ (by omega)]
        rfl
      refine ⟨?_, ?_⟩
      · rw [e]
        rfl
      · rw [e]
        exact trivial)
    (g := F0 m pc lo (.int nn :: .int dp :: .ref a :: .int sp :: .ref a0 :: st)) rfl (by rw [hC.2.2.2.1]; exact hl.1.1) (rest := st) rfl (by rw [hC.2.1]; exact hd) (by omega) (by show 2 * 0 + _ + _ ≤ _; omega)
  have e1 : copied (vp_cell (G.2.2.1 0) (n0, .inl f)) (vp_cell (G.2.2.1 0) (n1, .inl g)) sp dp nn = vp_cell (G.2.2.1 0) (n1, .inl (va_cpy f g sp.toNatClampNeg dp.toNatClampNeg nn.toNatClampNeg)) := va_copied (fun z => .int z) _ _ f g h4
  rw [e1] at X' step
  have hlt : a < H.size := (Array.getElem?_eq_some_iff.mp hc1).1
  have hheap : ((T.setVm vm').setCell a (vp_cell (G.2.2.1 0) (n1, .inl (va_cpy f g sp.toNatClampNeg dp.toNatClampNeg nn.toNatClampNeg)))).heap = H.setIfInBounds a (vp_cell (G.2.2.1 0) (n1, .inl (va_cpy f g sp.toNatClampNeg dp.toNatClampNeg nn.toNatClampNeg))) := by rw [← hT]; rfl
  have oq : ∀ q : Nat, q ≠ a → (H.setIfInBounds a (vp_cell (G.2.2.1 0) (n1, .inl (va_cpy f g sp.toNatClampNeg dp.toNatClampNeg nn.toNatClampNeg))))[q]? = H[q]? := fun q hq => by simp [Array.getElem?_setIfInBounds, Ne.symm hq]
  have hw2 := xw_put (c := aI 0 n1 (va_cpy f g sp.toNatClampNeg dp.toNatClampNeg nn.toNatClampNeg)) (H1 := H.setIfInBounds a (vp_cell (G.2.2.1 0) (n1, .inl (va_cpy f g sp.toNatClampNeg dp.toNatClampNeg nn.toNatClampNeg)))) hw (by simp) oq hr1 (show (H.setIfInBounds a _)[a]? = some _ by simp [Array.getElem?_setIfInBounds, hlt])
  obtain ⟨t, a1, b1⟩ := kk p e R s m args below meth c Zf _ _ lo hΦ hC hw2 ⟨by simp; exact hS.1, fun q g1 g2 => by
      rw [oq q (fun e => g2 (by rw [e]; exact hr1.1))]
      exact hS.2.1 q g1 g2, fun q hq => by
      rcases List.mem_append.mp hq with h | h
      · exact hS.2.2 q h
      · obtain ⟨z, -, hz⟩ := List.mem_map.mp h
        rw [← hz]
        exact hr1.1⟩ hl hb _ hheap X'
  exact ⟨t, step t a1, b1⟩
end XC
