/-! MORE ROWS of the X layer: constants, longs, shifts, the script -/
section XL
variable {G : xG} {d : Nat} {y : xY} {r0 lim : Nat × Nat} {Φ : xF} {ls : List (Nat × Value)} {st : List Value} {M : xM} {pc n : Nat}
theorem xr_ishr {a b : Int32} (hd : decode y.2.1 pc = .ok (.ishr, 1)) (hn : pc + 1 = n) (k : xX G d y r0 lim Φ n ls (.int (a >>> (b &&& 31)) :: st) M) : xX G d y r0 lim Φ pc ls (.int b :: .int a :: st) M := by
  subst hn
  intro p e R s m args below meth c Zf H locs lo hΦ hC hw hS hl hb
  exact lv_ishr hC.1 hC.2.1 hd (k p e R s m args below meth c Zf H locs lo hΦ hC hw hS hl hb)
theorem xr_ixor {a b : Int32} (hd : decode y.2.1 pc = .ok (.ixor, 1)) (hn : pc + 1 = n) (k : xX G d y r0 lim Φ n ls (.int (a ^^^ b) :: st) M) : xX G d y r0 lim Φ pc ls (.int b :: .int a :: st) M := by
  subst hn
  intro p e R s m args below meth c Zf H locs lo hΦ hC hw hS hl hb
  exact lv_ixor hC.1 hC.2.1 hd (k p e R s m args below meth c Zf H locs lo hΦ hC hw hS hl hb)
theorem xr_lmul {a b : Int64} (hd : decode y.2.1 pc = .ok (.lmul, 1)) (hn : pc + 1 = n) (k : xX G d y r0 lim Φ n ls (.long (a * b) :: st) M) : xX G d y r0 lim Φ pc ls (.long b :: .long a :: st) M := by
  subst hn
  intro p e R s m args below meth c Zf H locs lo hΦ hC hw hS hl hb
  exact lv_lmul hC.1 hC.2.1 hd (k p e R s m args below meth c Zf H locs lo hΦ hC hw hS hl hb)
theorem xr_ladd {a b : Int64} (hd : decode y.2.1 pc = .ok (.ladd, 1)) (hn : pc + 1 = n) (k : xX G d y r0 lim Φ n ls (.long (a + b) :: st) M) : xX G d y r0 lim Φ pc ls (.long b :: .long a :: st) M := by
  subst hn
  intro p e R s m args below meth c Zf H locs lo hΦ hC hw hS hl hb
  exact lv_ladd hC.1 hC.2.1 hd (k p e R s m args below meth c Zf H locs lo hΦ hC hw hS hl hb)
theorem xr_i2l {a : Int32} (hd : decode y.2.1 pc = .ok (.i2l, 1)) (hn : pc + 1 = n) (k : xX G d y r0 lim Φ n ls (.long a.toInt64 :: st) M) : xX G d y r0 lim Φ pc ls (.int a :: st) M := by
  subst hn
  intro p e R s m args below meth c Zf H locs lo hΦ hC hw hS hl hb
  exact lv_i2l hC.1 hC.2.1 hd rfl (k p e R s m args below meth c Zf H locs lo hΦ hC hw hS hl hb)
theorem xr_lcmp {a b : Int64} (hd : decode y.2.1 pc = .ok (.lcmp, 1)) (hn : pc + 1 = n) (k : xX G d y r0 lim Φ n ls (.int (lg_cmp a b) :: st) M) : xX G d y r0 lim Φ pc ls (.long b :: .long a :: st) M := by
  subst hn
  intro p e R s m args below meth c Zf H locs lo hΦ hC hw hS hl hb
  exact W.lcmp hC.1 hC.2.1 hd (k p e R s m args below meth c Zf H locs lo hΦ hC hw hS hl hb)
theorem xr_ldc {idx : Nat} {v : Int32} (hd : decode y.2.1 pc = .ok (.ldc idx, 2)) (hL : Cond.constant y.1.cls idx v ∈ xWs) (hn : pc + 2 = n) (k : xX G d y r0 lim Φ n ls (.int v :: st) M) : xX G d y r0 lim Φ pc ls st M := by
  subst hn
  intro p e R s m args below meth c Zf H locs lo hΦ hC hw hS hl hb
  exact lv_ldc hC.1 hC.2.1 hC.2.2.2.2.1 (xk_ts hC.2.2.2.2.2.2.2.1 args _ hL) hd (k p e R s m args below meth c Zf H locs lo hΦ hC hw hS hl hb)
theorem xr_ldc2_w {idx : Nat} {v : Int64} (hd : decode y.2.1 pc = .ok (.ldc2_w idx, 3)) (hL : Cond.constantLong y.1.cls idx v ∈ xWs) (hn : pc + 3 = n) (k : xX G d y r0 lim Φ n ls (.long v :: st) M) : xX G d y r0 lim Φ pc ls st M := by
  subst hn
  intro p e R s m args below meth c Zf H locs lo hΦ hC hw hS hl hb
  exact lv_ldc2 hC.1 hC.2.1 hC.2.2.2.2.1 (xk_ts hC.2.2.2.2.2.2.2.1 args _ hL) hd (k p e R s m args below meth c Zf H locs lo hΦ hC hw hS hl hb)
theorem xr_lload_n {k4 : Fin 4} {x : Int64} (hd : decode y.2.1 pc = .ok (.lload_n k4, 1)) (hl0 : xlk ls k4.val = some (.long x)) (hn : pc + 1 = n) (k : xX G d y r0 lim Φ n ls (.long x :: st) M) : xX G d y r0 lim Φ pc ls st M := by
  subst hn
  intro p e R s m args below meth c Zf H locs lo hΦ hC hw hS hl hb
  exact lv_lload_n hC.1 hC.2.1 hd rfl (xl_at hl hl0) (k p e R s m args below meth c Zf H locs lo hΦ hC hw hS hl hb)
theorem xr_lload {i : Nat} {x : Int64} (hd : decode y.2.1 pc = .ok (.lload i, 2)) (hl0 : xlk ls i = some (.long x)) (hn : pc + 2 = n) (k : xX G d y r0 lim Φ n ls (.long x :: st) M) : xX G d y r0 lim Φ pc ls st M := by
  subst hn
  intro p e R s m args below meth c Zf H locs lo hΦ hC hw hS hl hb
  exact lv_lload hC.1 hC.2.1 hd (xl_at hl hl0) (k p e R s m args below meth c Zf H locs lo hΦ hC hw hS hl hb)
/-- a store of a long to the places i and i + 1 of nL: nothing stands at the second, nothing wide below the first -/
def xhj (ls : List (Nat × Value)) (i nL : Nat) : Bool := Nat.blt (i + 1) nL && ls.all (fun q => !(Nat.beq q.1 (i + 1)) && (Nat.beq q.2.category 1 || !(Nat.beq (q.1 + 1) i)))
theorem xhj_lt {ls : List (Nat × Value)} {i nL : Nat} (h : xhj ls i nL = true) : i + 1 < nL := Nat.le_of_ble_eq_true (Bool.and_eq_true_iff.mp h).1
theorem xl_st2 {lo lo2 : Array Slot} {nL i : Nat} {ls : List (Nat × Value)} {x : Int64} (h : xl lo nL ls) (hi : xhj ls i nL = true) (h2 : lv_has lo2 nL ((i, .long x) :: ls.filter (fun q => !(q.1 == i) && (!(q.1 == i + 1) && !(q.1 + 1 == i && q.2.category == 2))))) : xl lo2 nL (xst ls i (.long x)) := by
  refine ⟨⟨h2.1, h2.2.1, fun q hq => ?_⟩, fun q hq => ?_⟩
  · rcases xst_mem hq with e | ⟨h3, h4⟩
    · rw [e]; exact h2.2.2 (i, .long x) List.mem_cons_self
    · refine h2.2.2 q (List.mem_cons_of_mem _ (List.mem_filter.mpr ⟨h3, ?_⟩))
      have h5 := Bool.and_eq_true_iff.mp (List.all_eq_true.mp (Bool.and_eq_true_iff.mp hi).2 q h3)
      have h8 : ¬ q.1 = i + 1 := fun e => by
        have h9 := h5.1
        rw [e, Nat.beq_refl] at h9
        cases h9
      rcases Bool.or_eq_true_iff.mp h5.2 with h6 | h6
      · have h7 := Nat.eq_of_beq_eq_true h6
        simp [h4, h7, h8]
      · have h7 : ¬ q.1 + 1 = i := fun e => by rw [e, Nat.beq_refl] at h6; cases h6
        simp [h4, h7, h8]
  · rcases xst_mem hq with e | ⟨h3, h4⟩
    · rw [e]; exact Or.inr rfl
    · exact h.2 q h3
theorem xq_lstore_n {k4 : Fin 4} {x : Int64} (i : Nat) (hd : decode y.2.1 pc = .ok (.lstore_n k4, 1)) (hk : k4.val = i) (hi : xhj ls i y.2.2.1 = true) (hn : pc + 1 = n) (k : xX G d y r0 lim Φ n (xst ls i (.long x)) st M) : xX G d y r0 lim Φ pc ls (.long x :: st) M := by
  subst hn
  intro p e R s m args below meth c Zf H locs lo hΦ hC hw hS hl hb
  exact lv_lstore_n hC.1 hC.2.1 hd hk hl.1 (xhj_lt hi) rfl (fun lo2 h2 => k p e R s m args below meth c Zf H locs lo2 hΦ hC hw hS (xl_st2 hl hi h2) hb)
theorem xr_lstore {i : Nat} {x : Int64} (hd : decode y.2.1 pc = .ok (.lstore i, 2)) (hi : xhj ls i y.2.2.1 = true) (hn : pc + 2 = n) (k : xX G d y r0 lim Φ n (xst ls i (.long x)) st M) : xX G d y r0 lim Φ pc ls (.long x :: st) M := by
  subst hn
  intro p e R s m args below meth c Zf H locs lo hΦ hC hw hS hl hb
  exact lv_lstore hC.1 hC.2.1 hd hl.1 (xhj_lt hi) rfl (fun lo2 h2 => k p e R s m args below meth c Zf H locs lo2 hΦ hC hw hS (xl_st2 hl hi h2) hb)
theorem xr_lreturn {v : Int64} {Q : Option Value → xM → Prop} (hd : decode y.2.1 pc = .ok (.lreturn, 1)) (hr : y.2.2.2 = some .long) (hlim : M.2 = lim) (hq : Q (some (.long v)) M) : xX G d y r0 lim (xΦ G r0 lim Q) pc ls [.long v] M := by
  intro p e R s m args below meth c Zf H locs lo hΦ hC hw hS hl hb
  cases hΦ
  rw [hlim]
  exact W.lret hC.1 hC.2.1 (hC.2.2.1.trans hr) (fun t ht hW => ⟨⟨_, M, rfl, hq, hlim, by rw [ht]; exact hw⟩, hS.F ht⟩) hS.2.2 hd hC.2.2.2.2.2.2.1
/-- the script, where the method that runs can see it -/
def xSc (G : xG) (b L : Nat) (xs : Nat → Int32) (s : State) : Prop := va_X b L xs s s.heap ∧ b < s.heap.size ∧ b < G.2.2.2
theorem xl_sld {b L : Nat} {xs : Nat → Int32} {i : Int32} (hX : ∀ p e R s m args below meth c Zf, Φ p e R s m args below meth c Zf → xSc G b L xs s) (hd : decode y.2.1 pc = .ok (.iaload, 1)) (hin : vp_in i L) (hn : pc + 1 = n) (kk : xX G d y r0 lim Φ n ls (.int (xs i.toNatClampNeg) :: st) M) : xX G d y r0 lim Φ pc ls (.int i :: .ref b :: st) M := by
  subst hn
  intro p e R s m args below meth c Zf H locs lo hΦ hC hw hS hl hb
  obtain ⟨h1, hbl, hG⟩ := hX _ _ _ _ _ _ _ _ _ _ hΦ
  exact va_sld hC.1 hC.2.1 h1 hbl (by show ¬ G.2.2.2 ≤ b; omega) hS hin hd (kk p e R s m args below meth c Zf H locs lo hΦ hC hw hS hl hb)
theorem xl_slen {b L : Nat} {xs : Nat → Int32} (hX : ∀ p e R s m args below meth c Zf, Φ p e R s m args below meth c Zf → xSc G b L xs s) (hd : decode y.2.1 pc = .ok (.arraylength, 1)) (hn : pc + 1 = n) (kk : xX G d y r0 lim Φ n ls (.int (nI L) :: st) M) : xX G d y r0 lim Φ pc ls (.ref b :: st) M := by
  subst hn
  intro p e R s m args below meth c Zf H locs lo hΦ hC hw hS hl hb
  obtain ⟨h1, hbl, hG⟩ := hX _ _ _ _ _ _ _ _ _ _ hΦ
  exact va_slen hC.1 hC.2.1 h1 hbl (by show ¬ G.2.2.2 ≤ b; omega) hS hd (kk p e R s m args below meth c Zf H locs lo hΦ hC hw hS hl hb)
theorem va_X_moved {b L : Nat} {xs : Nat → Int32} {s U : State} {H : Heap} (hW : s.WarmedH U.vm) (h : va_X b L xs s H) : va_X b L xs U H := by
  obtain ⟨scr, h1, h2, h3, h4⟩ := h
  exact ⟨scr, h1, State.isArrayOf_alike hW.alike h2, h3, h4⟩
/-- a contract of a method that sees the script -/
def xSMet (G : xG) (d b L : Nat) (xs : Nat → Int32) (y : xY) (av : List Value) (M : xM) (lim : Nat × Nat) (Q : Option Value → xM → Prop) : Prop :=
  (M.2.1 ≤ lim.1 ∧ M.2.2 ≤ lim.2) ∧ Met G.1 y.1 [Cond.code y.1 y.2.1 y.2.2.1 y.2.2.2] { frames := d, cells := lim.1 - M.2.1, slots := lim.2 - M.2.2, locals := 38 * d } (va_Pc av (fun U => (xw G M U.heap ∧ xk G U) ∧ xSc G b L xs U)) (xPost G lim Q) (lim.1 - M.2.1) (lim.2 - M.2.2) (fun q => G.2.2.2 ≤ q)
def xΦS (G : xG) (b L : Nat) (xs : Nat → Int32) (r0 lim : Nat × Nat) (Q : Option Value → xM → Prop) : xF := fun p e R s m args below meth c Zf => xΦ G r0 lim Q p e R s m args below meth c Zf ∧ xSc G b L xs s
theorem xΦS_x {b L : Nat} {xs : Nat → Int32} {Q : Option Value → xM → Prop} : ∀ p e R s m args below meth c Zf, xΦS G b L xs r0 lim Q p e R s m args below meth c Zf → xSc G b L xs s := fun _ _ _ _ _ _ _ _ _ _ h => h.2
theorem xSMet_of {b L : Nat} {xs : Nat → Int32} {av : List Value} {Q : Option Value → xM → Prop} (hy : plainName y.1.cls = true) (hlim : M.2.1 ≤ lim.1 ∧ M.2.2 ≤ lim.2) (hav : av.all (fun v => v.category == 1) = true) (hlen : (lg_sl av).length ≤ y.2.2.1)
    (k : xX G d y M.2 lim (xΦS G b L xs M.2 lim Q) 0 (lv_args 0 av) [] M) : xSMet G d b L xs y av M lim Q := by
  refine ⟨hlim, ?_⟩
  refine Met.ofW (cc := y.2.1) (maxL := y.2.2.1) (ret := y.2.2.2) hy rfl ?_
  intro p e s m args below meth c s₁ B hml hv
  obtain ⟨rfl, ⟨hw, hk⟩, hx⟩ := hv
  have hl := lv_entry av (n := y.2.2.1) hlen
  rw [lg_entry_eq]
  have hin : meth.name = y.1.name := (name_of_methodNamed B.named B.method).1
  refine W.cs (cells' := M.2.1 - M.2.1) (slots' := M.2.2 - M.2.2) (by omega) (by omega) ?_
  refine k p e _ s m _ below meth c _ s.heap [] _ ⟨rfl, hx⟩ ⟨B.exec, B.bytes, B.returns, hml, findClass_of_methodNamed B.named, hin, B.notSynchronized, hk, hw.1, hw.2.1, Nat.le_refl _, Nat.le_refl _, Nat.le_refl _, Nat.le_refl _⟩ hw va_S.rf ⟨hl, ?_⟩ ⟨Nat.le_refl _, Nat.le_refl _, hlim.1, hlim.2⟩
  intro q hq
  refine Or.inl ?_
  have key : ∀ (vs : List Value) (i : Nat), vs.all (fun v => v.category == 1) = true → ∀ q ∈ lv_args i vs, q.2.category = 1 := by
    intro vs
    induction vs with
    | nil => intro i _ q hq; cases hq
    | cons v vs ih =>
      intro i hall q hq
      simp only [List.all_cons, Bool.and_eq_true, beq_iff_eq] at hall
      simp only [lv_args, List.mem_cons] at hq
      rcases hq with rfl | hq
      · exact hall.1
      · exact ih _ hall.2 q hq
  exact key av 0 hav q hq
theorem xs_ireturn {b L : Nat} {xs : Nat → Int32} {v : Int32} {Q : Option Value → xM → Prop} {ty : FieldType} (hd : decode y.2.1 pc = .ok (.ireturn, 1)) (hr : y.2.2.2 = some ty) (hnar : narrow ty (.int v) = .int v) (hlim : M.2 = lim) (hq : Q (some (.int v)) M) : xX G d y r0 lim (xΦS G b L xs r0 lim Q) pc ls [.int v] M := by
  intro p e R s m args below meth c Zf H locs lo hΦ hC hw hS hl hb
  exact xr_ireturn (Q := Q) hd hr hnar hlim hq p e R s m args below meth c Zf H locs lo hΦ.1 hC hw hS hl hb
theorem xPc_blindS {b L : Nat} {xs : Nat → Int32} {av : List Value} : FrameBlind (va_Pc av (fun U => (xw G M U.heap ∧ xk G U) ∧ xSc G b L xs U)) := fun a U g mk q => ⟨q.1, ⟨q.2.1.1, xk_same (s := U) rfl q.2.1.2⟩, q.2.2⟩
theorem xr_callSS {b L np idx : Nat} {xs : Nat → Int32} {As stk : List Value} {y2 : xY} {lim2 : Nat × Nat} (hX : ∀ p e R s m args below meth c Zf, Φ p e R s m args below meth c Zf → xSc G b L xs s) (hd : decode y.2.1 pc = .ok (.invokestatic idx, 3)) (hL : xLnk y.1.cls idx y2.1) (hM : xMth y2 np) (hI : Cond.static y2.1 ∈ xWs) (hnp : As.length = np) (hstk : stk = As.reverse ++ st) (hst : (st.map fun v => v.category).sum ≤ 8) (hn : pc + 3 = n) (h2 : lim2.1 ≤ lim.1 ∧ lim2.2 ≤ lim.2)
    (k : xSMet G d b L xs y2 As M lim2 (xK G (d + 1) y r0 lim Φ n ls st)) : xX G (d + 1) y r0 lim Φ pc ls stk M := by
  subst hstk
  intro p e R s m args below meth c Zf H locs lo hΦ hC hw hS hl hb
  have hxk := hC.2.2.2.2.2.2.2.1
  have hts := xk_ts hxk args
  obtain ⟨hR1, hR2, hR3, hR4⟩ := hC.2.2.2.2.2.2.2.2.2.2
  obtain ⟨hx1, hx2, hx3⟩ := hX _ _ _ _ _ _ _ _ _ _ hΦ
  have hx4 : va_X b L xs s H := by
    obtain ⟨scr, q1, q2⟩ := hx1
    exact ⟨scr, by rw [hS.2.1 b hx2 (by show ¬ G.2.2.2 ≤ b; omega)]; exact q1, q2⟩
  have hx5 : b < H.size := by have := hS.1; omega
  have hPV : PreS s H (va_Pc As (fun U => (xw G M U.heap ∧ xk G U) ∧ xSc G b L xs U)) As := ⟨xPc_blindS, fun U hU hW => ⟨rfl, ⟨by rw [hU]; exact hw, xk_moved hW hxk⟩, by rw [hU]; exact va_X_moved hW hx4, by rw [hU]; exact hx5, hx3⟩⟩
  have hroom : 2 * (F0 m pc lo (As.reverse ++ st)).monitorRoom + (st.map fun v => v.category).sum ≤ 8 := lv_room hst
  refine xr_run (st := st) hΦ hC hw hS hl hb k.1 h2 hn (a := As.toArray) ?_
  rcases hL with hL | ⟨host, hL⟩
  · exact va_runS (Ts := xWs) ⟨hC.1, hC.2.1, hC.2.2.2.1, hC.2.2.2.2.1, hts⟩ k.2 ⟨xr_cb hxk hM hL hR1 hR2, hts _ hI⟩ hPV rfl hnp hl.1.1 rfl hroom hd ⟨by omega, by omega⟩
  · exact va_runSN (Ts := xWs) ⟨hC.1, hC.2.1, hC.2.2.2.1, hC.2.2.2.2.1, hts⟩ k.2 ⟨xr_cn hxk hM hL hR1 hR2, hts _ hI, trivial⟩ hPV rfl hnp hl.1.1 rfl hroom hd ⟨by omega, by omega⟩
end XL
/-! THE CLAIM OUT OF ONE WALK OF THE LAW'S BODY. Your part is whole_start (and what it stands on); all else here is the same for every law, but numbers. -/
def R_law : String := "PairedStepsLaw"
def lw_P (b : Addr) (xs : List Int32) (args : Array Value) (s : State) : Prop := args = #[.ref b] ∧ s.IntsAt b xs ∧ xs.length ≤ 260 ∧ (Jvm.Cond.and given_1 narrow_1).before args s = true
def lw_Q (_ : Array Value) (s : State) (o : Outcome) (t : State) : Prop := o = .returned (some (.int 1)) ∧ Framed s o t [] 600000 7302250
def lw_Z (below : List Frame) (a : Array Value) (s : State) : State → Prop := fun t => ∃ o, t.status = .running ∧ Ended t below o ∧ lw_Q a s o t
/-- the law's own end, with 1 on the stack, nothing written that was there before, its room as the claim has it -/
theorem lw_ret {p : Program} {l : Launch} {e : Env} {s : State} {m : MethodId} {below : List Frame} {meth : Method} {c : Code} {b : Nat} (hx : p.tables.exec = Jvm.exec) (hb : c.code = code) (hr : meth.sig.returnType = ret) (hlocks : meth.locks = false) {pc : Nat} {H : Heap} {ls : Array Slot} (hdg : decode code pc = .ok (.ireturn, 1)) : W p l e room_1 s m #[Value.ref b] below meth c H [] 600000 7302250 (lw_Z below #[Value.ref b] s) (F0 m pc ls [.int 1]) := by
  intro T hT X
  obtain ⟨fs, hret, hrun, hended, hW, hframe⟩ := X.leave (v := some (.int 1)) (hlocks := hlocks) (fun h => by rw [hr] at h; cases h)
  have hmeth' : T.vm.method? m = some meth := X.method'
  refine ⟨T.setFrames fs, ?_, .returned (some (.int 1)), hrun, hended, rfl, ⟨_, rfl⟩, hW, hframe⟩
  jvm_step X.here [X.here.top, hx, hb, hdg, hmeth', hr, ret, narrow_b1]
  (try refine ⟨rfl, ?_⟩); (try refine ⟨rfl, ?_⟩)
  first | (intro acts; rw [hret _ acts rfl rfl rfl]) | rw [hret _ _ rfl rfl rfl]
  exact Steps.refl _
/-- what holds at the law's entry: the machine, the code, the tables' words (any of lw_tbl by 'hts w (by decide +kernel)'), the script of L ints xs at the cell b, what the Statement gives of the start (any of its parts by flat_of_before) -/
def lw_At (p : Program) (s : State) (m : MethodId) (meth : Method) (c : Code) (b L : Nat) (xs : Nat → Int32) : Prop :=
  p.tables.exec = Jvm.exec ∧ c.code = code ∧ meth.sig.returnType = ret ∧ c.maxLocals = 10 ∧ s.vm.findClass R_law = some m.cls ∧ (∀ w ∈ lw_tbl, w.before #[Value.ref b] s = true) ∧ va_X b L xs s s.heap ∧ b < s.heap.size ∧ meth.locks = false ∧ (Jvm.Cond.and given_1 narrow_1).before #[Value.ref b] s = true
/-! THE LAW's own frame -/
def mLw (nm : String) : xY := (⟨RL, nm, "([I)Z"⟩, cL_law, 10, ret)
def xΦL (G : xG) (b L : Nat) (xs : Nat → Int32) : xF := fun p _ R s _ args below meth _ Zf => va_X b L xs s s.heap ∧ b < s.heap.size ∧ G.2.2.2 = s.heap.size ∧ Zf = lw_Z below #[Value.ref b] s ∧ args = #[Value.ref b] ∧ R = room_1 ∧ meth.sig.returnType = ret ∧ meth.locks = false
section
variable {G : xG} {d b L : Nat} {xs : Nat → Int32} {nm : String} {r0 lim : Nat × Nat} {ls : List (Nat × Value)} {st : List Value} {M : xM} {pc n : Nat}
theorem xΦL_x : ∀ p e R s m args below meth c Zf, xΦL G b L xs p e R s m args below meth c Zf → xSc G b L xs s := fun _ _ _ _ _ _ _ _ _ _ h => ⟨h.1, h.2.1, by rw [h.2.2.1]; exact h.2.1⟩
theorem xl_ret (hd : decode code pc = .ok (.ireturn, 1)) (hlim : lim.1 - r0.1 ≤ 600000 ∧ lim.2 - r0.2 ≤ 7302250) : xX G d (mLw nm) r0 lim (xΦL G b L xs) pc ls [.int 1] M := by
  intro p e R s m args below meth c Zf H locs lo hΦ hC hw hS hl hb
  obtain ⟨hX, hbl, hG, hZ, hargs, hR, hret, hlk⟩ := hΦ
  subst hZ
  subst hargs
  subst hR
  refine va_forget (fun q hq => by have := hS.2.2 q hq; omega) ?_
  refine W.widen (k := 600000) (n := 7302250) (by omega) (by omega) ?_
  exact lw_ret hC.1 hC.2.1 hret hlk hd
end
