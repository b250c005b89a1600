/-! THE CLAIM OUT OF ONE WALK OF THE LAW'S BODY. Your part is whole_start (and what it stands on); all else here is the same for every law, but numbers. -/
def R_law : String := "PairedStepsLaw"
def lw_P (b : Addr) (xs : List Int32) (args : Array Value) (s : State) : Prop := args = #[.ref b] ∧ s.IntsAt b xs ∧ xs.length ≤ 3072 ∧ (Jvm.Cond.and given_1 narrow_1).before args s = true
def lw_Q (_ : Array Value) (s : State) (o : Outcome) (t : State) : Prop := o = .returned (some (.int 1)) ∧ Framed s o t [] 600000 7302250
def lw_Z (below : List Frame) (a : Array Value) (s : State) : State → Prop := fun t => ∃ o, t.status = .running ∧ Ended t below o ∧ lw_Q a s o t
/-- the law's own end, with 1 on the stack, nothing written that was there before, its room as the claim has it -/
theorem lw_ret {p : Program} {l : Launch} {e : Env} {s : State} {m : MethodId} {below : List Frame} {meth : Method} {c : Code} {b : Nat} (hx : p.tables.exec = Jvm.exec) (hb : c.code = code) (hr : meth.sig.returnType = ret) (hlocks : meth.locks = false) {pc : Nat} {H : Heap} {ls : Array Slot} (hdg : decode code pc = .ok (.ireturn, 1)) : W p l e room_1 s m #[Value.ref b] below meth c H [] 600000 7302250 (lw_Z below #[Value.ref b] s) (F0 m pc ls [.int 1]) := by
  intro T hT X
  obtain ⟨fs, hret, hrun, hended, hW, hframe⟩ := X.leave (v := some (.int 1)) (hlocks := hlocks) (fun h => by rw [hr] at h; cases h)
  have hmeth' : T.vm.method? m = some meth := X.method'
  refine ⟨T.setFrames fs, ?_, .returned (some (.int 1)), hrun, hended, rfl, ⟨_, rfl⟩, hW, hframe⟩
  jvm_step X.here [X.here.top, hx, hb, hdg, hmeth', hr, ret, narrow_b1]
  (try refine ⟨rfl, ?_⟩); (try refine ⟨rfl, ?_⟩)
  first | (intro acts; rw [hret _ acts rfl rfl rfl]) | rw [hret _ _ rfl rfl rfl]
  exact Steps.refl _
/-- what holds at the law's entry: the machine, the code, the tables' words (any of lw_tbl by 'hts w (by decide +kernel)'), the script of L ints xs at the cell b, what the Statement gives of the start (any of its parts by flat_of_before) -/
def lw_At (p : Program) (s : State) (m : MethodId) (meth : Method) (c : Code) (b L : Nat) (xs : Nat → Int32) : Prop :=
  p.tables.exec = Jvm.exec ∧ c.code = code ∧ meth.sig.returnType = ret ∧ c.maxLocals = 4 ∧ s.vm.findClass R_law = some m.cls ∧ (∀ w ∈ lw_tbl, w.before #[Value.ref b] s = true) ∧ va_X b L xs s s.heap ∧ b < s.heap.size ∧ meth.locks = false ∧ (Jvm.Cond.and given_1 narrow_1).before #[Value.ref b] s = true
/-! THE LAW's rows -/
def mLw (nm : String) : xY := (⟨RL, nm, "([I)Z"⟩, cL_law, 4, ret)
def xΦL (G : xG) (b L : Nat) (xs : Nat → Int32) : xF := fun p _ R s _ args below meth _ Zf => va_X b L xs s s.heap ∧ b < s.heap.size ∧ G.2.2.2 = s.heap.size ∧ Zf = lw_Z below #[Value.ref b] s ∧ args = #[Value.ref b] ∧ R = room_1 ∧ meth.sig.returnType = ret ∧ meth.locks = false
section
variable {G : xG} {d b L : Nat} {xs : Nat → Int32} {nm : String} {r0 lim : Nat × Nat} {ls : List (Nat × Value)} {st : List Value} {M : xM} {pc n : Nat}
theorem xl_sld {i : Int32} (hd : decode cL_law pc = .ok (.iaload, 1)) (hin : vp_in i L) (hn : pc + 1 = n) (kk : xX G d (mLw nm) r0 lim (xΦL G b L xs) n ls (.int (xs i.toNatClampNeg) :: st) M) : xX G d (mLw nm) r0 lim (xΦL G b L xs) pc ls (.int i :: .ref b :: st) M := by
  subst hn
  intro p e R s m args below meth c Zf H locs lo hΦ hC hw hS hl hb
  obtain ⟨hX, hbl, hG, -⟩ := id hΦ
  exact va_sld hC.1 hC.2.1 hX hbl (by show ¬ G.2.2.2 ≤ b; omega) hS hin hd (kk p e R s m args below meth c Zf H locs lo hΦ hC hw hS hl hb)
theorem xl_slen (hd : decode cL_law pc = .ok (.arraylength, 1)) (hn : pc + 1 = n) (kk : xX G d (mLw nm) r0 lim (xΦL G b L xs) n ls (.int (nI L) :: st) M) : xX G d (mLw nm) r0 lim (xΦL G b L xs) pc ls (.ref b :: st) M := by
  subst hn
  intro p e R s m args below meth c Zf H locs lo hΦ hC hw hS hl hb
  obtain ⟨hX, hbl, hG, -⟩ := id hΦ
  exact va_slen hC.1 hC.2.1 hX hbl (by show ¬ G.2.2.2 ≤ b; omega) hS hd (kk p e R s m args below meth c Zf H locs lo hΦ hC hw hS hl hb)
theorem xl_ret (hd : decode code pc = .ok (.ireturn, 1)) (hlim : lim.1 - r0.1 ≤ 600000 ∧ lim.2 - r0.2 ≤ 7302250) : xX G d (mLw nm) r0 lim (xΦL G b L xs) pc ls [.int 1] M := by
  intro p e R s m args below meth c Zf H locs lo hΦ hC hw hS hl hb
  obtain ⟨hX, hbl, hG, hZ, hargs, hR, hret, hlk⟩ := hΦ
  subst hZ
  subst hargs
  subst hR
  refine va_forget (fun q hq => by have := hS.2.2 q hq; omega) ?_
  refine W.widen (k := 600000) (n := 7302250) (by omega) (by omega) ?_
  exact lw_ret hC.1 hC.2.1 hret hlk hd
end
theorem BR.z {F : Nat → xC} {z m : Nat} (h : BR F z m) : ∃ fs, F z = ob 7 fs := by
  obtain ⟨t, n, sv, N, P, HN, HP, μ, ⟨rl, S, hV⟩, -⟩ := h
  exact ⟨_, hV.1.2.1.1⟩
