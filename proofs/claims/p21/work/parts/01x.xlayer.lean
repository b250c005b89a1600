/-! THE X LAYER: one judgement over a memory that is a function of addresses; each row of it is one instruction, proved here once out of the kit's rows. -/
abbrev xC : Type := (Nat × Nat × (Nat → Int32)) ⊕ ((Nat × Nat × (Nat → Option Nat)) ⊕ (Nat × List Value))
abbrev xM : Type := (Nat → xC) × (Nat × Nat)
abbrev aI (t n : Nat) (g : Nat → Int32) : xC := .inl (t, n, g)
abbrev aR (t n : Nat) (r : Nat → Option Nat) : xC := .inr (.inl (t, n, r))
abbrev ob (ci : Nat) (fs : List Value) : xC := .inr (.inr (ci, fs))
def xAbs : xC := .inr (.inr (999, []))
def xtr (aC : Nat → ClassId) (c : xC) : va_E := match c with
  | .inl (t, n, g) => .inl (aC t, n, .inl g)
  | .inr (.inl (t, n, r)) => .inl (aC t, n, .inr (.inr (.inr (.inr r))))
  | .inr (.inr o) => .inr o
abbrev xG : Type := Launch × va_G × (Nat → ClassId) × Nat
def xTy (t : Nat) : FieldType := match t with
  | 0 => .int
  | 1 => .char
  | 2 => .object RX1
  | _ => .object RX2
def xu (f : Nat → xC) (a : Nat) (c : xC) : Nat → xC := fun q => if q = a then c else f q
theorem xu_s (f : Nat → xC) (a : Nat) (c : xC) : xu f a c a = c := by simp [xu]
theorem xu_n (f : Nat → xC) {a q : Nat} (c : xC) (h : q ≠ a) : xu f a c q = f q := by simp [xu, h]
/-- the world: each cell that is there stands in the heap -/
def xw (G : xG) (M : xM) (H : Heap) : Prop := H.size = M.2.1 ∧ G.2.2.2 ≤ M.2.1 ∧ ∀ a, M.1 a ≠ xAbs → G.2.2.2 ≤ a ∧ a < M.2.1 ∧ va_at G.2.1 vwCl (a, xtr G.2.2.1 (M.1 a)) H
theorem xWs_tab {w : Cond} (h : w ∈ xWs) : w.onTables = true := by
  have h2 := (List.mem_filter.mp h).2
  simp only [xWB, Bool.and_eq_true] at h2
  exact h2.1
theorem xWs_or {w : Cond} (h : w ∈ xWs) : goodWord w = true ∨ xNestB w = true := by
  have h2 := (List.mem_filter.mp h).2
  simp only [xWB, Bool.and_eq_true, Bool.or_eq_true] at h2
  exact h2.2
/-- what holds of the tables at each state -/
def xk (G : xG) (U : State) : Prop := (∀ w ∈ xWs, w.before #[] U = true) ∧ (∀ (c : Nat) (q : vw_C), vwCl[c]? = some q → u_Kn U q.1 q.2.1 q.2.2 (G.2.1.1 c) (G.2.1.2 c)) ∧ (∀ t, t < 4 → ArrOfT U (G.2.2.1 t) (xTy t) ∧ va_RA U (G.2.2.1 t) (xTy t)) ∧
  ((∀ A, (Cond.arrayClass .int).before A U = true) ∧ ∀ A, (Cond.arrayClass .char).before A U = true) ∧ va_AO RX1 U ∧ va_AO RX2 U
theorem xk_moved {G : xG} {s U : State} (hW : s.WarmedH U.vm) (h : xk G s) : xk G U := by
  obtain ⟨h1, h2, h3, h4, h5, h6⟩ := h
  refine ⟨fun w hw => ?_, fun c q hq => u_Kn_moved hW.alike (h2 c q hq), fun t ht => ⟨arrOfT_moved hW.alike (h3 t ht).1, (h3 t ht).2.moved hW.alike⟩, ⟨fun A => word_at hW (Or.inr ⟨_, rfl⟩) (h4.1 A), fun A => word_at hW (Or.inr ⟨_, rfl⟩) (h4.2 A)⟩, h5.moved hW.alike, h6.moved hW.alike⟩
  rcases xWs_or hw with hg | hg
  · exact word_at hW (good_of_word hg) (h1 w hw)
  · have h0 := h1 w hw
    cases w <;> first | exact va_Nw.warmF hW h0 | exact va_Nw.warmM hW h0 | cases hg
theorem xk_same {G : xG} {s U : State} (he : U.vm = s.vm) (h : xk G s) : xk G U := xk_moved (by rw [he]; exact State.WarmedH.refl s) h
theorem xk_ts {G : xG} {s : State} (h : xk G s) (args : Array Value) : ∀ w ∈ xWs, w.before args s = true := fun w hw => va_Nw.use (xWs_tab hw) (h.1 w hw)
abbrev xY : Type := MethodName × ByteArray × Nat × Option FieldType
/-- the end of a method: its answer v and the memory M' behind it, of which Q holds -/
def xPost (G : xG) (lim : Nat × Nat) (Q : Option Value → xM → Prop) : Array Value → State → Outcome → State → Prop := fun _ st oc t =>
  (∃ (v : Option Value) (M' : xM), oc = .returned v ∧ Q v M' ∧ M'.2 = lim ∧ xw G M' t.heap) ∧ va_F (fun q => G.2.2.2 ≤ q) st t
/-- a method's contract: from the arguments av and the memory M it ends, with Q -/
def xMet (G : xG) (d : Nat) (y : xY) (av : List Value) (M : xM) (lim : Nat × Nat) (Q : Option Value → xM → Prop) : Prop :=
  (M.2.1 ≤ lim.1 ∧ M.2.2 ≤ lim.2) ∧ Met G.1 y.1 [Cond.code y.1 y.2.1 y.2.2.1 y.2.2.2] { frames := d, cells := lim.1 - M.2.1, slots := lim.2 - M.2.2, locals := 38 * d } (va_Pc av (fun U => xw G M U.heap ∧ xk G U)) (xPost G lim Q) (lim.1 - M.2.1) (lim.2 - M.2.2) (fun q => G.2.2.2 ≤ q)
abbrev xF : Type := Program → Env → Room → State → MethodId → Array Value → List Frame → Method → Code → (State → Prop) → Prop
def xCx (G : xG) (d : Nat) (y : xY) (r0 lim : Nat × Nat) (p : Program) (R : Room) (s : State) (m : MethodId) (meth : Method) (c : Code) : Prop :=
  p.tables.exec = Jvm.exec ∧ c.code = y.2.1 ∧ meth.sig.returnType = y.2.2.2 ∧ c.maxLocals = y.2.2.1 ∧ s.vm.findClass y.1.cls = some m.cls ∧ meth.name = y.1.name ∧ meth.locks = false ∧ xk G s ∧ s.heap.size = r0.1 ∧ G.2.2.2 ≤ r0.1 ∧ d ≤ R.frames ∧ 38 * d ≤ R.locals ∧ lim.1 - r0.1 ≤ R.cells ∧ lim.2 - r0.2 ≤ R.slots
/-- the locals -/
def xl (lo : Array Slot) (nL : Nat) (ls : List (Nat × Value)) : Prop := lv_has lo nL ls ∧ ∀ q ∈ ls, q.2.category = 1 ∨ q.2.category = 2
/-- a store to place i of nL: no wider value stands below it -/
def xhi (ls : List (Nat × Value)) (i nL : Nat) : Bool := Nat.blt i nL && ls.all (fun q => Nat.beq q.2.category 1 || !(Nat.beq (q.1 + 1) i))
theorem xhi_lt {ls : List (Nat × Value)} {i nL : Nat} (h : xhi ls i nL = true) : i < nL := Nat.le_of_ble_eq_true (Bool.and_eq_true_iff.mp h).1
def xlk (ls : List (Nat × Value)) (i : Nat) : Option Value := match ls with
  | [] => none
  | (j, w) :: l => match Nat.beq j i with
    | true => some w
    | false => xlk l i
def xst (ls : List (Nat × Value)) (i : Nat) (v : Value) : List (Nat × Value) := match ls with
  | [] => [(i, v)]
  | (j, w) :: l => match Nat.beq j i with
    | true => (i, v) :: l.filter (fun q => !(Nat.beq q.1 i))
    | false => (j, w) :: xst l i v
theorem xlk_mem {i : Nat} {v : Value} : ∀ {ls : List (Nat × Value)}, xlk ls i = some v → (i, v) ∈ ls
  | [], h => by cases h
  | (j, w) :: l, h => by
    unfold xlk at h
    cases hb : Nat.beq j i with
    | true =>
      rw [hb] at h
      have hj := Nat.eq_of_beq_eq_true hb
      cases h
      subst hj
      exact List.mem_cons_self
    | false =>
      rw [hb] at h
      exact List.mem_cons_of_mem _ (xlk_mem h)
theorem xst_mem {i : Nat} {v : Value} : ∀ {ls : List (Nat × Value)} {q : Nat × Value}, q ∈ xst ls i v → q = (i, v) ∨ (q ∈ ls ∧ q.1 ≠ i)
  | [], q, h => Or.inl (List.mem_singleton.mp h)
  | (j, w) :: l, q, h => by
    unfold xst at h
    cases hb : Nat.beq j i with
    | true =>
      rw [hb] at h
      rcases List.mem_cons.mp h with h | h
      · exact Or.inl h
      · obtain ⟨h1, h2⟩ := List.mem_filter.mp h
        refine Or.inr ⟨List.mem_cons_of_mem _ h1, fun e => ?_⟩
        rw [e, Nat.beq_refl] at h2
        cases h2
    | false =>
      rw [hb] at h
      rcases List.mem_cons.mp h with h | h
      · refine Or.inr ⟨by rw [h]; exact List.mem_cons_self, fun e => ?_⟩
        rw [h] at e
        have e : j = i := e
        rw [e, Nat.beq_refl] at hb
        cases hb
      · rcases xst_mem h with h | ⟨h1, h2⟩
        · exact Or.inl h
        · exact Or.inr ⟨List.mem_cons_of_mem _ h1, h2⟩
theorem xl_at {lo : Array Slot} {nL i : Nat} {ls : List (Nat × Value)} {v : Value} (h : xl lo nL ls) (hk : xlk ls i = some v) : lo[i]? = some (.val v) := h.1.2.2 (i, v) (xlk_mem hk)
theorem xl_st {lo lo2 : Array Slot} {nL i : Nat} {ls : List (Nat × Value)} {v : Value} (h : xl lo nL ls) (hv : v.category = 1) (hi : xhi ls i nL = true) (h2 : lv_has lo2 nL ((i, v) :: ls.filter (fun q => !(q.1 == i) && !(q.1 + 1 == i && q.2.category == 2)))) : xl lo2 nL (xst ls i v) := by
  refine ⟨⟨h2.1, h2.2.1, fun q hq => ?_⟩, fun q hq => ?_⟩
  · rcases xst_mem hq with e | ⟨h3, h4⟩
    · rw [e]; exact h2.2.2 (i, v) List.mem_cons_self
    · refine h2.2.2 q (List.mem_cons_of_mem _ (List.mem_filter.mpr ⟨h3, ?_⟩))
      have h5 := List.all_eq_true.mp (Bool.and_eq_true_iff.mp hi).2 q h3
      rcases Bool.or_eq_true_iff.mp h5 with h6 | h6
      · have h7 := Nat.eq_of_beq_eq_true h6
        simp [h4, h7]
      · have h7 : ¬ q.1 + 1 = i := fun e => by rw [e, Nat.beq_refl] at h6; cases h6
        simp [h4, h7]
  · rcases xst_mem hq with e | ⟨h3, h4⟩
    · rw [e]; exact Or.inl hv
    · exact h.2 q h3
/-- THE JUDGEMENT: at pc, with locals ls, stack st and memory M, the method comes to its end -/
def xX (G : xG) (d : Nat) (y : xY) (r0 lim : Nat × Nat) (Φ : xF) (pc : Nat) (ls : List (Nat × Value)) (st : List Value) (M : xM) : Prop :=
  ∀ (p : Program) (e : Env) (R : Room) (s : State) (m : MethodId) (args : Array Value) (below : List Frame) (meth : Method) (c : Code) (Zf : State → Prop) (H : Heap) (locs : List Loc) (lo : Array Slot),
    Φ p e R s m args below meth c Zf → xCx G d y r0 lim p R s m meth c → xw G M H → va_S (fun q => G.2.2.2 ≤ q) s.heap H locs → xl lo y.2.2.1 ls → (r0.1 ≤ M.2.1 ∧ r0.2 ≤ M.2.2 ∧ M.2.1 ≤ lim.1 ∧ M.2.2 ≤ lim.2) →
      W p G.1 e R s m args below meth c H locs (M.2.1 - r0.1) (M.2.2 - r0.2) Zf (F0 m pc lo st)
/-- the frame of a method with a contract -/
def xΦ (G : xG) (r0 lim : Nat × Nat) (Q : Option Value → xM → Prop) : xF := fun _ _ _ s _ args below _ _ Zf => Zf = MQ below (xPost G lim Q) args s (lim.1 - r0.1) (lim.2 - r0.2) (fun q => G.2.2.2 ≤ q)
theorem xMet_of {G : xG} {d : Nat} {y : xY} {av : List Value} {M : xM} {lim : Nat × Nat} {Q : Option Value → xM → Prop} (hy : plainName y.1.cls = true) (hlim : M.2.1 ≤ lim.1 ∧ M.2.2 ≤ lim.2) (hav : av.all (fun v => v.category == 1) = true) (hlen : (lg_sl av).length ≤ y.2.2.1)
    (k : xX G d y M.2 lim (xΦ G M.2 lim Q) 0 (lv_args 0 av) [] M) : xMet G d y av M lim Q := by
  refine ⟨hlim, ?_⟩
  refine Met.ofW (cc := y.2.1) (maxL := y.2.2.1) (ret := y.2.2.2) hy rfl ?_
  intro p e s m args below meth c s₁ B hml hv
  obtain ⟨rfl, hw, hk⟩ := hv
  have hl := lv_entry av (n := y.2.2.1) hlen
  rw [lg_entry_eq]
  have hin : meth.name = y.1.name := (name_of_methodNamed B.named B.method).1
  refine W.cs (cells' := M.2.1 - M.2.1) (slots' := M.2.2 - M.2.2) (by omega) (by omega) ?_
  refine k p e _ s m _ below meth c _ s.heap [] _ rfl ⟨B.exec, B.bytes, B.returns, hml, findClass_of_methodNamed B.named, hin, B.notSynchronized, hk, hw.1, hw.2.1, Nat.le_refl _, Nat.le_refl _, Nat.le_refl _, Nat.le_refl _⟩ hw va_S.rf ⟨hl, ?_⟩ ⟨Nat.le_refl _, Nat.le_refl _, hlim.1, hlim.2⟩
  intro q hq
  refine Or.inl ?_
  have key : ∀ (vs : List Value) (i : Nat), vs.all (fun v => v.category == 1) = true → ∀ q ∈ lv_args i vs, q.2.category = 1 := by
    intro vs
    induction vs with
    | nil => intro i _ q hq; cases hq
    | cons v vs ih =>
      intro i hall q hq
      simp only [List.all_cons, Bool.and_eq_true, beq_iff_eq] at hall
      simp only [lv_args, List.mem_cons] at hq
      rcases hq with rfl | hq
      · exact hall.1
      · exact ih _ hall.2 q hq
  exact key av 0 hav q hq
