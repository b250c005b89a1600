/-! THE ROWS of the X layer -/
section XR
variable {G : xG} {d : Nat} {y : xY} {r0 lim : Nat × Nat} {Φ : xF} {ls : List (Nat × Value)} {st : List Value} {M : xM} {pc n : Nat}
theorem xX.eq {pc' : Nat} {ls' : List (Nat × Value)} {st' : List Value} {M' : xM} (h1 : pc' = pc) (h2 : ls' = ls) (h3 : st' = st) (h4 : M' = M) (k : xX G d y r0 lim Φ pc' ls' st' M') : xX G d y r0 lim Φ pc ls st M := by
  subst h1; subst h2; subst h3; subst h4; exact k
theorem xr_iconst {z : Int} {v : Int32} (hd : decode y.2.1 pc = .ok (.iconst z, 1)) (hv : Int32.ofInt z = v) (hn : pc + 1 = n) (k : xX G d y r0 lim Φ n ls (.int v :: st) M) : xX G d y r0 lim Φ pc ls st M := by
  subst hn
  intro p e R s m args below meth c Zf H locs lo hΦ hC hw hS hl hb
  exact lv_iconst hC.1 hC.2.1 hd hv (k p e R s m args below meth c Zf H locs lo hΦ hC hw hS hl hb)
theorem xr_bipush {z : Int} {v : Int32} (hd : decode y.2.1 pc = .ok (.bipush z, 2)) (hv : (Int8.ofInt z).toInt32 = v) (hn : pc + 2 = n) (k : xX G d y r0 lim Φ n ls (.int v :: st) M) : xX G d y r0 lim Φ pc ls st M := by
  subst hn
  intro p e R s m args below meth c Zf H locs lo hΦ hC hw hS hl hb
  exact lv_bipush hC.1 hC.2.1 hd hv (k p e R s m args below meth c Zf H locs lo hΦ hC hw hS hl hb)
theorem xr_sipush {z : Int} {v : Int32} (hd : decode y.2.1 pc = .ok (.sipush z, 3)) (hv : (Int16.ofInt z).toInt32 = v) (hn : pc + 3 = n) (k : xX G d y r0 lim Φ n ls (.int v :: st) M) : xX G d y r0 lim Φ pc ls st M := by
  subst hn
  intro p e R s m args below meth c Zf H locs lo hΦ hC hw hS hl hb
  exact lv_sipush hC.1 hC.2.1 hd hv (k p e R s m args below meth c Zf H locs lo hΦ hC hw hS hl hb)
theorem xr_iload_n {k4 : Fin 4} {x : Int32} (hd : decode y.2.1 pc = .ok (.iload_n k4, 1)) (hl0 : xlk ls k4.val = some (.int x)) (hn : pc + 1 = n) (k : xX G d y r0 lim Φ n ls (.int x :: st) M) : xX G d y r0 lim Φ pc ls st M := by
  subst hn
  intro p e R s m args below meth c Zf H locs lo hΦ hC hw hS hl hb
  exact lv_iload_n hC.1 hC.2.1 hd rfl (xl_at hl hl0) (k p e R s m args below meth c Zf H locs lo hΦ hC hw hS hl hb)
theorem xr_iload {i : Nat} {x : Int32} (hd : decode y.2.1 pc = .ok (.iload i, 2)) (hl0 : xlk ls i = some (.int x)) (hn : pc + 2 = n) (k : xX G d y r0 lim Φ n ls (.int x :: st) M) : xX G d y r0 lim Φ pc ls st M := by
  subst hn
  intro p e R s m args below meth c Zf H locs lo hΦ hC hw hS hl hb
  exact lv_iload hC.1 hC.2.1 hd (xl_at hl hl0) (k p e R s m args below meth c Zf H locs lo hΦ hC hw hS hl hb)
theorem xr_aload_n {k4 : Fin 4} {x : Nat} (hd : decode y.2.1 pc = .ok (.aload_n k4, 1)) (hl0 : xlk ls k4.val = some (.ref x)) (hn : pc + 1 = n) (k : xX G d y r0 lim Φ n ls (.ref x :: st) M) : xX G d y r0 lim Φ pc ls st M := by
  subst hn
  intro p e R s m args below meth c Zf H locs lo hΦ hC hw hS hl hb
  exact lv_aload_n hC.1 hC.2.1 hd rfl (xl_at hl hl0) (k p e R s m args below meth c Zf H locs lo hΦ hC hw hS hl hb)
theorem xr_aload {i : Nat} {x : Nat} (hd : decode y.2.1 pc = .ok (.aload i, 2)) (hl0 : xlk ls i = some (.ref x)) (hn : pc + 2 = n) (k : xX G d y r0 lim Φ n ls (.ref x :: st) M) : xX G d y r0 lim Φ pc ls st M := by
  subst hn
  intro p e R s m args below meth c Zf H locs lo hΦ hC hw hS hl hb
  exact lv_aload hC.1 hC.2.1 hd (xl_at hl hl0) (k p e R s m args below meth c Zf H locs lo hΦ hC hw hS hl hb)
theorem xr_istore_n {k4 : Fin 4} {x : Int32} (hd : decode y.2.1 pc = .ok (.istore_n k4, 1)) (hi : xhi ls k4.val y.2.2.1 = true) (hn : pc + 1 = n) (k : xX G d y r0 lim Φ n (xst ls k4.val (.int x)) st M) : xX G d y r0 lim Φ pc ls (.int x :: st) M := by
  subst hn
  intro p e R s m args below meth c Zf H locs lo hΦ hC hw hS hl hb
  exact lv_istore_n hC.1 hC.2.1 hd rfl hl.1 (xhi_lt hi) rfl (fun lo2 h2 => k p e R s m args below meth c Zf H locs lo2 hΦ hC hw hS (xl_st hl rfl hi h2) hb)
theorem xr_istore {i : Nat} {x : Int32} (hd : decode y.2.1 pc = .ok (.istore i, 2)) (hi : xhi ls i y.2.2.1 = true) (hn : pc + 2 = n) (k : xX G d y r0 lim Φ n (xst ls i (.int x)) st M) : xX G d y r0 lim Φ pc ls (.int x :: st) M := by
  subst hn
  intro p e R s m args below meth c Zf H locs lo hΦ hC hw hS hl hb
  exact lv_istore hC.1 hC.2.1 hd hl.1 (xhi_lt hi) rfl (fun lo2 h2 => k p e R s m args below meth c Zf H locs lo2 hΦ hC hw hS (xl_st hl rfl hi h2) hb)
theorem xr_astore_n {k4 : Fin 4} {x : Nat} (hd : decode y.2.1 pc = .ok (.astore_n k4, 1)) (hi : xhi ls k4.val y.2.2.1 = true) (hn : pc + 1 = n) (k : xX G d y r0 lim Φ n (xst ls k4.val (.ref x)) st M) : xX G d y r0 lim Φ pc ls (.ref x :: st) M := by
  subst hn
  intro p e R s m args below meth c Zf H locs lo hΦ hC hw hS hl hb
  exact lv_astore_n hC.1 hC.2.1 hd rfl hl.1 (xhi_lt hi) rfl (fun lo2 h2 => k p e R s m args below meth c Zf H locs lo2 hΦ hC hw hS (xl_st hl rfl hi h2) hb)
theorem xr_astore {i : Nat} {x : Nat} (hd : decode y.2.1 pc = .ok (.astore i, 2)) (hi : xhi ls i y.2.2.1 = true) (hn : pc + 2 = n) (k : xX G d y r0 lim Φ n (xst ls i (.ref x)) st M) : xX G d y r0 lim Φ pc ls (.ref x :: st) M := by
  subst hn
  intro p e R s m args below meth c Zf H locs lo hΦ hC hw hS hl hb
  exact lv_astore hC.1 hC.2.1 hd hl.1 (xhi_lt hi) rfl (fun lo2 h2 => k p e R s m args below meth c Zf H locs lo2 hΦ hC hw hS (xl_st hl rfl hi h2) hb)
theorem xl_place {i : Nat} {v : Value} : ∀ {ls : List (Nat × Value)}, xlk ls i = some v → ∃ k : Nat, ls[k]? = some (i, v) := fun h => List.getElem?_of_mem (xlk_mem h)
theorem xr_iinc {i : Nat} {z : Int} {x v : Int32} (hd : decode y.2.1 pc = .ok (.iinc i z, 3)) (hi : xhi ls i y.2.2.1 = true) (hl0 : xlk ls i = some (.int x)) (hv : x + Int32.ofInt z = v) (hn : pc + 3 = n) (k : xX G d y r0 lim Φ n (xst ls i (.int v)) st M) : xX G d y r0 lim Φ pc ls st M := by
  subst hn
  intro p e R s m args below meth c Zf H locs lo hΦ hC hw hS hl hb
  obtain ⟨k9, h9⟩ := xl_place hl0
  exact lv_iinc hC.1 hC.2.1 hd hl.1 h9 hv (xhi_lt hi) rfl (fun lo2 h2 => k p e R s m args below meth c Zf H locs lo2 hΦ hC hw hS (xl_st hl rfl hi h2) hb)
theorem xr_iadd {a b : Int32} (hd : decode y.2.1 pc = .ok (.iadd, 1)) (hn : pc + 1 = n) (k : xX G d y r0 lim Φ n ls (.int (a + b) :: st) M) : xX G d y r0 lim Φ pc ls (.int b :: .int a :: st) M := by
  subst hn
  intro p e R s m args below meth c Zf H locs lo hΦ hC hw hS hl hb
  exact lv_iadd hC.1 hC.2.1 hd (k p e R s m args below meth c Zf H locs lo hΦ hC hw hS hl hb)
theorem xr_isub {a b : Int32} (hd : decode y.2.1 pc = .ok (.isub, 1)) (hn : pc + 1 = n) (k : xX G d y r0 lim Φ n ls (.int (a - b) :: st) M) : xX G d y r0 lim Φ pc ls (.int b :: .int a :: st) M := by
  subst hn
  intro p e R s m args below meth c Zf H locs lo hΦ hC hw hS hl hb
  exact lv_isub hC.1 hC.2.1 hd (k p e R s m args below meth c Zf H locs lo hΦ hC hw hS hl hb)
theorem xr_imul {a b : Int32} (hd : decode y.2.1 pc = .ok (.imul, 1)) (hn : pc + 1 = n) (k : xX G d y r0 lim Φ n ls (.int (a * b) :: st) M) : xX G d y r0 lim Φ pc ls (.int b :: .int a :: st) M := by
  subst hn
  intro p e R s m args below meth c Zf H locs lo hΦ hC hw hS hl hb
  exact lv_imul hC.1 hC.2.1 hd (k p e R s m args below meth c Zf H locs lo hΦ hC hw hS hl hb)
theorem xr_iand {a b : Int32} (hd : decode y.2.1 pc = .ok (.iand, 1)) (hn : pc + 1 = n) (k : xX G d y r0 lim Φ n ls (.int (a &&& b) :: st) M) : xX G d y r0 lim Φ pc ls (.int b :: .int a :: st) M := by
  subst hn
  intro p e R s m args below meth c Zf H locs lo hΦ hC hw hS hl hb
  exact lv_iand hC.1 hC.2.1 hd (k p e R s m args below meth c Zf H locs lo hΦ hC hw hS hl hb)
theorem xr_ior {a b : Int32} (hd : decode y.2.1 pc = .ok (.ior, 1)) (hn : pc + 1 = n) (k : xX G d y r0 lim Φ n ls (.int (a ||| b) :: st) M) : xX G d y r0 lim Φ pc ls (.int b :: .int a :: st) M := by
  subst hn
  intro p e R s m args below meth c Zf H locs lo hΦ hC hw hS hl hb
  exact lv_ior hC.1 hC.2.1 hd (k p e R s m args below meth c Zf H locs lo hΦ hC hw hS hl hb)
theorem xr_ishl {a b : Int32} (hd : decode y.2.1 pc = .ok (.ishl, 1)) (hn : pc + 1 = n) (k : xX G d y r0 lim Φ n ls (.int (a <<< (b &&& 31)) :: st) M) : xX G d y r0 lim Φ pc ls (.int b :: .int a :: st) M := by
  subst hn
  intro p e R s m args below meth c Zf H locs lo hΦ hC hw hS hl hb
  exact lv_ishl hC.1 hC.2.1 hd (k p e R s m args below meth c Zf H locs lo hΦ hC hw hS hl hb)
theorem xr_idiv {a b : Int32} (hd : decode y.2.1 pc = .ok (.idiv, 1)) (h0 : ¬ b = 0) (hn : pc + 1 = n) (k : xX G d y r0 lim Φ n ls (.int (a / b) :: st) M) : xX G d y r0 lim Φ pc ls (.int b :: .int a :: st) M := by
  subst hn
  intro p e R s m args below meth c Zf H locs lo hΦ hC hw hS hl hb
  exact lv_idiv hC.1 hC.2.1 hd h0 (k p e R s m args below meth c Zf H locs lo hΦ hC hw hS hl hb)
theorem xr_irem {a b : Int32} (hd : decode y.2.1 pc = .ok (.irem, 1)) (h0 : ¬ b = 0) (hn : pc + 1 = n) (k : xX G d y r0 lim Φ n ls (.int (a - a / b * b) :: st) M) : xX G d y r0 lim Φ pc ls (.int b :: .int a :: st) M := by
  subst hn
  intro p e R s m args below meth c Zf H locs lo hΦ hC hw hS hl hb
  exact lv_irem hC.1 hC.2.1 hd h0 (k p e R s m args below meth c Zf H locs lo hΦ hC hw hS hl hb)
theorem xr_ineg {a : Int32} (hd : decode y.2.1 pc = .ok (.ineg, 1)) (hn : pc + 1 = n) (k : xX G d y r0 lim Φ n ls (.int (-a) :: st) M) : xX G d y r0 lim Φ pc ls (.int a :: st) M := by
  subst hn
  intro p e R s m args below meth c Zf H locs lo hΦ hC hw hS hl hb
  exact lv_ineg hC.1 hC.2.1 hd (k p e R s m args below meth c Zf H locs lo hΦ hC hw hS hl hb)
theorem xr_i2c {a v : Int32} (hd : decode y.2.1 pc = .ok (.i2c, 1)) (hv : (a.toUInt32 % 65536).toInt32 = v) (hn : pc + 1 = n) (k : xX G d y r0 lim Φ n ls (.int v :: st) M) : xX G d y r0 lim Φ pc ls (.int a :: st) M := by
  subst hn
  intro p e R s m args below meth c Zf H locs lo hΦ hC hw hS hl hb
  exact lv_i2c hC.1 hC.2.1 hd hv (k p e R s m args below meth c Zf H locs lo hΦ hC hw hS hl hb)
theorem xr_dup {a : Value} (hd : decode y.2.1 pc = .ok (.dup, 1)) (ha : a.category = 1) (hn : pc + 1 = n) (k : xX G d y r0 lim Φ n ls (a :: a :: st) M) : xX G d y r0 lim Φ pc ls (a :: st) M := by
  subst hn
  intro p e R s m args below meth c Zf H locs lo hΦ hC hw hS hl hb
  exact lv_dup hC.1 hC.2.1 hd ha (k p e R s m args below meth c Zf H locs lo hΦ hC hw hS hl hb)
theorem xr_dup2 {a b : Value} (hd : decode y.2.1 pc = .ok (.dup2, 1)) (ha : a.category = 1) (hb2 : b.category = 1) (hn : pc + 1 = n) (k : xX G d y r0 lim Φ n ls (a :: b :: a :: b :: st) M) : xX G d y r0 lim Φ pc ls (a :: b :: st) M := by
  subst hn
  intro p e R s m args below meth c Zf H locs lo hΦ hC hw hS hl hb
  exact lv_dup2_11 hC.1 hC.2.1 hd ha hb2 (k p e R s m args below meth c Zf H locs lo hΦ hC hw hS hl hb)
theorem xr_pop {a : Value} (hd : decode y.2.1 pc = .ok (.pop, 1)) (ha : a.category = 1) (hn : pc + 1 = n) (k : xX G d y r0 lim Φ n ls st M) : xX G d y r0 lim Φ pc ls (a :: st) M := by
  subst hn
  intro p e R s m args below meth c Zf H locs lo hΦ hC hw hS hl hb
  exact lv_pop hC.1 hC.2.1 hd ha (k p e R s m args below meth c Zf H locs lo hΦ hC hw hS hl hb)
theorem xr_goto {off : Int} (hd : decode y.2.1 pc = .ok (.goto off, 3)) (ht : (pc : Int) + off = (n : Int)) (k : xX G d y r0 lim Φ n ls st M) : xX G d y r0 lim Φ pc ls st M := by
  intro p e R s m args below meth c Zf H locs lo hΦ hC hw hS hl hb
  exact lv_goto hC.1 hC.2.1 hd ht (k p e R s m args below meth c Zf H locs lo hΦ hC hw hS hl hb)
theorem xr_icmp_eq {a b : Int32} {off : Int} {tgt : Nat} (hd : decode y.2.1 pc = .ok (.if_icmp .eq off, 3)) (ht : (pc : Int) + off = (tgt : Int)) (hn : pc + 3 = n) (kt : a = b → xX G d y r0 lim Φ tgt ls st M) (kf : ¬ a = b → xX G d y r0 lim Φ n ls st M) : xX G d y r0 lim Φ pc ls (.int b :: .int a :: st) M := by
  subst hn
  intro p e R s m args below meth c Zf H locs lo hΦ hC hw hS hl hb
  exact lv_icmp_eq hC.1 hC.2.1 hd ht (fun h => kt h p e R s m args below meth c Zf H locs lo hΦ hC hw hS hl hb) (fun h => kf h p e R s m args below meth c Zf H locs lo hΦ hC hw hS hl hb)
theorem xr_if_eq {a : Int32} {off : Int} {tgt : Nat} (hd : decode y.2.1 pc = .ok (.ifCond .eq off, 3)) (ht : (pc : Int) + off = (tgt : Int)) (hn : pc + 3 = n) (kt : a = 0 → xX G d y r0 lim Φ tgt ls st M) (kf : ¬ a = 0 → xX G d y r0 lim Φ n ls st M) : xX G d y r0 lim Φ pc ls (.int a :: st) M := by
  subst hn
  intro p e R s m args below meth c Zf H locs lo hΦ hC hw hS hl hb
  exact lv_if_eq hC.1 hC.2.1 hd ht (fun h => kt h p e R s m args below meth c Zf H locs lo hΦ hC hw hS hl hb) (fun h => kf h p e R s m args below meth c Zf H locs lo hΦ hC hw hS hl hb)
theorem xr_icmp_ne {a b : Int32} {off : Int} {tgt : Nat} (hd : decode y.2.1 pc = .ok (.if_icmp .ne off, 3)) (ht : (pc : Int) + off = (tgt : Int)) (hn : pc + 3 = n) (kt : ¬ a = b → xX G d y r0 lim Φ tgt ls st M) (kf : a = b → xX G d y r0 lim Φ n ls st M) : xX G d y r0 lim Φ pc ls (.int b :: .int a :: st) M := by
  subst hn
  intro p e R s m args below meth c Zf H locs lo hΦ hC hw hS hl hb
  exact lv_icmp_ne hC.1 hC.2.1 hd ht (fun h => kt h p e R s m args below meth c Zf H locs lo hΦ hC hw hS hl hb) (fun h => kf h p e R s m args below meth c Zf H locs lo hΦ hC hw hS hl hb)
theorem xr_if_ne {a : Int32} {off : Int} {tgt : Nat} (hd : decode y.2.1 pc = .ok (.ifCond .ne off, 3)) (ht : (pc : Int) + off = (tgt : Int)) (hn : pc + 3 = n) (kt : ¬ a = 0 → xX G d y r0 lim Φ tgt ls st M) (kf : a = 0 → xX G d y r0 lim Φ n ls st M) : xX G d y r0 lim Φ pc ls (.int a :: st) M := by
  subst hn
  intro p e R s m args below meth c Zf H locs lo hΦ hC hw hS hl hb
  exact lv_if_ne hC.1 hC.2.1 hd ht (fun h => kt h p e R s m args below meth c Zf H locs lo hΦ hC hw hS hl hb) (fun h => kf h p e R s m args below meth c Zf H locs lo hΦ hC hw hS hl hb)
theorem xr_icmp_lt {a b : Int32} {off : Int} {tgt : Nat} (hd : decode y.2.1 pc = .ok (.if_icmp .lt off, 3)) (ht : (pc : Int) + off = (tgt : Int)) (hn : pc + 3 = n) (kt : a < b → xX G d y r0 lim Φ tgt ls st M) (kf : ¬ a < b → xX G d y r0 lim Φ n ls st M) : xX G d y r0 lim Φ pc ls (.int b :: .int a :: st) M := by
  subst hn
  intro p e R s m args below meth c Zf H locs lo hΦ hC hw hS hl hb
  exact lv_icmp_lt hC.1 hC.2.1 hd ht (fun h => kt h p e R s m args below meth c Zf H locs lo hΦ hC hw hS hl hb) (fun h => kf h p e R s m args below meth c Zf H locs lo hΦ hC hw hS hl hb)
theorem xr_if_lt {a : Int32} {off : Int} {tgt : Nat} (hd : decode y.2.1 pc = .ok (.ifCond .lt off, 3)) (ht : (pc : Int) + off = (tgt : Int)) (hn : pc + 3 = n) (kt : a < 0 → xX G d y r0 lim Φ tgt ls st M) (kf : ¬ a < 0 → xX G d y r0 lim Φ n ls st M) : xX G d y r0 lim Φ pc ls (.int a :: st) M := by
  subst hn
  intro p e R s m args below meth c Zf H locs lo hΦ hC hw hS hl hb
  exact lv_if_lt hC.1 hC.2.1 hd ht (fun h => kt h p e R s m args below meth c Zf H locs lo hΦ hC hw hS hl hb) (fun h => kf h p e R s m args below meth c Zf H locs lo hΦ hC hw hS hl hb)
theorem xr_icmp_ge {a b : Int32} {off : Int} {tgt : Nat} (hd : decode y.2.1 pc = .ok (.if_icmp .ge off, 3)) (ht : (pc : Int) + off = (tgt : Int)) (hn : pc + 3 = n) (kt : b ≤ a → xX G d y r0 lim Φ tgt ls st M) (kf : ¬ b ≤ a → xX G d y r0 lim Φ n ls st M) : xX G d y r0 lim Φ pc ls (.int b :: .int a :: st) M := by
  subst hn
  intro p e R s m args below meth c Zf H locs lo hΦ hC hw hS hl hb
  exact lv_icmp_ge hC.1 hC.2.1 hd ht (fun h => kt h p e R s m args below meth c Zf H locs lo hΦ hC hw hS hl hb) (fun h => kf h p e R s m args below meth c Zf H locs lo hΦ hC hw hS hl hb)
theorem xr_if_ge {a : Int32} {off : Int} {tgt : Nat} (hd : decode y.2.1 pc = .ok (.ifCond .ge off, 3)) (ht : (pc : Int) + off = (tgt : Int)) (hn : pc + 3 = n) (kt : 0 ≤ a → xX G d y r0 lim Φ tgt ls st M) (kf : ¬ 0 ≤ a → xX G d y r0 lim Φ n ls st M) : xX G d y r0 lim Φ pc ls (.int a :: st) M := by
  subst hn
  intro p e R s m args below meth c Zf H locs lo hΦ hC hw hS hl hb
  exact lv_if_ge hC.1 hC.2.1 hd ht (fun h => kt h p e R s m args below meth c Zf H locs lo hΦ hC hw hS hl hb) (fun h => kf h p e R s m args below meth c Zf H locs lo hΦ hC hw hS hl hb)
theorem xr_icmp_gt {a b : Int32} {off : Int} {tgt : Nat} (hd : decode y.2.1 pc = .ok (.if_icmp .gt off, 3)) (ht : (pc : Int) + off = (tgt : Int)) (hn : pc + 3 = n) (kt : b < a → xX G d y r0 lim Φ tgt ls st M) (kf : ¬ b < a → xX G d y r0 lim Φ n ls st M) : xX G d y r0 lim Φ pc ls (.int b :: .int a :: st) M := by
  subst hn
  intro p e R s m args below meth c Zf H locs lo hΦ hC hw hS hl hb
  exact lv_icmp_gt hC.1 hC.2.1 hd ht (fun h => kt h p e R s m args below meth c Zf H locs lo hΦ hC hw hS hl hb) (fun h => kf h p e R s m args below meth c Zf H locs lo hΦ hC hw hS hl hb)
theorem xr_if_gt {a : Int32} {off : Int} {tgt : Nat} (hd : decode y.2.1 pc = .ok (.ifCond .gt off, 3)) (ht : (pc : Int) + off = (tgt : Int)) (hn : pc + 3 = n) (kt : 0 < a → xX G d y r0 lim Φ tgt ls st M) (kf : ¬ 0 < a → xX G d y r0 lim Φ n ls st M) : xX G d y r0 lim Φ pc ls (.int a :: st) M := by
  subst hn
  intro p e R s m args below meth c Zf H locs lo hΦ hC hw hS hl hb
  exact lv_if_gt hC.1 hC.2.1 hd ht (fun h => kt h p e R s m args below meth c Zf H locs lo hΦ hC hw hS hl hb) (fun h => kf h p e R s m args below meth c Zf H locs lo hΦ hC hw hS hl hb)
theorem xr_icmp_le {a b : Int32} {off : Int} {tgt : Nat} (hd : decode y.2.1 pc = .ok (.if_icmp .le off, 3)) (ht : (pc : Int) + off = (tgt : Int)) (hn : pc + 3 = n) (kt : a ≤ b → xX G d y r0 lim Φ tgt ls st M) (kf : ¬ a ≤ b → xX G d y r0 lim Φ n ls st M) : xX G d y r0 lim Φ pc ls (.int b :: .int a :: st) M := by
  subst hn
  intro p e R s m args below meth c Zf H locs lo hΦ hC hw hS hl hb
  exact lv_icmp_le hC.1 hC.2.1 hd ht (fun h => kt h p e R s m args below meth c Zf H locs lo hΦ hC hw hS hl hb) (fun h => kf h p e R s m args below meth c Zf H locs lo hΦ hC hw hS hl hb)
theorem xr_if_le {a : Int32} {off : Int} {tgt : Nat} (hd : decode y.2.1 pc = .ok (.ifCond .le off, 3)) (ht : (pc : Int) + off = (tgt : Int)) (hn : pc + 3 = n) (kt : a ≤ 0 → xX G d y r0 lim Φ tgt ls st M) (kf : ¬ a ≤ 0 → xX G d y r0 lim Φ n ls st M) : xX G d y r0 lim Φ pc ls (.int a :: st) M := by
  subst hn
  intro p e R s m args below meth c Zf H locs lo hΦ hC hw hS hl hb
  exact lv_if_le hC.1 hC.2.1 hd ht (fun h => kt h p e R s m args below meth c Zf H locs lo hΦ hC hw hS hl hb) (fun h => kf h p e R s m args below meth c Zf H locs lo hΦ hC hw hS hl hb)
theorem xr_tableIn {dflt lo hi : Int} {offs : Array Int} {len : Nat} {x : Int32} {off : Int} (hd : decode y.2.1 pc = .ok (.tableswitch dflt lo hi offs, len)) (h1 : ¬ x.toInt < lo) (h2 : ¬ hi < x.toInt) (ho : offs[(x.toInt - lo).toNat]? = some off) (ht : (pc : Int) + off = (n : Int)) (k : xX G d y r0 lim Φ n ls st M) : xX G d y r0 lim Φ pc ls (.int x :: st) M := by
  intro p e R s m args below meth c Zf H locs lo hΦ hC hw hS hl hb
  exact lv_tableIn hC.1 hC.2.1 hd h1 h2 ho ht (k p e R s m args below meth c Zf H locs lo hΦ hC hw hS hl hb)
theorem xr_tableOut {dflt lo hi : Int} {offs : Array Int} {len : Nat} {x : Int32} (hd : decode y.2.1 pc = .ok (.tableswitch dflt lo hi offs, len)) (h : x.toInt < lo ∨ hi < x.toInt) (ht : (pc : Int) + dflt = (n : Int)) (k : xX G d y r0 lim Φ n ls st M) : xX G d y r0 lim Φ pc ls (.int x :: st) M := by
  intro p e R s m args below meth c Zf H locs lo hΦ hC hw hS hl hb
  exact lv_tableOut hC.1 hC.2.1 hd h ht (k p e R s m args below meth c Zf H locs lo hΦ hC hw hS hl hb)
theorem xr_lookup {dflt : Int} {ps : Array (Int × Int)} {len : Nat} {x : Int32} {off : Int} (hd : decode y.2.1 pc = .ok (.lookupswitch dflt ps, len)) (hp : (ps.toList.zip (ps.toList.drop 1)).all (fun (a, next) => a.1 < next.1) = true) (ho : Op.lookupswitch.offset ps.toList dflt x.toInt = off) (ht : (pc : Int) + off = (n : Int)) (k : xX G d y r0 lim Φ n ls st M) : xX G d y r0 lim Φ pc ls (.int x :: st) M := by
  intro p e R s m args below meth c Zf H locs lo hΦ hC hw hS hl hb
  exact lv_lookup hC.1 hC.2.1 hd hp ho ht (k p e R s m args below meth c Zf H locs lo hΦ hC hw hS hl hb)
end XR
