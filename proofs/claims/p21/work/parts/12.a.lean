/-! THE LAW from its entry -/
def o00 : xO := (fun _ => 0, 0, 0, fun _ => 0, fun _ _ _ => 0, fun _ _ => 0, fun _ _ _ _ => 0)
theorem OI_0 {F : Nat → xC} {z : Nat} (h : CW F z (rl0 z) 0 S00) : OI F z o00 := by
  have w0 : ∀ P : Nat → Nat → Nat, wfP 0 P := fun P => ⟨⟨by omega, fun s hs => absurd hs (Nat.not_lt_zero _)⟩, fun j k _ hk => absurd hk (Nat.not_lt_zero _), fun s hs => absurd hs (Nat.not_lt_zero _)⟩
  have hV : CV F z (rl0 z) 0 S00 (fun _ => 0) 0 (fun _ => 0) (fun _ _ _ => 0) (fun _ _ => 0) (fun _ _ _ _ => 0) := by
    refine ⟨h, ⟨rfl, rfl⟩, ⟨rfl, rfl⟩, fun i hi => ?_, fun k hk => absurd hk (Nat.not_lt_zero _)⟩
    have e : S00 i = s0 := if_neg (by omega)
    rw [e]
    exact ⟨rfl, Nat.zero_le _, fun s hs => absurd hs (Nat.not_lt_zero _)⟩
  exact ⟨⟨_, _, hV⟩, by show (0 : Nat) ≤ 120; omega, fun i hi => absurd hi (Nat.not_lt_zero _), by show (0 : Nat) ≤ 5; omega, fun i hi => w0 _, fun k hk => absurd hk (Nat.not_lt_zero _)⟩
theorem law_start {G : xG} {nm : String} {b L h : Nat} {sc : Nat → Int32} (hL : L ≤ 260) : xX G 13 (mLw nm) (h, 0) (h + 187, 8 + 8805) (xΦL G b L sc) 0 [(0, .ref b)] [] (fun _ => xAbs, (h, 0)) := by
  refine xq_new (n := 3) (ci := 7) (fs := [.null, .null, .null, .null, .null, .null, .null, .null]) dL_law_0 kc_L_20 rfl (by decide) (by (try dsimp only); omega) rfl ?_
  show xX G 13 (mLw nm) (h, 0) (h + 187, 8 + 8805) (xΦL G b L sc) 3 [(0, .ref b)] [.ref h] (xu (fun _ => xAbs) h (ob 7 [.null, .null, .null, .null, .null, .null, .null, .null]), (h + 1, 8))
  refine xr_dup (n := 4) dL_law_3 rfl rfl ?_
  refine xr_callI (y2 := mX7_init) (As := []) (n := 7) (lim2 := (h + 187, 8 + 8805)) dL_law_4 lm_L_115 pm_X7_init rfl rfl kp_instanceMethod_yX7_init rfl rfl (by simp [Value.category]) rfl ⟨by (try dsimp only); omega, by (try dsimp only); omega⟩ ?_
  refine s_X7_init (z := h) (k := 8) (xu_s _ _ _) (fun f hF => ?_)
  have hO := OI_0 hF
  dsimp only [xK, xps]
  refine xq_astore_n 1 (n := 8) dL_law_7 rfl rfl rfl ?_
  simp only [xst, Nat.beq, List.filter, Bool.not_true, Bool.not_false]
  refine xr_aload_n (n := 9) dL_law_8 rfl rfl ?_
  refine xr_iconst (v := nI 0) (n := 10) dL_law_9 (by decide) rfl ?_
  refine xr_callS (y2 := mL_fits) (As := [_, _]) (n := 13) dL_law_10 lm_L_116 pm_L_fits kp_static_yL_fits rfl rfl (by simp [Value.category]) rfl ⟨Nat.le_refl _, Nat.le_refl _⟩ ?_
  refine s_L_fits hO (fun f hO => ?_)
  dsimp only [xK, xps]
  refine xq_istore_n 2 (n := 14) dL_law_13 rfl rfl rfl ?_
  simp only [xst, Nat.beq, List.filter, Bool.not_true, Bool.not_false]
  refine xr_iconst (v := nI 0) (n := 15) dL_law_14 (by decide) rfl ?_
  refine xq_istore_n 3 (n := 16) dL_law_15 rfl rfl rfl ?_
  simp only [xst, Nat.beq, List.filter, Bool.not_true, Bool.not_false]
  exact law_loop (z := h) hL ⟨by dsimp only; omega, by dsimp only; omega⟩ 0 (by omega) _ f hO

theorem law_xk {s : State} {b : Nat} (hts : ∀ w ∈ lw_tbl, w.before #[Value.ref b] s = true) : ∃ (dC : Nat → ClassId) (dI : Nat → Nat → Nat) (aC : Nat → ClassId), ∀ (l : Launch) (h : Nat), xk (l, (dC, dI), aC, h) s := by
  have hw : ∀ w ∈ xWs, w.before #[Value.ref b] s = true := fun w hw => hts w (List.mem_filter.mp hw).1
  have hA : ∀ (w : Cond) (i : Nat), tables_1[i]? = some w → w.before #[Value.ref b] s = true := fun w i h => hts w (List.mem_append_right _ (List.mem_of_getElem? h))
  have a0 := hA (Cond.arrayClass .int) 73 (by decide +kernel)
  have a1 := hA (Cond.arrayClass .char) 33 (by decide +kernel)
  have a2 := hA (Cond.arrayOver (.object RX1)) 107 (by decide +kernel)
  have a3 := hA (Cond.arrayOver (.object RX2)) 195 (by decide +kernel)
  obtain ⟨e0, k0, m0, x0, y0, z0⟩ := Cond.arrayClass_spec a0
  obtain ⟨e1, k1, m1, x1, y1, z1⟩ := Cond.arrayClass_spec a1
  obtain ⟨m2, e2, k2, v2, -, x2, y2, z2⟩ := Cond.arrayOver_spec a2
  obtain ⟨m3, e3, k3, v3, -, x3, y3, z3⟩ := Cond.arrayOver_spec a3
  obtain ⟨c0, i0, n0⟩ := u_known (C := RX0) (T := TX0) (N := 3) (n := 3) hw inxX0 (hw _ kp_inst_RX0)
  obtain ⟨c1, i1, n1⟩ := u_known (C := RX1) (T := TX1) (N := 10) (n := 10) hw inxX1 (hw _ kp_inst_RX1)
  obtain ⟨c2, i2, n2⟩ := u_known (C := RX2) (T := TX2) (N := 3) (n := 3) hw inxX2 (hw _ kp_inst_RX2)
  obtain ⟨c3, i3, n3⟩ := u_known (C := RX3) (T := TX3) (N := 6) (n := 6) hw inxX3 (hw _ kp_inst_RX3)
  obtain ⟨c4, i4, n4⟩ := u_known (C := RX4) (T := TX4) (N := 2) (n := 2) hw inxX4 (hw _ kp_inst_RX4)
  obtain ⟨c5, i5, n5⟩ := u_known (C := RX5) (T := TX5) (N := 2) (n := 2) hw inxX5 (hw _ kp_inst_RX5)
  obtain ⟨c6, i6, n6⟩ := u_known (C := RX6) (T := TX6) (N := 9) (n := 9) hw inxX6 (hw _ kp_inst_RX6)
  obtain ⟨c7, i7, n7⟩ := u_known (C := RX7) (T := TX7) (N := 8) (n := 8) hw inxX7 (hw _ kp_inst_RX7)
  refine ⟨fun k => if k = 0 then c0 else if k = 1 then c1 else if k = 2 then c2 else if k = 3 then c3 else if k = 4 then c4 else if k = 5 then c5 else if k = 6 then c6 else c7, fun k => if k = 0 then i0 else if k = 1 then i1 else if k = 2 then i2 else if k = 3 then i3 else if k = 4 then i4 else if k = 5 then i5 else if k = 6 then i6 else i7, fun k => if k = 0 then e0 else if k = 1 then e1 else if k = 2 then e2 else e3, fun l h => ⟨fun w hm => va_tabs (xWs_tab hm) rfl (hw w hm), fun ci q hq => ?_, fun t ht => ?_, ⟨fun A => a0, fun A => a1⟩, va_AO.of a2, va_AO.of a3⟩⟩
  · match ci, hq with
    | 0, hq => cases hq; exact n0
    | 1, hq => cases hq; exact n1
    | 2, hq => cases hq; exact n2
    | 3, hq => cases hq; exact n3
    | 4, hq => cases hq; exact n4
    | 5, hq => cases hq; exact n5
    | 6, hq => cases hq; exact n6
    | 7, hq => cases hq; exact n7
    | k + 8, hq => exact absurd hq (by simp [vwCl])
  · rcases (show t = 0 ∨ t = 1 ∨ t = 2 ∨ t = 3 by omega) with rfl | rfl | rfl | rfl
    · exact ⟨fun n z => ⟨fun k h => (by cases h), k0, y0, m0, z0⟩, x0⟩
    · exact ⟨fun n z => ⟨fun k h => (by cases h), k1, y1, m1, z1⟩, x1⟩
    · exact ⟨fun n z => ⟨fun k h => (by cases h), k2, x2, m2, y2⟩, k2, m2, x2, y2, v2, z2⟩
    · exact ⟨fun n z => ⟨fun k h => (by cases h), k3, x3, m3, y3⟩, k3, m3, x3, y3, v3, z3⟩

theorem whole_start {p : Program} {e : Env} {s : State} {m : MethodId} {below : List Frame} {meth : Method} {c : Code} (l : Launch) (hflags : l.flags = flags0) {b L : Nat} {xs : Nat → Int32} (hL : L ≤ 260) (C0 : lw_At p s m meth c b L xs) : W p l e room_1 s m #[Value.ref b] below meth c s.heap [] 0 0 (lw_Z below #[Value.ref b] s) (entryFrame m ([Value.ref b] : List Value).toArray 10) := by
  obtain ⟨hx, hb, hr, hml, hown, hts, hX, hbl, hlocks, hgv⟩ := id C0
  obtain ⟨dC, dI, aC, hk⟩ := law_xk hts
  have hl := lv_entry ([.ref b]) (n := 10) (Nat.le_of_ble_eq_true rfl)
  rw [lg_entry_eq]
  generalize (lg_sl ([.ref b]) ++ List.replicate (10 - (lg_sl ([.ref b])).length) Slot.unset).toArray = lo at hl ⊢
  have hst := law_start (G := (l, (dC, dI), aC, s.heap.size)) (nm := meth.name) (b := b) (h := s.heap.size) (sc := xs) hL
  refine W.cs (cells' := s.heap.size - s.heap.size) (slots' := 0 - 0) (by omega) (by omega) ?_
  refine hst p e room_1 s m _ below meth c _ s.heap [] lo ⟨hX, hbl, rfl, rfl, rfl, rfl, hr, hlocks⟩ ⟨hx, hb, hr, hml, hown, rfl, hlocks, hk l s.heap.size, rfl, Nat.le_refl _, Nat.le_of_ble_eq_true rfl, Nat.le_of_ble_eq_true rfl, by show s.heap.size + 187 - s.heap.size ≤ 600000; omega, Nat.le_of_ble_eq_true rfl⟩ ⟨rfl, Nat.le_refl _, fun a ha => absurd rfl ha⟩ va_S.rf ⟨hl, fun q hq => ?_⟩ ⟨Nat.le_refl _, Nat.le_refl _, Nat.le_add_right _ _, Nat.zero_le _⟩
  have hq2 : q ∈ [(0, Value.ref b)] := hq
  rw [List.mem_singleton.mp hq2]
  exact Or.inl rfl
