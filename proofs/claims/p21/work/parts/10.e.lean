/-! THE LAW's trace -/
def fldn (g : Nat → Int32) : Nat → Int64 → Int64
  | 0, h => h
  | k + 1, h => 31 * fldn g k h + (g k).toInt64
def itn (F : Nat → Int64 → Int64) : Nat → Int64 → Int64
  | 0, h => h
  | k + 1, h => F k (itn F k h)
def tvC (o : xO) : Nat → Int32 := fun w => nI (cntV o w)
def tvR1 (n : Nat) (P : Nat → Nat → Nat) (k : Nat) : Nat → Int32 := fun w => runV n (runD n P (nI k) (nI (3 - k))) w
def tvR2 (n : Nat) (P : Nat → Nat → Nat) (k : Nat) : Nat → Int32 := fun c => (runD n P (nI k) (nI (3 - k))).2 1 c
def tvK (n : Nat) (P : Nat → Nat → Nat) (k : Nat) (h : Int64) : Int64 := fldn (tvR2 n P k) 6 (fldn (tvR1 n P k) 6 h)
def tvP (n : Nat) (P : Nat → Nat → Nat) (h : Int64) : Int64 := itn (tvK n P) 4 (fldn (prgW n P) 8 h)
def tvQ (o : xO) : Nat → Int64 → Int64 := fun p h => tvP (oN o p) (oP o p) h
def tvV (o : xO) : Int64 := itn (tvQ o) 2 (fldn (tvC o) 3 7)
theorem fldn_s (g : Nat → Int32) (k : Nat) (h : Int64) : fldn g (k + 1) h = 31 * fldn g k h + (g k).toInt64 := rfl
theorem itn_s (F : Nat → Int64 → Int64) (k : Nat) (h : Int64) : itn F (k + 1) h = F k (itn F k h) := rfl
theorem tvK_e (n : Nat) (P : Nat → Nat → Nat) (k : Nat) (h : Int64) : tvK n P k h = fldn (tvR2 n P k) 6 (fldn (tvR1 n P k) 6 h) := rfl
theorem tvQ_e (o : xO) (p : Nat) (h : Int64) : tvQ o p h = itn (tvK (oN o p) (oP o p)) 4 (fldn (prgW (oN o p) (oP o p)) 8 h) := rfl
theorem fldn_cg {g g' : Nat → Int32} {h : Int64} : ∀ n, (∀ k, k < n → g' k = g k) → fldn g' n h = fldn g n h
  | 0, _ => rfl
  | n + 1, e => by rw [fldn_s, fldn_s, fldn_cg n (fun k hk => e k (by omega)), e n (by omega)]
theorem itn_cg {F F' : Nat → Int64 → Int64} : ∀ n (h h' : Int64), h' = h → (∀ k, k < n → F' k = F k) → itn F' n h' = itn F n h
  | 0, h, h', e0, _ => e0
  | n + 1, h, h', e0, e => by rw [itn_s, itn_s, itn_cg n h h' e0 (fun k hk => e k (by omega)), e n (by omega)]
/-- the same programs, and as many states: the same trace -/
theorem tvV_cg {o o' : xO} (hs : oS o' = oS o) (hn : ∀ p, p ≤ 1 → oN o' p = oN o p) (hp : ∀ p, p ≤ 1 → oP o' p = oP o p) : tvV o' = tvV o := by
  unfold tvV
  refine itn_cg _ _ _ (fldn_cg _ (fun k hk => ?_)) (fun k hk => ?_)
  · unfold tvC cntV
    rw [hs, hn 0 (by omega), hn 1 (by omega)]
    rcases (show k = 0 ∨ k = 1 ∨ k = 2 by omega) with rfl | rfl | rfl <;> rfl
  · unfold tvQ
    rw [hn k (by omega), hp k (by omega)]
theorem in3 {k : Nat} (h : k < 4) : inpt (nI k) (nI (3 - k)) := by
  unfold inpt
  rw [nt _ (by omega), nt _ (by omega)]
  omega
theorem s_L_trace {G : xG} {d : Nat} {f : Nat → xC} {r : Nat × Nat} {Q : Option Value → xM → Prop} {z : Nat} {o : xO} (hO : OI f z o) (hq : ∀ f', OI f' z o → Q (some (.long (tvV o))) (f', r)) : xMet G (d + 10) mL_trace [.ref z] (f, r) r Q := by
  refine xMet_0 (by decide +kernel) rfl (Nat.le_of_ble_eq_true rfl) ?_
  show xX G (d + 10) mL_trace r r (xΦ G r r Q) 0 [(0, .ref z)] [] (f, r)
  refine xr_ldc2_w (v := 7) (n := 3) dL_trace_0 kk_L_15 rfl ?_
  refine xq_lstore_n 1 (n := 4) dL_trace_3 rfl rfl rfl ?_
  simp only [xst, Nat.beq, List.filter, Bool.not_true, Bool.not_false]
  refine xr_iconst (v := nI 0) (n := 5) dL_trace_4 (by decide) rfl ?_
  refine xq_istore_n 3 (n := 6) dL_trace_5 rfl rfl rfl ?_
  simp only [xst, Nat.beq, List.filter, Bool.not_true, Bool.not_false]
  have keyA : ∀ k, k ≤ 3 → ∀ f, OI f z o → xX G (d + 10) mL_trace r r (xΦ G r r Q) 6 [(0, .ref z), (1, .long (fldn (tvC o) k 7)), (3, .int (nI k))] [] (f, r) := by
    refine nat_down (P := fun k => ∀ f, OI f z o → xX G (d + 10) mL_trace r r (xΦ G r r Q) 6 [(0, .ref z), (1, .long (fldn (tvC o) k 7)), (3, .int (nI k))] [] (f, r)) (N := 3) ?_ ?_
    · intro f hO
      refine xr_iload_n (n := 7) dL_trace_6 rfl rfl ?_
      refine xr_iconst (v := nI 3) (n := 8) dL_trace_7 (by decide) rfl ?_
      refine xr_icmp_ge (tgt := 30) (n := 11) dL_trace_8 (by decide) rfl (fun h8 => ?_) (fun h8 => by (exfalso; ((try simp (disch := omega) only [i_lt, i_le, i_eq, nt, i_m1, Int32.toInt_zero] at *); omega)))
      refine xr_iconst (v := nI 0) (n := 31) dL_trace_30 (by decide) rfl ?_
      refine xq_istore_n 3 (n := 32) dL_trace_31 rfl rfl rfl ?_
      simp only [xst, Nat.beq, List.filter, Bool.not_true, Bool.not_false]
      have keyB : ∀ p, p ≤ 2 → ∀ f, OI f z o → xX G (d + 10) mL_trace r r (xΦ G r r Q) 32 [(0, .ref z), (1, .long (itn (tvQ o) p (fldn (tvC o) 3 7))), (3, .int (nI p))] [] (f, r) := by
        refine nat_down (P := fun p => ∀ f, OI f z o → xX G (d + 10) mL_trace r r (xΦ G r r Q) 32 [(0, .ref z), (1, .long (itn (tvQ o) p (fldn (tvC o) 3 7))), (3, .int (nI p))] [] (f, r)) (N := 2) ?_ ?_
        · intro f hO
          refine xr_iload_n (n := 33) dL_trace_32 rfl rfl ?_
          refine xr_iconst (v := nI 2) (n := 34) dL_trace_33 (by decide) rfl ?_
          refine xr_icmp_ge (tgt := 164) (n := 37) dL_trace_34 (by decide) rfl (fun h34 => ?_) (fun h34 => by (exfalso; ((try simp (disch := omega) only [i_lt, i_le, i_eq, nt, i_m1, Int32.toInt_zero] at *); omega)))
          refine xr_lload_n (n := 165) dL_trace_164 rfl rfl ?_
          refine xr_lreturn dL_trace_165 rfl rfl ?_
          exact hq f hO
        · intro p hkp ihB f hO
          refine xr_iload_n (n := 33) dL_trace_32 rfl rfl ?_
          refine xr_iconst (v := nI 2) (n := 34) dL_trace_33 (by decide) rfl ?_
          refine xr_icmp_ge (tgt := 164) (n := 37) dL_trace_34 (by decide) rfl (fun h34 => by (exfalso; ((try simp (disch := omega) only [i_lt, i_le, i_eq, nt, i_m1, Int32.toInt_zero] at *); omega))) (fun h34 => ?_)
          refine xr_iconst (v := nI 0) (n := 38) dL_trace_37 (by decide) rfl ?_
          refine xr_istore (n := 40) dL_trace_38 rfl rfl ?_
          simp only [xst, Nat.beq, List.filter, Bool.not_true, Bool.not_false]
          have keyC : ∀ k, k ≤ 8 → ∀ f, OI f z o → xX G (d + 10) mL_trace r r (xΦ G r r Q) 40 [(0, .ref z), (1, .long (fldn (prgW (oN o p) (oP o p)) k (itn (tvQ o) p (fldn (tvC o) 3 7)))), (3, .int (nI p)), (4, .int (nI k))] [] (f, r) := by
            refine nat_down (P := fun k => ∀ f, OI f z o → xX G (d + 10) mL_trace r r (xΦ G r r Q) 40 [(0, .ref z), (1, .long (fldn (prgW (oN o p) (oP o p)) k (itn (tvQ o) p (fldn (tvC o) 3 7)))), (3, .int (nI p)), (4, .int (nI k))] [] (f, r)) (N := 8) ?_ ?_
            · intro f hO
              refine xr_iload (n := 42) dL_trace_40 rfl rfl ?_
              refine xr_bipush (v := nI 8) (n := 44) dL_trace_42 (by decide) rfl ?_
              refine xr_icmp_ge (tgt := 68) (n := 47) dL_trace_44 (by decide) rfl (fun h44 => ?_) (fun h44 => by (exfalso; ((try simp (disch := omega) only [i_lt, i_le, i_eq, nt, i_m1, Int32.toInt_zero] at *); omega)))
              refine xr_iconst (v := nI 0) (n := 69) dL_trace_68 (by decide) rfl ?_
              refine xr_istore (n := 71) dL_trace_69 rfl rfl ?_
              simp only [xst, Nat.beq, List.filter, Bool.not_true, Bool.not_false]
              have keyD : ∀ k, k ≤ 4 → ∀ f, OI f z o → xX G (d + 10) mL_trace r r (xΦ G r r Q) 71 [(0, .ref z), (1, .long (itn (tvK (oN o p) (oP o p)) k (fldn (prgW (oN o p) (oP o p)) 8 (itn (tvQ o) p (fldn (tvC o) 3 7))))), (3, .int (nI p)), (4, .int (nI k))] [] (f, r) := by
                refine nat_down (P := fun k => ∀ f, OI f z o → xX G (d + 10) mL_trace r r (xΦ G r r Q) 71 [(0, .ref z), (1, .long (itn (tvK (oN o p) (oP o p)) k (fldn (prgW (oN o p) (oP o p)) 8 (itn (tvQ o) p (fldn (tvC o) 3 7))))), (3, .int (nI p)), (4, .int (nI k))] [] (f, r)) (N := 4) ?_ ?_
                · intro f hO
                  refine xr_iload (n := 73) dL_trace_71 rfl rfl ?_
                  refine xr_iconst (v := nI 4) (n := 74) dL_trace_73 (by decide) rfl ?_
                  refine xr_icmp_ge (tgt := 158) (n := 77) dL_trace_74 (by decide) rfl (fun h74 => ?_) (fun h74 => by (exfalso; ((try simp (disch := omega) only [i_lt, i_le, i_eq, nt, i_m1, Int32.toInt_zero] at *); omega)))
                  refine xr_iinc (n := 161) dL_trace_158 rfl rfl (rfl) rfl ?_
                  simp only [xst, Nat.beq, List.filter, Bool.not_true, Bool.not_false]
                  (first | (simp (disch := omega) only [nI_clamp, pk_mul, nI_add, oi1, Nat.reduceMul, Nat.reduceAdd, Nat.add_zero]) | skip)
                  refine xr_goto (n := 32) dL_trace_161 (by decide) ?_
                  refine xX.drop 4 ?_
                  simp only [List.filter, Nat.beq, Bool.not_true, Bool.not_false]
                  have h9 := ihB f hO
                  rw [itn_s, tvQ_e] at h9
                  exact h9
                · intro k hkk ihD f hO
                  refine xr_iload (n := 73) dL_trace_71 rfl rfl ?_
                  refine xr_iconst (v := nI 4) (n := 74) dL_trace_73 (by decide) rfl ?_
                  refine xr_icmp_ge (tgt := 158) (n := 77) dL_trace_74 (by decide) rfl (fun h74 => by (exfalso; ((try simp (disch := omega) only [i_lt, i_le, i_eq, nt, i_m1, Int32.toInt_zero] at *); omega))) (fun h74 => ?_)
                  refine xr_iconst (v := nI 0) (n := 78) dL_trace_77 (by decide) rfl ?_
                  refine xr_istore (n := 80) dL_trace_78 rfl rfl ?_
                  simp only [xst, Nat.beq, List.filter, Bool.not_true, Bool.not_false]
                  have keyE : ∀ m, m ≤ 6 → ∀ f, OI f z o → xX G (d + 10) mL_trace r r (xΦ G r r Q) 80 [(0, .ref z), (1, .long (fldn (tvR1 (oN o p) (oP o p) k) m (itn (tvK (oN o p) (oP o p)) k (fldn (prgW (oN o p) (oP o p)) 8 (itn (tvQ o) p (fldn (tvC o) 3 7)))))), (3, .int (nI p)), (4, .int (nI k)), (5, .int (nI m))] [] (f, r) := by
                    refine nat_down (P := fun m => ∀ f, OI f z o → xX G (d + 10) mL_trace r r (xΦ G r r Q) 80 [(0, .ref z), (1, .long (fldn (tvR1 (oN o p) (oP o p) k) m (itn (tvK (oN o p) (oP o p)) k (fldn (prgW (oN o p) (oP o p)) 8 (itn (tvQ o) p (fldn (tvC o) 3 7)))))), (3, .int (nI p)), (4, .int (nI k)), (5, .int (nI m))] [] (f, r)) (N := 6) ?_ ?_
                    · intro f hO
                      refine xr_iload (n := 82) dL_trace_80 rfl rfl ?_
                      refine xr_bipush (v := nI 6) (n := 84) dL_trace_82 (by decide) rfl ?_
                      refine xr_icmp_ge (tgt := 114) (n := 87) dL_trace_84 (by decide) rfl (fun h84 => ?_) (fun h84 => by (exfalso; ((try simp (disch := omega) only [i_lt, i_le, i_eq, nt, i_m1, Int32.toInt_zero] at *); omega)))
                      refine xr_iconst (v := nI 0) (n := 115) dL_trace_114 (by decide) rfl ?_
                      refine xr_istore (n := 117) dL_trace_115 rfl rfl ?_
                      simp only [xst, Nat.beq, List.filter, Bool.not_true, Bool.not_false]
                      have keyF : ∀ m, m ≤ 6 → ∀ f, OI f z o → xX G (d + 10) mL_trace r r (xΦ G r r Q) 117 [(0, .ref z), (1, .long (fldn (tvR2 (oN o p) (oP o p) k) m (fldn (tvR1 (oN o p) (oP o p) k) 6 (itn (tvK (oN o p) (oP o p)) k (fldn (prgW (oN o p) (oP o p)) 8 (itn (tvQ o) p (fldn (tvC o) 3 7))))))), (3, .int (nI p)), (4, .int (nI k)), (5, .int (nI m))] [] (f, r) := by
                        refine nat_down (P := fun m => ∀ f, OI f z o → xX G (d + 10) mL_trace r r (xΦ G r r Q) 117 [(0, .ref z), (1, .long (fldn (tvR2 (oN o p) (oP o p) k) m (fldn (tvR1 (oN o p) (oP o p) k) 6 (itn (tvK (oN o p) (oP o p)) k (fldn (prgW (oN o p) (oP o p)) 8 (itn (tvQ o) p (fldn (tvC o) 3 7))))))), (3, .int (nI p)), (4, .int (nI k)), (5, .int (nI m))] [] (f, r)) (N := 6) ?_ ?_
                        · intro f hO
                          refine xr_iload (n := 119) dL_trace_117 rfl rfl ?_
                          refine xr_bipush (v := nI 6) (n := 121) dL_trace_119 (by decide) rfl ?_
                          refine xr_icmp_ge (tgt := 152) (n := 124) dL_trace_121 (by decide) rfl (fun h121 => ?_) (fun h121 => by (exfalso; ((try simp (disch := omega) only [i_lt, i_le, i_eq, nt, i_m1, Int32.toInt_zero] at *); omega)))
                          refine xr_iinc (n := 155) dL_trace_152 rfl rfl (rfl) rfl ?_
                          simp only [xst, Nat.beq, List.filter, Bool.not_true, Bool.not_false]
                          (first | (simp (disch := omega) only [nI_clamp, pk_mul, nI_add, oi1, Nat.reduceMul, Nat.reduceAdd, Nat.add_zero]) | skip)
                          refine xr_goto (n := 71) dL_trace_155 (by decide) ?_
                          refine xX.drop 5 ?_
                          simp only [List.filter, Nat.beq, Bool.not_true, Bool.not_false]
                          have h9 := ihD f hO
                          rw [itn_s, tvK_e] at h9
                          exact h9
                        · intro m hkm ihF f hO
                          refine xr_iload (n := 119) dL_trace_117 rfl rfl ?_
                          refine xr_bipush (v := nI 6) (n := 121) dL_trace_119 (by decide) rfl ?_
                          refine xr_icmp_ge (tgt := 152) (n := 124) dL_trace_121 (by decide) rfl (fun h121 => by (exfalso; ((try simp (disch := omega) only [i_lt, i_le, i_eq, nt, i_m1, Int32.toInt_zero] at *); omega))) (fun h121 => ?_)
                          refine xr_ldc2_w (v := 31) (n := 127) dL_trace_124 kk_L_17 rfl ?_
                          refine xr_lload_n (n := 128) dL_trace_127 rfl rfl ?_
                          refine xr_lmul (n := 129) dL_trace_128 rfl ?_
                          refine xr_aload_n (n := 130) dL_trace_129 rfl rfl ?_
                          refine xr_iload_n (n := 131) dL_trace_130 rfl rfl ?_
                          refine xr_iload (n := 133) dL_trace_131 rfl rfl ?_
                          refine xr_iconst (v := nI 3) (n := 134) dL_trace_133 (by decide) rfl ?_
                          refine xr_iload (n := 136) dL_trace_134 rfl rfl ?_
                          refine xr_isub (n := 137) dL_trace_136 rfl ?_
                          rw [pk_sub (by omega)]
                          refine xr_iconst (v := (-1)) (n := 138) dL_trace_137 (by decide) rfl ?_
                          refine xr_iload (n := 140) dL_trace_138 rfl rfl ?_
                          refine xr_callV (y2 := mX7_cell) (As := [_, _, _, _, _]) (n := 143) dL_trace_140 lm_L_32 pm_X7_cell pi_X7_cell (by exact Exists.choose_spec hO.z) rfl rfl rfl (by simp [Value.category]) rfl ⟨Nat.le_refl _, Nat.le_refl _⟩ ?_
                          refine q_end hO (by omega) (in3 hkk) (by omega) (fun f hO => ?_)
                          dsimp only [xK, xps]
                          refine xr_i2l (n := 144) dL_trace_143 rfl ?_
                          refine xr_ladd (n := 145) dL_trace_144 rfl ?_
                          refine xq_lstore_n 1 (n := 146) dL_trace_145 rfl rfl rfl ?_
                          simp only [xst, Nat.beq, List.filter, Bool.not_true, Bool.not_false]
                          refine xr_iinc (n := 149) dL_trace_146 rfl rfl (rfl) rfl ?_
                          simp only [xst, Nat.beq, List.filter, Bool.not_true, Bool.not_false]
                          (first | (simp (disch := omega) only [nI_clamp, pk_mul, nI_add, oi1, Nat.reduceMul, Nat.reduceAdd, Nat.add_zero]) | skip)
                          refine xr_goto (n := 117) dL_trace_149 (by decide) ?_
                          have h9 := ihF f hO
                          rw [fldn_s] at h9
                          exact h9
                      exact keyF 0 (by omega) f hO
                    · intro m hkm ihE f hO
                      refine xr_iload (n := 82) dL_trace_80 rfl rfl ?_
                      refine xr_bipush (v := nI 6) (n := 84) dL_trace_82 (by decide) rfl ?_
                      refine xr_icmp_ge (tgt := 114) (n := 87) dL_trace_84 (by decide) rfl (fun h84 => by (exfalso; ((try simp (disch := omega) only [i_lt, i_le, i_eq, nt, i_m1, Int32.toInt_zero] at *); omega))) (fun h84 => ?_)
                      refine xr_ldc2_w (v := 31) (n := 90) dL_trace_87 kk_L_17 rfl ?_
                      refine xr_lload_n (n := 91) dL_trace_90 rfl rfl ?_
                      refine xr_lmul (n := 92) dL_trace_91 rfl ?_
                      refine xr_aload_n (n := 93) dL_trace_92 rfl rfl ?_
                      refine xr_iload_n (n := 94) dL_trace_93 rfl rfl ?_
                      refine xr_iload (n := 96) dL_trace_94 rfl rfl ?_
                      refine xr_iconst (v := nI 3) (n := 97) dL_trace_96 (by decide) rfl ?_
                      refine xr_iload (n := 99) dL_trace_97 rfl rfl ?_
                      refine xr_isub (n := 100) dL_trace_99 rfl ?_
                      rw [pk_sub (by omega)]
                      refine xr_iload (n := 102) dL_trace_100 rfl rfl ?_
                      refine xr_callV (y2 := mX7_run) (As := [_, _, _, _]) (n := 105) dL_trace_102 lm_L_28 pm_X7_run pi_X7_run (by exact Exists.choose_spec hO.z) rfl rfl rfl (by simp [Value.category]) rfl ⟨Nat.le_refl _, Nat.le_refl _⟩ ?_
                      refine q_run hO (by omega) (in3 hkk) (by omega) (fun f hO => ?_)
                      dsimp only [xK, xps]
                      refine xr_i2l (n := 106) dL_trace_105 rfl ?_
                      refine xr_ladd (n := 107) dL_trace_106 rfl ?_
                      refine xq_lstore_n 1 (n := 108) dL_trace_107 rfl rfl rfl ?_
                      simp only [xst, Nat.beq, List.filter, Bool.not_true, Bool.not_false]
                      refine xr_iinc (n := 111) dL_trace_108 rfl rfl (rfl) rfl ?_
                      simp only [xst, Nat.beq, List.filter, Bool.not_true, Bool.not_false]
                      (first | (simp (disch := omega) only [nI_clamp, pk_mul, nI_add, oi1, Nat.reduceMul, Nat.reduceAdd, Nat.add_zero]) | skip)
                      refine xr_goto (n := 80) dL_trace_111 (by decide) ?_
                      have h9 := ihE f hO
                      rw [fldn_s] at h9
                      exact h9
                  exact keyE 0 (by omega) f hO
              exact keyD 0 (by omega) f hO
            · intro k hkk ihC f hO
              refine xr_iload (n := 42) dL_trace_40 rfl rfl ?_
              refine xr_bipush (v := nI 8) (n := 44) dL_trace_42 (by decide) rfl ?_
              refine xr_icmp_ge (tgt := 68) (n := 47) dL_trace_44 (by decide) rfl (fun h44 => by (exfalso; ((try simp (disch := omega) only [i_lt, i_le, i_eq, nt, i_m1, Int32.toInt_zero] at *); omega))) (fun h44 => ?_)
              refine xr_ldc2_w (v := 31) (n := 50) dL_trace_47 kk_L_17 rfl ?_
              refine xr_lload_n (n := 51) dL_trace_50 rfl rfl ?_
              refine xr_lmul (n := 52) dL_trace_51 rfl ?_
              refine xr_aload_n (n := 53) dL_trace_52 rfl rfl ?_
              refine xr_iload_n (n := 54) dL_trace_53 rfl rfl ?_
              refine xr_iload (n := 56) dL_trace_54 rfl rfl ?_
              refine xr_callV (y2 := mX7_program) (As := [_, _]) (n := 59) dL_trace_56 lm_L_25 pm_X7_program pi_X7_program (by exact Exists.choose_spec hO.z) rfl rfl rfl (by simp [Value.category]) rfl ⟨Nat.le_refl _, Nat.le_refl _⟩ ?_
              refine q_program hO (by omega) (by omega) ?_
              dsimp only [xK, xps]
              refine xr_i2l (n := 60) dL_trace_59 rfl ?_
              refine xr_ladd (n := 61) dL_trace_60 rfl ?_
              refine xq_lstore_n 1 (n := 62) dL_trace_61 rfl rfl rfl ?_
              simp only [xst, Nat.beq, List.filter, Bool.not_true, Bool.not_false]
              refine xr_iinc (n := 65) dL_trace_62 rfl rfl (rfl) rfl ?_
              simp only [xst, Nat.beq, List.filter, Bool.not_true, Bool.not_false]
              (first | (simp (disch := omega) only [nI_clamp, pk_mul, nI_add, oi1, Nat.reduceMul, Nat.reduceAdd, Nat.add_zero]) | skip)
              refine xr_goto (n := 40) dL_trace_65 (by decide) ?_
              have h9 := ihC f hO
              rw [fldn_s] at h9
              exact h9
          exact keyC 0 (by omega) f hO
      exact keyB 0 (by omega) f hO
    · intro k hkk ihA f hO
      refine xr_iload_n (n := 7) dL_trace_6 rfl rfl ?_
      refine xr_iconst (v := nI 3) (n := 8) dL_trace_7 (by decide) rfl ?_
      refine xr_icmp_ge (tgt := 30) (n := 11) dL_trace_8 (by decide) rfl (fun h8 => by (exfalso; ((try simp (disch := omega) only [i_lt, i_le, i_eq, nt, i_m1, Int32.toInt_zero] at *); omega))) (fun h8 => ?_)
      refine xr_ldc2_w (v := 31) (n := 14) dL_trace_11 kk_L_17 rfl ?_
      refine xr_lload_n (n := 15) dL_trace_14 rfl rfl ?_
      refine xr_lmul (n := 16) dL_trace_15 rfl ?_
      refine xr_aload_n (n := 17) dL_trace_16 rfl rfl ?_
      refine xr_iload_n (n := 18) dL_trace_17 rfl rfl ?_
      refine xr_callV (y2 := mX7_count) (As := [_]) (n := 21) dL_trace_18 lm_L_19 pm_X7_count pi_X7_count (by exact Exists.choose_spec hO.z) rfl rfl rfl (by simp [Value.category]) rfl ⟨Nat.le_refl _, Nat.le_refl _⟩ ?_
      refine q_count hO (by omega) ?_
      dsimp only [xK, xps]
      refine xr_i2l (n := 22) dL_trace_21 rfl ?_
      refine xr_ladd (n := 23) dL_trace_22 rfl ?_
      refine xq_lstore_n 1 (n := 24) dL_trace_23 rfl rfl rfl ?_
      simp only [xst, Nat.beq, List.filter, Bool.not_true, Bool.not_false]
      refine xr_iinc (n := 27) dL_trace_24 rfl rfl (rfl) rfl ?_
      simp only [xst, Nat.beq, List.filter, Bool.not_true, Bool.not_false]
      (first | (simp (disch := omega) only [nI_clamp, pk_mul, nI_add, oi1, Nat.reduceMul, Nat.reduceAdd, Nat.add_zero]) | skip)
      refine xr_goto (n := 6) dL_trace_27 (by decide) ?_
      have h9 := ihA f hO
      rw [fldn_s] at h9
      exact h9
  exact keyA 0 (by omega) f hO

