/-! THE LAW's goes -/
theorem fdv_same (A : Nat × xS) : fdv A A = (-10009) := fdF_end 40 0 (fun _ _ => rfl)
theorem set1_s {α : Type} (X : Nat → α) (p : Nat) (x : α) : set1 X p x p = x := if_pos rfl
theorem s_L_goes {G : xG} {d : Nat} {f : Nat → xC} {r : Nat × Nat} {Q : Option Value → xM → Prop} {z : Nat} {x w0 : Int32} {o : xO} (hO : OI f z o) (hq1 : ∀ (e : Int32) f' t n, e = (-1) ∨ e = (-2) → OI f' z (oTx o t n) → Q (some (.int e)) (f', r)) (hq : ∀ f' t n N P, OI f' z (oPut (oTx o t n) N P) → Q (some (.int (nI 0))) (f', r)) : xMet G (d + 10) mL_goes [.ref z, .int x, .int w0] (f, r) r Q := by
  refine xMet_0 (by decide +kernel) rfl (Nat.le_of_ble_eq_true rfl) ?_
  show xX G (d + 10) mL_goes r r (xΦ G r r Q) 0 [(0, .ref z), (1, .int x), (2, .int w0)] [] (f, r)
  have e10001 : (-10001 : Int32).toInt = -10001 := by decide +kernel
  have e10003 : (-10003 : Int32).toInt = -10003 := by decide +kernel
  have hx7 := lo_lt x (n := 7) (by omega)
  have hw9 := lo_lt w0 (n := 9) (by omega)
  have k204_0 : ∀ (p s : Int32) (n : Nat), ¬ ((0 ≤ p.toInt ∧ p.toInt ≤ 1) ∧ (0 ≤ s.toInt ∧ s.toInt < oN o (ix p))) → ∀ f, OI f z o → xX G (d + 10) mL_goes r r (xΦ G r r Q) 204 [(0, .ref z), (1, .int x), (2, .int w0), (3, .int p), (4, .int (nI n)), (5, .int s)] [.int (nI 0)] (f, r) := by
    intro p s n hc f hO
    have hcn : ∀ p2 sn : Nat, p2 ≤ 1 → p = nI p2 → s = nI sn → sn < oN o p2 → ((0 ≤ p.toInt ∧ p.toInt ≤ 1) ∧ (0 ≤ s.toInt ∧ s.toInt < oN o (ix p))) := fun p2 sn hp2 ep es hs => by
      have n60 := hO.2.n60 hp2
      rw [ep, es, nt _ (by omega), nt _ (by omega), ix_n (by omega)]
      omega
    refine xr_istore (n := 206) dL_goes_204 rfl rfl ?_
    simp only [xst, Nat.beq, List.filter, Bool.not_true, Bool.not_false]
    refine xr_aload_n (n := 207) dL_goes_206 rfl rfl ?_
    refine xr_iload_n (n := 208) dL_goes_207 rfl rfl ?_
    refine xr_iload (n := 210) dL_goes_208 rfl rfl ?_
    refine xr_callV (y2 := mX7_cut) (As := [_, _]) (n := 213) dL_goes_210 lm_L_112 pm_X7_cut pi_X7_cut (by exact Exists.choose_spec hO.z) rfl rfl rfl (by simp [Value.category]) rfl ⟨Nat.le_refl _, Nat.le_refl _⟩ ?_
    refine q_cut hO (fun _ => ?_) (fun p2 sn hp2 ep es hs f _ => absurd (hcn p2 sn hp2 ep es hs) hc)
    dsimp only [xK, xps]
    refine xr_istore (n := 215) dL_goes_213 rfl rfl ?_
    simp only [xst, Nat.beq, List.filter, Bool.not_true, Bool.not_false]
    refine xr_iload (n := 217) dL_goes_215 rfl rfl ?_
    refine xr_if_ne (tgt := 236) (n := 220) dL_goes_217 (by decide) rfl (fun h217 => by (exfalso; revert h217; decide)) (fun h217 => ?_)
    refine xr_iload (n := 222) dL_goes_220 rfl rfl ?_
    refine xr_sipush (v := (-10001)) (n := 225) dL_goes_222 (by decide) rfl ?_
    refine xr_icmp_ne (tgt := 232) (n := 228) dL_goes_225 (by decide) rfl (fun h225 => by (exact absurd rfl h225)) (fun h225 => ?_)
    refine xr_iconst (v := (-1)) (n := 229) dL_goes_228 (by decide) rfl ?_
    refine xr_goto (n := 263) dL_goes_229 (by decide) ?_
    refine xr_ireturn dL_goes_263 rfl rfl rfl ?_
    exact hq1 (-1) f (oT o) (oL o) (Or.inl rfl) hO
  have k204_1 : ∀ (p : Nat) (s : Int32), p ≤ 1 → (0 ≤ s.toInt ∧ s.toInt < oN o p) → ∀ f, OI f z o → xX G (d + 10) mL_goes r r (xΦ G r r Q) 204 [(0, .ref z), (1, .int x), (2, .int w0), (3, .int (nI p)), (4, .int (nI (oN o p))), (5, .int s)] [.int (nI 1)] (f, r) := by
    intro p s hp hc f hO
    have n60 := hO.2.n60 hp
    have hwf := hO.2.wf hp
    refine xr_istore (n := 206) dL_goes_204 rfl rfl ?_
    simp only [xst, Nat.beq, List.filter, Bool.not_true, Bool.not_false]
    refine xr_aload_n (n := 207) dL_goes_206 rfl rfl ?_
    refine xr_iload_n (n := 208) dL_goes_207 rfl rfl ?_
    refine xr_iload (n := 210) dL_goes_208 rfl rfl ?_
    refine xr_callV (y2 := mX7_cut) (As := [_, _]) (n := 213) dL_goes_210 lm_L_112 pm_X7_cut pi_X7_cut (by exact Exists.choose_spec hO.z) rfl rfl rfl (by simp [Value.category]) rfl ⟨Nat.le_refl _, Nat.le_refl _⟩ ?_
    refine q_cut hO (fun h9 => absurd ⟨by rw [nt _ (by omega)]; omega, hc.1, by rw [ix_n (by omega)]; exact hc.2⟩ h9) (fun p2 sn hp2 ep es hs f hO => ?_)
    have ep2 := nI_inj (by omega) (by omega) ep
    subst ep2
    have hz := psz_bd hwf.1 hs
    dsimp only [xK, xps]
    refine xr_istore (n := 215) dL_goes_213 rfl rfl ?_
    simp only [xst, Nat.beq, List.filter, Bool.not_true, Bool.not_false]
    refine xr_iload (n := 217) dL_goes_215 rfl rfl ?_
    refine xr_if_ne (tgt := 236) (n := 220) dL_goes_217 (by decide) rfl (fun h217 => ?_) (fun h217 => by (exfalso; revert h217; decide))
    refine xr_iload (n := 238) dL_goes_236 rfl rfl ?_
    refine xr_if_lt (tgt := 262) (n := 241) dL_goes_238 (by decide) rfl (fun h238 => by (exfalso; ((try simp (disch := omega) only [i_lt, i_le, i_eq, nt, i_m1, Int32.toInt_zero] at *); omega))) (fun h238 => ?_)
    refine xr_iload (n := 243) dL_goes_241 rfl rfl ?_
    refine xr_iload (n := 245) dL_goes_243 rfl rfl ?_
    refine xr_icmp_ge (tgt := 262) (n := 248) dL_goes_245 (by decide) rfl (fun h245 => by (exfalso; ((try simp (disch := omega) only [i_lt, i_le, i_eq, nt, i_m1, Int32.toInt_zero] at *); omega))) (fun h245 => ?_)
    refine xr_iload (n := 250) dL_goes_248 rfl rfl ?_
    refine xr_aload_n (n := 251) dL_goes_250 rfl rfl ?_
    refine xr_iload_n (n := 252) dL_goes_251 rfl rfl ?_
    refine xr_callV (y2 := mX7_count) (As := [_]) (n := 255) dL_goes_252 lm_L_19 pm_X7_count pi_X7_count (by exact Exists.choose_spec hO.z) rfl rfl rfl (by simp [Value.category]) rfl ⟨Nat.le_refl _, Nat.le_refl _⟩ ?_
    refine q_count hO (by omega) ?_
    dsimp only [xK, xps]
    rw [show cntV (oPut o (set1 (oN o) p (oN o p - psz (oP o p) sn)) (set1 (oP o) p (pcut (oP o p) sn))) p = oN o p - psz (oP o p) sn from (cnt_p hp).trans (set1_s _ _ _)]
    refine xr_icmp_ne (tgt := 262) (n := 258) dL_goes_255 (by decide) rfl (fun h255 => by (exact absurd rfl h255)) (fun h255 => ?_)
    refine xr_iconst (v := nI 0) (n := 259) dL_goes_258 (by decide) rfl ?_
    refine xr_goto (n := 263) dL_goes_259 (by decide) ?_
    refine xr_ireturn dL_goes_263 rfl rfl rfl ?_
    exact hq f (oT o) (oL o) _ _ hO
  have k187 : ∀ (p : Nat) (s : Int32), p ≤ 1 → ∀ f, OI f z o → xX G (d + 10) mL_goes r r (xΦ G r r Q) 187 [(0, .ref z), (1, .int x), (2, .int w0), (3, .int (nI p)), (4, .int (nI (oN o p))), (5, .int s)] [] (f, r) := by
    intro p s hp f hO
    have n60 := hO.2.n60 hp
    have en := nt (oN o p) (by omega)
    refine xr_iload (n := 189) dL_goes_187 rfl rfl ?_
    refine xr_if_lt (tgt := 203) (n := 192) dL_goes_189 (by decide) rfl (fun h189 => ?_) (fun h189 => ?_)
    · refine xr_iconst (v := nI 0) (n := 204) dL_goes_203 (by decide) rfl ?_
      exact k204_0 _ _ _ (fun q => by rw [i_lt, Int32.toInt_zero] at h189; omega) f hO
    · refine xr_iload (n := 194) dL_goes_192 rfl rfl ?_
      refine xr_iload (n := 196) dL_goes_194 rfl rfl ?_
      refine xr_icmp_ge (tgt := 203) (n := 199) dL_goes_196 (by decide) rfl (fun h196 => ?_) (fun h196 => ?_)
      · refine xr_iconst (v := nI 0) (n := 204) dL_goes_203 (by decide) rfl ?_
        exact k204_0 _ _ _ (fun q => by rw [ix_n (by omega)] at q; rw [i_le, en] at h196; omega) f hO
      · refine xr_iconst (v := nI 1) (n := 200) dL_goes_199 (by decide) rfl ?_
        refine xr_goto (n := 204) dL_goes_200 (by decide) ?_
        exact k204_1 p s hp (by rw [i_lt, Int32.toInt_zero] at h189; rw [i_le, en] at h196; omega) f hO
  have k166 : ∀ p : Nat, p ≤ 1 → ∀ f, OI f z o → xX G (d + 10) mL_goes r r (xΦ G r r Q) 166 [(0, .ref z), (1, .int x), (2, .int w0), (3, .int (nI p))] [.int (nI (oN o p))] (f, r) := by
    intro p hp f hO
    have n60 := hO.2.n60 hp
    refine xr_istore (n := 168) dL_goes_166 rfl rfl ?_
    simp only [xst, Nat.beq, List.filter, Bool.not_true, Bool.not_false]
    refine xr_iload_n (n := 169) dL_goes_168 rfl rfl ?_
    refine xr_iconst (v := nI 3) (n := 170) dL_goes_169 (by decide) rfl ?_
    refine xr_ishr (n := 171) dL_goes_170 rfl ?_
    refine xr_iload (n := 173) dL_goes_171 rfl rfl ?_
    refine xr_callS (y2 := mL_near) (As := [_, _]) (n := 176) dL_goes_173 lm_L_96 pm_L_near kp_static_yL_near rfl rfl (by simp [Value.category]) rfl ⟨Nat.le_refl _, Nat.le_refl _⟩ ?_
    refine s_L_near (by omega) ?_
    dsimp only [xK, xps]
    generalize nearV (w0 >>> (nI 3 &&& 31)) (oN o p) = s
    refine xr_istore (n := 178) dL_goes_176 rfl rfl ?_
    simp only [xst, Nat.beq, List.filter, Bool.not_true, Bool.not_false]
    refine xr_iload_n (n := 179) dL_goes_178 rfl rfl ?_
    refine xr_if_eq (tgt := 187) (n := 182) dL_goes_179 (by decide) rfl (fun h179 => ?_) (fun h179 => ?_)
    · exact k187 p s hp f hO
    · refine xr_iload_n (n := 183) dL_goes_182 rfl rfl ?_
      refine xr_iconst (v := nI 1) (n := 184) dL_goes_183 (by decide) rfl ?_
      refine xr_icmp_ne (tgt := 203) (n := 187) dL_goes_184 (by decide) rfl (fun h184 => by (exfalso; exact h184 (by rw [show p = 1 from by ((try simp (disch := omega) only [i_lt, i_le, i_eq, nt, i_m1, Int32.toInt_zero] at *); omega)]))) (fun h184 => ?_)
      exact k187 p s hp f hO
  have k166b : ∀ p : Int32, ¬ p = 0 → ¬ p = nI 1 → ∀ f, OI f z o → xX G (d + 10) mL_goes r r (xΦ G r r Q) 166 [(0, .ref z), (1, .int x), (2, .int w0), (3, .int p)] [.int (nI 0)] (f, r) := by
    intro p h0 h1 f hO
    refine xr_istore (n := 168) dL_goes_166 rfl rfl ?_
    simp only [xst, Nat.beq, List.filter, Bool.not_true, Bool.not_false]
    refine xr_iload_n (n := 169) dL_goes_168 rfl rfl ?_
    refine xr_iconst (v := nI 3) (n := 170) dL_goes_169 (by decide) rfl ?_
    refine xr_ishr (n := 171) dL_goes_170 rfl ?_
    refine xr_iload (n := 173) dL_goes_171 rfl rfl ?_
    refine xr_callS (y2 := mL_near) (As := [_, _]) (n := 176) dL_goes_173 lm_L_96 pm_L_near kp_static_yL_near rfl rfl (by simp [Value.category]) rfl ⟨Nat.le_refl _, Nat.le_refl _⟩ ?_
    refine s_L_near (by omega) ?_
    dsimp only [xK, xps]
    generalize nearV (w0 >>> (nI 3 &&& 31)) 0 = s
    refine xr_istore (n := 178) dL_goes_176 rfl rfl ?_
    simp only [xst, Nat.beq, List.filter, Bool.not_true, Bool.not_false]
    refine xr_iload_n (n := 179) dL_goes_178 rfl rfl ?_
    refine xr_if_eq (tgt := 187) (n := 182) dL_goes_179 (by decide) rfl (fun h179 => by (exact absurd h179 h0)) (fun h179 => ?_)
    refine xr_iload_n (n := 183) dL_goes_182 rfl rfl ?_
    refine xr_iconst (v := nI 1) (n := 184) dL_goes_183 (by decide) rfl ?_
    refine xr_icmp_ne (tgt := 203) (n := 187) dL_goes_184 (by decide) rfl (fun h184 => ?_) (fun h184 => by (exact absurd h184 h1))
    refine xr_iconst (v := nI 0) (n := 204) dL_goes_203 (by decide) rfl ?_
    exact k204_0 _ _ _ (fun q => by
      obtain ⟨q1, -⟩ := q
      rcases (show p.toInt = 0 ∨ p.toInt = 1 by omega) with e | e
      · exact h0 (by rw [i_eq, e, Int32.toInt_zero])
      · exact h1 (by rw [i_eq, e, nt _ (by omega)]; rfl)) f hO
  refine xr_iload_n (n := 1) dL_goes_0 rfl rfl ?_
  refine xr_bipush (v := nI 7) (n := 3) dL_goes_1 (by decide) rfl ?_
  refine xr_callS (y2 := mL_low) (As := [_, _]) (n := 6) dL_goes_3 lm_L_9 pm_L_low kp_static_yL_low rfl rfl (by simp [Value.category]) rfl ⟨Nat.le_refl _, Nat.le_refl _⟩ ?_
  refine s_L_low (by omega) (by omega) ?_
  dsimp only [xK, xps]
  rcases (show (nI (lo x 7)).toInt < 0 ∨ 5 < (nI (lo x 7)).toInt ∨ (nI (lo x 7)).toInt = 0 ∨ (nI (lo x 7)).toInt = 1 ∨ (nI (lo x 7)).toInt = 2 ∨ (nI (lo x 7)).toInt = 3 ∨ (nI (lo x 7)).toInt = 4 ∨ (nI (lo x 7)).toInt = 5 by omega) with hx | hx | hx | hx | hx | hx | hx | hx
  · refine xr_tableOut (n := 264) dL_goes_6 (Or.inl hx) (by decide) ?_
    have e9 := nt (lo x 7) (by omega)
    exact absurd hx (by omega)
  · refine xr_tableOut (n := 264) dL_goes_6 (Or.inr hx) (by decide) ?_
    refine xr_aload_n (n := 265) dL_goes_264 rfl rfl ?_
    refine xr_iload_n (n := 266) dL_goes_265 rfl rfl ?_
    refine xr_sipush (v := nI 256) (n := 269) dL_goes_266 (by decide) rfl ?_
    refine xr_callS (y2 := mL_near) (As := [_, _]) (n := 272) dL_goes_269 lm_L_96 pm_L_near kp_static_yL_near rfl rfl (by simp [Value.category]) rfl ⟨Nat.le_refl _, Nat.le_refl _⟩ ?_
    refine s_L_near (by omega) ?_
    dsimp only [xK, xps]
    generalize nearV w0 256 = c9
    refine xr_callV (y2 := mX7_append) (As := [_]) (n := 275) dL_goes_272 lm_L_84 pm_X7_append pi_X7_append (by exact Exists.choose_spec hO.z) rfl rfl rfl (by simp [Value.category]) rfl ⟨Nat.le_refl _, Nat.le_refl _⟩ ?_
    refine q_append hO (fun _ => ?_) (fun _ _ => ?_) (fun _ hl f hO => ?_)
    · dsimp only [xK, xps]
      refine xr_if_ge (tgt := 282) (n := 278) dL_goes_275 (by decide) rfl (fun h275 => by (exfalso; rw [i_le, Int32.toInt_zero, e10001] at h275; omega)) (fun h275 => ?_)
      refine xr_iconst (v := (-1)) (n := 279) dL_goes_278 (by decide) rfl ?_
      refine xr_goto (n := 284) dL_goes_279 (by decide) ?_
      refine xr_ireturn dL_goes_284 rfl rfl rfl ?_
      exact hq1 (-1) f (oT o) (oL o) (Or.inl rfl) hO
    · dsimp only [xK, xps]
      refine xr_if_ge (tgt := 282) (n := 278) dL_goes_275 (by decide) rfl (fun h275 => by (exfalso; rw [i_le, Int32.toInt_zero, e10003] at h275; omega)) (fun h275 => ?_)
      refine xr_iconst (v := (-1)) (n := 279) dL_goes_278 (by decide) rfl ?_
      refine xr_goto (n := 284) dL_goes_279 (by decide) ?_
      refine xr_ireturn dL_goes_284 rfl rfl rfl ?_
      exact hq1 (-1) f (oT o) (oL o) (Or.inl rfl) hO
    · dsimp only [xK, xps]
      refine xr_if_ge (tgt := 282) (n := 278) dL_goes_275 (by decide) rfl (fun h275 => ?_) (fun h275 => by (exfalso; rw [i_le, Int32.toInt_zero, nt _ (by omega)] at h275; omega))
      refine xr_bipush (v := (-2)) (n := 284) dL_goes_282 (by decide) rfl ?_
      refine xr_ireturn dL_goes_284 rfl rfl rfl ?_
      exact hq1 (-2) f _ _ (Or.inr rfl) hO
  · refine xr_tableIn (n := 44) (off := 38) dL_goes_6 (by omega) (by omega) (by rw [hx]; rfl) (by decide) ?_
    refine xr_aload_n (n := 45) dL_goes_44 rfl rfl ?_
    refine xr_iload_n (n := 46) dL_goes_45 rfl rfl ?_
    refine xr_iconst (v := nI 3) (n := 47) dL_goes_46 (by decide) rfl ?_
    refine xr_ishr (n := 48) dL_goes_47 rfl ?_
    refine xr_iload_n (n := 49) dL_goes_48 rfl rfl ?_
    refine xr_callS (y2 := mL_reads) (As := [_, _, _]) (n := 52) dL_goes_49 lm_L_102 pm_L_reads kp_static_yL_reads rfl rfl (by simp [Value.category]) rfl ⟨Nat.le_refl _, Nat.le_refl _⟩ ?_
    refine s_L_reads hO (fun f t n hO => ?_) (fun f t n N P hO => ?_)
    · dsimp only [xK, xps]
      refine xr_ireturn dL_goes_52 rfl rfl rfl ?_
      exact hq1 (-1) f t n (Or.inl rfl) hO
    · dsimp only [xK, xps]
      refine xr_ireturn dL_goes_52 rfl rfl rfl ?_
      exact hq f t n N P hO
  · refine xr_tableIn (n := 44) (off := 38) dL_goes_6 (by omega) (by omega) (by rw [hx]; rfl) (by decide) ?_
    refine xr_aload_n (n := 45) dL_goes_44 rfl rfl ?_
    refine xr_iload_n (n := 46) dL_goes_45 rfl rfl ?_
    refine xr_iconst (v := nI 3) (n := 47) dL_goes_46 (by decide) rfl ?_
    refine xr_ishr (n := 48) dL_goes_47 rfl ?_
    refine xr_iload_n (n := 49) dL_goes_48 rfl rfl ?_
    refine xr_callS (y2 := mL_reads) (As := [_, _, _]) (n := 52) dL_goes_49 lm_L_102 pm_L_reads kp_static_yL_reads rfl rfl (by simp [Value.category]) rfl ⟨Nat.le_refl _, Nat.le_refl _⟩ ?_
    refine s_L_reads hO (fun f t n hO => ?_) (fun f t n N P hO => ?_)
    · dsimp only [xK, xps]
      refine xr_ireturn dL_goes_52 rfl rfl rfl ?_
      exact hq1 (-1) f t n (Or.inl rfl) hO
    · dsimp only [xK, xps]
      refine xr_ireturn dL_goes_52 rfl rfl rfl ?_
      exact hq f t n N P hO
  · refine xr_tableIn (n := 44) (off := 38) dL_goes_6 (by omega) (by omega) (by rw [hx]; rfl) (by decide) ?_
    refine xr_aload_n (n := 45) dL_goes_44 rfl rfl ?_
    refine xr_iload_n (n := 46) dL_goes_45 rfl rfl ?_
    refine xr_iconst (v := nI 3) (n := 47) dL_goes_46 (by decide) rfl ?_
    refine xr_ishr (n := 48) dL_goes_47 rfl ?_
    refine xr_iload_n (n := 49) dL_goes_48 rfl rfl ?_
    refine xr_callS (y2 := mL_reads) (As := [_, _, _]) (n := 52) dL_goes_49 lm_L_102 pm_L_reads kp_static_yL_reads rfl rfl (by simp [Value.category]) rfl ⟨Nat.le_refl _, Nat.le_refl _⟩ ?_
    refine s_L_reads hO (fun f t n hO => ?_) (fun f t n N P hO => ?_)
    · dsimp only [xK, xps]
      refine xr_ireturn dL_goes_52 rfl rfl rfl ?_
      exact hq1 (-1) f t n (Or.inl rfl) hO
    · dsimp only [xK, xps]
      refine xr_ireturn dL_goes_52 rfl rfl rfl ?_
      exact hq f t n N P hO
  · refine xr_tableIn (n := 53) (off := 47) dL_goes_6 (by omega) (by omega) (by rw [hx]; rfl) (by decide) ?_
    refine xr_aload_n (n := 54) dL_goes_53 rfl rfl ?_
    refine xr_callV (y2 := mX7_copy) (As := []) (n := 57) dL_goes_54 lm_L_106 pm_X7_copy pi_X7_copy (by exact Exists.choose_spec hO.z) rfl rfl rfl (by simp [Value.category]) rfl ⟨Nat.le_refl _, Nat.le_refl _⟩ ?_
    refine q_copy hO (fun f hO => ?_)
    dsimp only [xK, xps]
    refine xr_aload_n (n := 58) dL_goes_57 rfl rfl ?_
    refine xr_iconst (v := nI 0) (n := 59) dL_goes_58 (by decide) rfl ?_
    refine xr_callV (y2 := mX7_count) (As := [_]) (n := 62) dL_goes_59 lm_L_19 pm_X7_count pi_X7_count (by exact Exists.choose_spec hO.z) rfl rfl rfl (by simp [Value.category]) rfl ⟨Nat.le_refl _, Nat.le_refl _⟩ ?_
    refine q_count hO (by omega) ?_
    dsimp only [xK, xps]
    refine xr_icmp_ne (tgt := 103) (n := 65) dL_goes_62 (by decide) rfl (fun h62 => by (exact absurd rfl h62)) (fun h62 => ?_)
    refine xr_aload_n (n := 66) dL_goes_65 rfl rfl ?_
    refine xr_iload_n (n := 67) dL_goes_66 rfl rfl ?_
    refine xr_bipush (v := nI 9) (n := 69) dL_goes_67 (by decide) rfl ?_
    refine xr_callS (y2 := mL_low) (As := [_, _]) (n := 72) dL_goes_69 lm_L_9 pm_L_low kp_static_yL_low rfl rfl (by simp [Value.category]) rfl ⟨Nat.le_refl _, Nat.le_refl _⟩ ?_
    refine s_L_low (by omega) (by omega) ?_
    dsimp only [xK, xps]
    refine xr_iconst (v := nI 2) (n := 73) dL_goes_72 (by decide) rfl ?_
    refine xr_callV (y2 := mX7_difference) (As := [_, _]) (n := 76) dL_goes_73 lm_L_57 pm_X7_difference pi_X7_difference (by exact Exists.choose_spec hO.z) rfl rfl rfl (by simp [Value.category]) rfl ⟨Nat.le_refl _, Nat.le_refl _⟩ ?_
    refine q_difference hO ⟨by rw [nt _ (by omega)]; omega, by rw [nt _ (by omega)]; omega⟩ (fun f hO => ?_)
    dsimp only [xK, xps]
    refine xr_sipush (v := (-10009)) (n := 79) dL_goes_76 (by decide) rfl ?_
    refine xr_icmp_ne (tgt := 103) (n := 82) dL_goes_79 (by decide) rfl (fun h79 => by (exact absurd (fdv_same _) h79)) (fun h79 => ?_)
    refine xr_aload_n (n := 83) dL_goes_82 rfl rfl ?_
    refine xr_iconst (v := nI 0) (n := 84) dL_goes_83 (by decide) rfl ?_
    refine xr_bipush (v := nI 7) (n := 86) dL_goes_84 (by decide) rfl ?_
    refine xr_callV (y2 := mX7_program) (As := [_, _]) (n := 89) dL_goes_86 lm_L_25 pm_X7_program pi_X7_program (by exact Exists.choose_spec hO.z) rfl rfl rfl (by simp [Value.category]) rfl ⟨Nat.le_refl _, Nat.le_refl _⟩ ?_
    refine q_program hO (by omega) (by omega) ?_
    dsimp only [xK, xps]
    refine xr_aload_n (n := 90) dL_goes_89 rfl rfl ?_
    refine xr_iconst (v := nI 1) (n := 91) dL_goes_90 (by decide) rfl ?_
    refine xr_bipush (v := nI 7) (n := 93) dL_goes_91 (by decide) rfl ?_
    refine xr_callV (y2 := mX7_program) (As := [_, _]) (n := 96) dL_goes_93 lm_L_25 pm_X7_program pi_X7_program (by exact Exists.choose_spec hO.z) rfl rfl rfl (by simp [Value.category]) rfl ⟨Nat.le_refl _, Nat.le_refl _⟩ ?_
    refine q_program hO (by omega) (by omega) ?_
    dsimp only [xK, xps]
    refine xr_icmp_ne (tgt := 103) (n := 99) dL_goes_96 (by decide) rfl (fun h96 => by (exact absurd rfl h96)) (fun h96 => ?_)
    refine xr_iconst (v := nI 0) (n := 100) dL_goes_99 (by decide) rfl ?_
    refine xr_goto (n := 104) dL_goes_100 (by decide) ?_
    refine xr_ireturn dL_goes_104 rfl rfl rfl ?_
    exact hq f (oT o) (oL o) _ _ hO
  · refine xr_tableIn (n := 105) (off := 99) dL_goes_6 (by omega) (by omega) (by rw [hx]; rfl) (by decide) ?_
    refine xr_aload_n (n := 106) dL_goes_105 rfl rfl ?_
    refine xr_iconst (v := nI 0) (n := 107) dL_goes_106 (by decide) rfl ?_
    refine xr_callV (y2 := mX7_count) (As := [_]) (n := 110) dL_goes_107 lm_L_19 pm_X7_count pi_X7_count (by exact Exists.choose_spec hO.z) rfl rfl rfl (by simp [Value.category]) rfl ⟨Nat.le_refl _, Nat.le_refl _⟩ ?_
    refine q_count hO (by omega) ?_
    dsimp only [xK, xps]
    refine xq_istore_n 3 (n := 111) dL_goes_110 rfl rfl rfl ?_
    simp only [xst, Nat.beq, List.filter, Bool.not_true, Bool.not_false]
    refine xr_aload_n (n := 112) dL_goes_111 rfl rfl ?_
    refine xr_iconst (v := nI 1) (n := 113) dL_goes_112 (by decide) rfl ?_
    refine xr_callV (y2 := mX7_count) (As := [_]) (n := 116) dL_goes_113 lm_L_19 pm_X7_count pi_X7_count (by exact Exists.choose_spec hO.z) rfl rfl rfl (by simp [Value.category]) rfl ⟨Nat.le_refl _, Nat.le_refl _⟩ ?_
    refine q_count hO (by omega) ?_
    dsimp only [xK, xps]
    refine xr_istore (n := 118) dL_goes_116 rfl rfl ?_
    simp only [xst, Nat.beq, List.filter, Bool.not_true, Bool.not_false]
    refine xr_aload_n (n := 119) dL_goes_118 rfl rfl ?_
    refine xr_callV (y2 := mX7_exchange) (As := []) (n := 122) dL_goes_119 lm_L_109 pm_X7_exchange pi_X7_exchange (by exact Exists.choose_spec hO.z) rfl rfl rfl (by simp [Value.category]) rfl ⟨Nat.le_refl _, Nat.le_refl _⟩ ?_
    refine q_exchange hO (fun f hO => ?_)
    dsimp only [xK, xps]
    refine xr_iload (n := 124) dL_goes_122 rfl rfl ?_
    refine xr_icmp_ne (tgt := 140) (n := 127) dL_goes_124 (by decide) rfl (fun h124 => by (exact absurd rfl h124)) (fun h124 => ?_)
    refine xr_aload_n (n := 128) dL_goes_127 rfl rfl ?_
    refine xr_iconst (v := nI 1) (n := 129) dL_goes_128 (by decide) rfl ?_
    refine xr_callV (y2 := mX7_count) (As := [_]) (n := 132) dL_goes_129 lm_L_19 pm_X7_count pi_X7_count (by exact Exists.choose_spec hO.z) rfl rfl rfl (by simp [Value.category]) rfl ⟨Nat.le_refl _, Nat.le_refl _⟩ ?_
    refine q_count hO (by omega) ?_
    dsimp only [xK, xps]
    refine xr_iload_n (n := 133) dL_goes_132 rfl rfl ?_
    refine xr_icmp_ne (tgt := 140) (n := 136) dL_goes_133 (by decide) rfl (fun h133 => by (exact absurd rfl h133)) (fun h133 => ?_)
    refine xr_iconst (v := nI 0) (n := 137) dL_goes_136 (by decide) rfl ?_
    refine xr_goto (n := 141) dL_goes_137 (by decide) ?_
    refine xr_ireturn dL_goes_141 rfl rfl rfl ?_
    exact hq f (oT o) (oL o) _ _ hO
  · refine xr_tableIn (n := 142) (off := 136) dL_goes_6 (by omega) (by omega) (by rw [hx]; rfl) (by decide) ?_
    refine xr_iload_n (n := 143) dL_goes_142 rfl rfl ?_
    refine xr_iconst (v := nI 2) (n := 144) dL_goes_143 (by decide) rfl ?_
    refine xr_callS (y2 := mL_near) (As := [_, _]) (n := 147) dL_goes_144 lm_L_96 pm_L_near kp_static_yL_near rfl rfl (by simp [Value.category]) rfl ⟨Nat.le_refl _, Nat.le_refl _⟩ ?_
    refine s_L_near (by omega) ?_
    dsimp only [xK, xps]
    generalize nearV w0 2 = p
    refine xq_istore_n 3 (n := 148) dL_goes_147 rfl rfl rfl ?_
    simp only [xst, Nat.beq, List.filter, Bool.not_true, Bool.not_false]
    refine xr_iload_n (n := 149) dL_goes_148 rfl rfl ?_
    refine xr_if_eq (tgt := 157) (n := 152) dL_goes_149 (by decide) rfl (fun h149 => ?_) (fun h149 => ?_)
    · have hp0 : p = nI 0 := h149.trans nI_0.symm
      subst hp0
      refine xr_aload_n (n := 158) dL_goes_157 rfl rfl ?_
      refine xr_iload_n (n := 159) dL_goes_158 rfl rfl ?_
      refine xr_callV (y2 := mX7_count) (As := [_]) (n := 162) dL_goes_159 lm_L_19 pm_X7_count pi_X7_count (by exact Exists.choose_spec hO.z) rfl rfl rfl (by simp [Value.category]) rfl ⟨Nat.le_refl _, Nat.le_refl _⟩ ?_
      refine q_count hO (by omega) ?_
      dsimp only [xK, xps]
      refine xr_goto (n := 166) dL_goes_162 (by decide) ?_
      exact k166 0 (by omega) f hO
    · refine xr_iload_n (n := 153) dL_goes_152 rfl rfl ?_
      refine xr_iconst (v := nI 1) (n := 154) dL_goes_153 (by decide) rfl ?_
      refine xr_icmp_ne (tgt := 165) (n := 157) dL_goes_154 (by decide) rfl (fun h154 => ?_) (fun h154 => ?_)
      · refine xr_iconst (v := nI 0) (n := 166) dL_goes_165 (by decide) rfl ?_
        exact k166b _ h149 h154 f hO
      · have hp1 : p = nI 1 := h154
        subst hp1
        refine xr_aload_n (n := 158) dL_goes_157 rfl rfl ?_
        refine xr_iload_n (n := 159) dL_goes_158 rfl rfl ?_
        refine xr_callV (y2 := mX7_count) (As := [_]) (n := 162) dL_goes_159 lm_L_19 pm_X7_count pi_X7_count (by exact Exists.choose_spec hO.z) rfl rfl rfl (by simp [Value.category]) rfl ⟨Nat.le_refl _, Nat.le_refl _⟩ ?_
        refine q_count hO (by omega) ?_
        dsimp only [xK, xps]
        refine xr_goto (n := 166) dL_goes_162 (by decide) ?_
        exact k166 1 (by omega) f hO

