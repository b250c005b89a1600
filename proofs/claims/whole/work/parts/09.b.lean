/-! THE LAW's loop -/
theorem law_loop {G : xG} {nm : String} {b L z m : Nat} {sc : Nat → Int32} {r0 r : Nat × Nat} (hL : L ≤ 3072) (hm : z + 187 ≤ m) (hlim : r.1 - r0.1 ≤ 600000 ∧ r.2 - r0.2 ≤ 7302250) : ∀ (g i : Nat) (F : Nat → xC), L - i ≤ g → i ≤ L → BR F z m → xX G 10 (mLw nm) r0 r (xΦL G b L sc) 18 [(0, .ref b), (1, .ref z), (2, .ref m), (3, .int (nI i))] [] (F, r) := by
  intro g
  induction g with
  | zero =>
    intro i F hg hi hB
    have hLi : (nI L - nI 6).toInt = (L : Int) - 6 := pk_sub_toInt (by omega) (by omega)
    have hin : (nI i).toInt = (i : Int) := nt i (by omega)
    refine xr_iload_n (n := 19) dL_law_18 rfl rfl ?_
    refine xr_aload_n (n := 20) dL_law_19 rfl rfl ?_
    refine xl_slen (n := 21) dL_law_20 rfl ?_
    refine xr_bipush (v := nI 6) (n := 23) dL_law_21 (by decide) rfl ?_
    refine xr_isub (n := 24) dL_law_23 rfl ?_
    (first | (simp (disch := omega) only [nI_clamp, pk_mul, nI_add, oi1, up2_ss, up2_n, up2_sn, ur_s, ur_n, Nat.reduceMul, Nat.reduceAdd, Nat.add_zero]) | skip)
    refine xr_icmp_gt (tgt := 690) (n := 27) dL_law_24 (by decide) rfl (fun h24 => ?_) (fun h24 => by (rw [i_lt, hLi, hin] at h24; omega))
    refine xr_iconst (v := 1) (n := 691) dL_law_690 (by decide) rfl ?_
    exact xl_ret dL_law_691 hlim
  | succ g ih =>
    intro i F hg hi hB
    have hLi : (nI L - nI 6).toInt = (L : Int) - 6 := pk_sub_toInt (by omega) (by omega)
    have hin : (nI i).toInt = (i : Int) := nt i (by omega)
    obtain ⟨fs7, hz7⟩ := hB.z
    refine xr_iload_n (n := 19) dL_law_18 rfl rfl ?_
    refine xr_aload_n (n := 20) dL_law_19 rfl rfl ?_
    refine xl_slen (n := 21) dL_law_20 rfl ?_
    refine xr_bipush (v := nI 6) (n := 23) dL_law_21 (by decide) rfl ?_
    refine xr_isub (n := 24) dL_law_23 rfl ?_
    (first | (simp (disch := omega) only [nI_clamp, pk_mul, nI_add, oi1, up2_ss, up2_n, up2_sn, ur_s, ur_n, Nat.reduceMul, Nat.reduceAdd, Nat.add_zero]) | skip)
    refine xr_icmp_gt (tgt := 690) (n := 27) dL_law_24 (by decide) rfl (fun h24 => ?_) (fun h24 => ?_)
    · refine xr_iconst (v := 1) (n := 691) dL_law_690 (by decide) rfl ?_
      exact xl_ret dL_law_691 hlim
    · have hi6 : i + 6 ≤ L := by rw [i_lt, hLi, hin] at h24; omega
      refine xr_aload_n (n := 28) dL_law_27 rfl rfl ?_
      refine xr_iload_n (n := 29) dL_law_28 rfl rfl ?_
      refine xl_sld (n := 30) dL_law_29 (by first | exact vp_in_nI (by omega) (by omega)) rfl ?_
      rw [nI_clamp (by omega)]
      refine xr_bipush (v := nI 31) (n := 32) dL_law_30 (by decide) rfl ?_
      refine xr_iand (n := 33) dL_law_32 rfl ?_
      generalize sc i &&& nI 31 = w
      rcases (show w.toInt < 0 ∨ 17 < w.toInt ∨ w.toInt = 0 ∨ w.toInt = 1 ∨ w.toInt = 2 ∨ w.toInt = 3 ∨ w.toInt = 4 ∨ w.toInt = 5 ∨ w.toInt = 6 ∨ w.toInt = 7 ∨ w.toInt = 8 ∨ w.toInt = 9 ∨ w.toInt = 10 ∨ w.toInt = 11 ∨ w.toInt = 12 ∨ w.toInt = 13 ∨ w.toInt = 14 ∨ w.toInt = 15 ∨ w.toInt = 16 ∨ w.toInt = 17 by omega) with hx | hx | hx | hx | hx | hx | hx | hx | hx | hx | hx | hx | hx | hx | hx | hx | hx | hx | hx | hx
      · refine xr_tableOut (n := 684) dL_law_33 (Or.inl hx) (by decide) ?_
        refine xr_iinc (n := 687) dL_law_684 rfl rfl (rfl) rfl ?_
        simp only [xst, Nat.beq, List.filter, Bool.not_true, Bool.not_false]
        rw [show (Int32.ofInt 6) = nI 6 from rfl, nI_add]
        refine xr_goto (n := 18) dL_law_687 (by decide) ?_
        exact ih (i + 6) F (by omega) (by omega) hB
      · refine xr_tableOut (n := 684) dL_law_33 (Or.inr hx) (by decide) ?_
        refine xr_iinc (n := 687) dL_law_684 rfl rfl (rfl) rfl ?_
        simp only [xst, Nat.beq, List.filter, Bool.not_true, Bool.not_false]
        rw [show (Int32.ofInt 6) = nI 6 from rfl, nI_add]
        refine xr_goto (n := 18) dL_law_687 (by decide) ?_
        exact ih (i + 6) F (by omega) (by omega) hB
      · refine xr_tableIn (n := 120) (off := 87) dL_law_33 (by omega) (by omega) (by rw [hx]; rfl) (by decide) ?_
        obtain ⟨v, T, h7, h8⟩ := j_append (G := G) (r := r) (c := sc (i + 1)) hB hm
        refine xr_aload_n (n := 121) dL_law_120 rfl rfl ?_
        refine xr_aload_n (n := 122) dL_law_121 rfl rfl ?_
        refine xr_iload_n (n := 123) dL_law_122 rfl rfl ?_
        refine xr_iconst (v := nI 1) (n := 124) dL_law_123 (by decide) rfl ?_
        refine xr_iadd (n := 125) dL_law_124 rfl ?_
        rw [nI_add]
        refine xl_sld (n := 126) dL_law_125 (by first | exact vp_in_nI (by omega) (by omega)) rfl ?_
        rw [nI_clamp (by omega)]
        refine xr_callV (y2 := mX7_append) (As := [_]) (n := 129) dL_law_126 lm_L_13 pm_X7_append pi_X7_append (by first | exact hz7 | exact hm8) rfl rfl rfl (by simp [Value.category]) rfl ⟨Nat.le_refl _, Nat.le_refl _⟩ ?_
        refine h7 _ (fun F1 hT => ?_)
        obtain ⟨⟨fs8, hm8⟩, h9⟩ := h8 F1 hT
        dsimp only [xK, xps]
        refine xr_aload_n (n := 130) dL_law_129 rfl rfl ?_
        refine xr_aload_n (n := 131) dL_law_130 rfl rfl ?_
        refine xr_iload_n (n := 132) dL_law_131 rfl rfl ?_
        refine xr_iconst (v := nI 1) (n := 133) dL_law_132 (by decide) rfl ?_
        refine xr_iadd (n := 134) dL_law_133 rfl ?_
        rw [nI_add]
        refine xl_sld (n := 135) dL_law_134 (by first | exact vp_in_nI (by omega) (by omega)) rfl ?_
        rw [nI_clamp (by omega)]
        refine xr_callV (y2 := mX8_append) (As := [_]) (n := 138) dL_law_135 lm_L_17 pm_X8_append pi_X8_append (by first | exact hz7 | exact hm8) rfl rfl rfl (by simp [Value.category]) rfl ⟨Nat.le_refl _, Nat.le_refl _⟩ ?_
        refine h9 _ (fun F2 hB2 => ?_)
        dsimp only [xK, xps]
        refine xr_icmp_eq (tgt := 684) (n := 141) dL_law_138 (by decide) rfl (fun h138 => ?_) (fun h138 => by (exact absurd rfl h138))
        refine xr_iinc (n := 687) dL_law_684 rfl rfl (rfl) rfl ?_
        simp only [xst, Nat.beq, List.filter, Bool.not_true, Bool.not_false]
        rw [show (Int32.ofInt 6) = nI 6 from rfl, nI_add]
        refine xr_goto (n := 18) dL_law_687 (by decide) ?_
        exact ih (i + 6) F2 (by omega) (by omega) hB2
      · refine xr_tableIn (n := 143) (off := 110) dL_law_33 (by omega) (by omega) (by rw [hx]; rfl) (by decide) ?_
        obtain ⟨v, T, h7, h8⟩ := j_clearText (G := G) (r := r) hB hm
        refine xr_aload_n (n := 144) dL_law_143 rfl rfl ?_
        refine xr_callV (y2 := mX7_clearText) (As := []) (n := 147) dL_law_144 lm_L_18 pm_X7_clearText pi_X7_clearText (by first | exact hz7 | exact hm8) rfl rfl rfl (by simp [Value.category]) rfl ⟨Nat.le_refl _, Nat.le_refl _⟩ ?_
        refine h7 _ (fun F1 hT => ?_)
        obtain ⟨⟨fs8, hm8⟩, h9⟩ := h8 F1 hT
        dsimp only [xK, xps]
        refine xr_aload_n (n := 148) dL_law_147 rfl rfl ?_
        refine xr_callV (y2 := mX8_clearText) (As := []) (n := 151) dL_law_148 lm_L_22 pm_X8_clearText pi_X8_clearText (by first | exact hz7 | exact hm8) rfl rfl rfl (by simp [Value.category]) rfl ⟨Nat.le_refl _, Nat.le_refl _⟩ ?_
        refine h9 _ (fun F2 hB2 => ?_)
        dsimp only [xK, xps]
        refine xr_icmp_eq (tgt := 684) (n := 154) dL_law_151 (by decide) rfl (fun h151 => ?_) (fun h151 => by (exact absurd rfl h151))
        refine xr_iinc (n := 687) dL_law_684 rfl rfl (rfl) rfl ?_
        simp only [xst, Nat.beq, List.filter, Bool.not_true, Bool.not_false]
        rw [show (Int32.ofInt 6) = nI 6 from rfl, nI_add]
        refine xr_goto (n := 18) dL_law_687 (by decide) ?_
        exact ih (i + 6) F2 (by omega) (by omega) hB2
      · refine xr_tableIn (n := 156) (off := 123) dL_law_33 (by omega) (by omega) (by rw [hx]; rfl) (by decide) ?_
        obtain ⟨v, T, h7, h8⟩ := j_read (G := G) (r := r) (p := sc (i + 1)) hB hm
        refine xr_aload_n (n := 157) dL_law_156 rfl rfl ?_
        refine xr_aload_n (n := 158) dL_law_157 rfl rfl ?_
        refine xr_iload_n (n := 159) dL_law_158 rfl rfl ?_
        refine xr_iconst (v := nI 1) (n := 160) dL_law_159 (by decide) rfl ?_
        refine xr_iadd (n := 161) dL_law_160 rfl ?_
        rw [nI_add]
        refine xl_sld (n := 162) dL_law_161 (by first | exact vp_in_nI (by omega) (by omega)) rfl ?_
        rw [nI_clamp (by omega)]
        refine xr_callV (y2 := mX7_read) (As := [_]) (n := 165) dL_law_162 lm_L_23 pm_X7_read pi_X7_read (by first | exact hz7 | exact hm8) rfl rfl rfl (by simp [Value.category]) rfl ⟨Nat.le_refl _, Nat.le_refl _⟩ ?_
        refine h7 _ (fun F1 hT => ?_)
        obtain ⟨⟨fs8, hm8⟩, h9⟩ := h8 F1 hT
        dsimp only [xK, xps]
        refine xr_aload_n (n := 166) dL_law_165 rfl rfl ?_
        refine xr_aload_n (n := 167) dL_law_166 rfl rfl ?_
        refine xr_iload_n (n := 168) dL_law_167 rfl rfl ?_
        refine xr_iconst (v := nI 1) (n := 169) dL_law_168 (by decide) rfl ?_
        refine xr_iadd (n := 170) dL_law_169 rfl ?_
        rw [nI_add]
        refine xl_sld (n := 171) dL_law_170 (by first | exact vp_in_nI (by omega) (by omega)) rfl ?_
        rw [nI_clamp (by omega)]
        refine xr_callV (y2 := mX8_read) (As := [_]) (n := 174) dL_law_171 lm_L_26 pm_X8_read pi_X8_read (by first | exact hz7 | exact hm8) rfl rfl rfl (by simp [Value.category]) rfl ⟨Nat.le_refl _, Nat.le_refl _⟩ ?_
        refine h9 _ (fun F2 hB2 => ?_)
        dsimp only [xK, xps]
        refine xr_icmp_eq (tgt := 684) (n := 177) dL_law_174 (by decide) rfl (fun h174 => ?_) (fun h174 => by (exact absurd rfl h174))
        refine xr_iinc (n := 687) dL_law_684 rfl rfl (rfl) rfl ?_
        simp only [xst, Nat.beq, List.filter, Bool.not_true, Bool.not_false]
        rw [show (Int32.ofInt 6) = nI 6 from rfl, nI_add]
        refine xr_goto (n := 18) dL_law_687 (by decide) ?_
        exact ih (i + 6) F2 (by omega) (by omega) hB2
      · refine xr_tableIn (n := 179) (off := 146) dL_law_33 (by omega) (by omega) (by rw [hx]; rfl) (by decide) ?_
        obtain ⟨v, T, h7, h8⟩ := j_copy (G := G) (r := r) hB hm
        refine xr_aload_n (n := 180) dL_law_179 rfl rfl ?_
        refine xr_callV (y2 := mX7_copy) (As := []) (n := 183) dL_law_180 lm_L_27 pm_X7_copy pi_X7_copy (by first | exact hz7 | exact hm8) rfl rfl rfl (by simp [Value.category]) rfl ⟨Nat.le_refl _, Nat.le_refl _⟩ ?_
        refine h7 _ (fun F1 hT => ?_)
        obtain ⟨⟨fs8, hm8⟩, h9⟩ := h8 F1 hT
        dsimp only [xK, xps]
        refine xr_aload_n (n := 184) dL_law_183 rfl rfl ?_
        refine xr_callV (y2 := mX8_copy) (As := []) (n := 187) dL_law_184 lm_L_30 pm_X8_copy pi_X8_copy (by first | exact hz7 | exact hm8) rfl rfl rfl (by simp [Value.category]) rfl ⟨Nat.le_refl _, Nat.le_refl _⟩ ?_
        refine h9 _ (fun F2 hB2 => ?_)
        dsimp only [xK, xps]
        refine xr_icmp_eq (tgt := 684) (n := 190) dL_law_187 (by decide) rfl (fun h187 => ?_) (fun h187 => by (exact absurd rfl h187))
        refine xr_iinc (n := 687) dL_law_684 rfl rfl (rfl) rfl ?_
        simp only [xst, Nat.beq, List.filter, Bool.not_true, Bool.not_false]
        rw [show (Int32.ofInt 6) = nI 6 from rfl, nI_add]
        refine xr_goto (n := 18) dL_law_687 (by decide) ?_
        exact ih (i + 6) F2 (by omega) (by omega) hB2
      · refine xr_tableIn (n := 192) (off := 159) dL_law_33 (by omega) (by omega) (by rw [hx]; rfl) (by decide) ?_
        obtain ⟨v, T, h7, h8⟩ := j_exchange (G := G) (r := r) hB hm
        refine xr_aload_n (n := 193) dL_law_192 rfl rfl ?_
        refine xr_callV (y2 := mX7_exchange) (As := []) (n := 196) dL_law_193 lm_L_31 pm_X7_exchange pi_X7_exchange (by first | exact hz7 | exact hm8) rfl rfl rfl (by simp [Value.category]) rfl ⟨Nat.le_refl _, Nat.le_refl _⟩ ?_
        refine h7 _ (fun F1 hT => ?_)
        obtain ⟨⟨fs8, hm8⟩, h9⟩ := h8 F1 hT
        dsimp only [xK, xps]
        refine xr_aload_n (n := 197) dL_law_196 rfl rfl ?_
        refine xr_callV (y2 := mX8_exchange) (As := []) (n := 200) dL_law_197 lm_L_34 pm_X8_exchange pi_X8_exchange (by first | exact hz7 | exact hm8) rfl rfl rfl (by simp [Value.category]) rfl ⟨Nat.le_refl _, Nat.le_refl _⟩ ?_
        refine h9 _ (fun F2 hB2 => ?_)
        dsimp only [xK, xps]
        refine xr_icmp_eq (tgt := 684) (n := 203) dL_law_200 (by decide) rfl (fun h200 => ?_) (fun h200 => by (exact absurd rfl h200))
        refine xr_iinc (n := 687) dL_law_684 rfl rfl (rfl) rfl ?_
        simp only [xst, Nat.beq, List.filter, Bool.not_true, Bool.not_false]
        rw [show (Int32.ofInt 6) = nI 6 from rfl, nI_add]
        refine xr_goto (n := 18) dL_law_687 (by decide) ?_
        exact ih (i + 6) F2 (by omega) (by omega) hB2
      · refine xr_tableIn (n := 205) (off := 172) dL_law_33 (by omega) (by omega) (by rw [hx]; rfl) (by decide) ?_
        obtain ⟨v, T, h7, h8⟩ := j_cut (G := G) (r := r) (p := sc (i + 1)) (s := sc (i + 2)) hB hm
        refine xr_aload_n (n := 206) dL_law_205 rfl rfl ?_
        refine xr_aload_n (n := 207) dL_law_206 rfl rfl ?_
        refine xr_iload_n (n := 208) dL_law_207 rfl rfl ?_
        refine xr_iconst (v := nI 1) (n := 209) dL_law_208 (by decide) rfl ?_
        refine xr_iadd (n := 210) dL_law_209 rfl ?_
        rw [nI_add]
        refine xl_sld (n := 211) dL_law_210 (by first | exact vp_in_nI (by omega) (by omega)) rfl ?_
        rw [nI_clamp (by omega)]
        refine xr_aload_n (n := 212) dL_law_211 rfl rfl ?_
        refine xr_iload_n (n := 213) dL_law_212 rfl rfl ?_
        refine xr_iconst (v := nI 2) (n := 214) dL_law_213 (by decide) rfl ?_
        refine xr_iadd (n := 215) dL_law_214 rfl ?_
        rw [nI_add]
        refine xl_sld (n := 216) dL_law_215 (by first | exact vp_in_nI (by omega) (by omega)) rfl ?_
        rw [nI_clamp (by omega)]
        refine xr_callV (y2 := mX7_cut) (As := [_, _]) (n := 219) dL_law_216 lm_L_35 pm_X7_cut pi_X7_cut (by first | exact hz7 | exact hm8) rfl rfl rfl (by simp [Value.category]) rfl ⟨Nat.le_refl _, Nat.le_refl _⟩ ?_
        refine h7 _ (fun F1 hT => ?_)
        obtain ⟨⟨fs8, hm8⟩, h9⟩ := h8 F1 hT
        dsimp only [xK, xps]
        refine xr_aload_n (n := 220) dL_law_219 rfl rfl ?_
        refine xr_aload_n (n := 221) dL_law_220 rfl rfl ?_
        refine xr_iload_n (n := 222) dL_law_221 rfl rfl ?_
        refine xr_iconst (v := nI 1) (n := 223) dL_law_222 (by decide) rfl ?_
        refine xr_iadd (n := 224) dL_law_223 rfl ?_
        rw [nI_add]
        refine xl_sld (n := 225) dL_law_224 (by first | exact vp_in_nI (by omega) (by omega)) rfl ?_
        rw [nI_clamp (by omega)]
        refine xr_aload_n (n := 226) dL_law_225 rfl rfl ?_
        refine xr_iload_n (n := 227) dL_law_226 rfl rfl ?_
        refine xr_iconst (v := nI 2) (n := 228) dL_law_227 (by decide) rfl ?_
        refine xr_iadd (n := 229) dL_law_228 rfl ?_
        rw [nI_add]
        refine xl_sld (n := 230) dL_law_229 (by first | exact vp_in_nI (by omega) (by omega)) rfl ?_
        rw [nI_clamp (by omega)]
        refine xr_callV (y2 := mX8_cut) (As := [_, _]) (n := 233) dL_law_230 lm_L_39 pm_X8_cut pi_X8_cut (by first | exact hz7 | exact hm8) rfl rfl rfl (by simp [Value.category]) rfl ⟨Nat.le_refl _, Nat.le_refl _⟩ ?_
        refine h9 _ (fun F2 hB2 => ?_)
        dsimp only [xK, xps]
        refine xr_icmp_eq (tgt := 684) (n := 236) dL_law_233 (by decide) rfl (fun h233 => ?_) (fun h233 => by (exact absurd rfl h233))
        refine xr_iinc (n := 687) dL_law_684 rfl rfl (rfl) rfl ?_
        simp only [xst, Nat.beq, List.filter, Bool.not_true, Bool.not_false]
        rw [show (Int32.ofInt 6) = nI 6 from rfl, nI_add]
        refine xr_goto (n := 18) dL_law_687 (by decide) ?_
        exact ih (i + 6) F2 (by omega) (by omega) hB2
      · refine xr_tableIn (n := 238) (off := 205) dL_law_33 (by omega) (by omega) (by rw [hx]; rfl) (by decide) ?_
        obtain ⟨v, T, h7, h8⟩ := j_undo (G := G) (r := r) hB hm
        refine xr_aload_n (n := 239) dL_law_238 rfl rfl ?_
        refine xr_callV (y2 := mX7_undo) (As := []) (n := 242) dL_law_239 lm_L_40 pm_X7_undo pi_X7_undo (by first | exact hz7 | exact hm8) rfl rfl rfl (by simp [Value.category]) rfl ⟨Nat.le_refl _, Nat.le_refl _⟩ ?_
        refine h7 _ (fun F1 hT => ?_)
        obtain ⟨⟨fs8, hm8⟩, h9⟩ := h8 F1 hT
        dsimp only [xK, xps]
        refine xr_aload_n (n := 243) dL_law_242 rfl rfl ?_
        refine xr_callV (y2 := mX8_undo) (As := []) (n := 246) dL_law_243 lm_L_43 pm_X8_undo pi_X8_undo (by first | exact hz7 | exact hm8) rfl rfl rfl (by simp [Value.category]) rfl ⟨Nat.le_refl _, Nat.le_refl _⟩ ?_
        refine h9 _ (fun F2 hB2 => ?_)
        dsimp only [xK, xps]
        refine xr_icmp_eq (tgt := 684) (n := 249) dL_law_246 (by decide) rfl (fun h246 => ?_) (fun h246 => by (exact absurd rfl h246))
        refine xr_iinc (n := 687) dL_law_684 rfl rfl (rfl) rfl ?_
        simp only [xst, Nat.beq, List.filter, Bool.not_true, Bool.not_false]
        rw [show (Int32.ofInt 6) = nI 6 from rfl, nI_add]
        refine xr_goto (n := 18) dL_law_687 (by decide) ?_
        exact ih (i + 6) F2 (by omega) (by omega) hB2
      · refine xr_tableIn (n := 251) (off := 218) dL_law_33 (by omega) (by omega) (by rw [hx]; rfl) (by decide) ?_
        obtain ⟨v, T, h7, h8⟩ := j_count (G := G) (r := r) (w := sc (i + 1)) hB hm
        refine xr_aload_n (n := 252) dL_law_251 rfl rfl ?_
        refine xr_aload_n (n := 253) dL_law_252 rfl rfl ?_
        refine xr_iload_n (n := 254) dL_law_253 rfl rfl ?_
        refine xr_iconst (v := nI 1) (n := 255) dL_law_254 (by decide) rfl ?_
        refine xr_iadd (n := 256) dL_law_255 rfl ?_
        rw [nI_add]
        refine xl_sld (n := 257) dL_law_256 (by first | exact vp_in_nI (by omega) (by omega)) rfl ?_
        rw [nI_clamp (by omega)]
        refine xr_callV (y2 := mX7_count) (As := [_]) (n := 260) dL_law_257 lm_L_44 pm_X7_count pi_X7_count (by first | exact hz7 | exact hm8) rfl rfl rfl (by simp [Value.category]) rfl ⟨Nat.le_refl _, Nat.le_refl _⟩ ?_
        refine h7 _ (fun F1 hT => ?_)
        obtain ⟨⟨fs8, hm8⟩, h9⟩ := h8 F1 hT
        dsimp only [xK, xps]
        refine xr_aload_n (n := 261) dL_law_260 rfl rfl ?_
        refine xr_aload_n (n := 262) dL_law_261 rfl rfl ?_
        refine xr_iload_n (n := 263) dL_law_262 rfl rfl ?_
        refine xr_iconst (v := nI 1) (n := 264) dL_law_263 (by decide) rfl ?_
        refine xr_iadd (n := 265) dL_law_264 rfl ?_
        rw [nI_add]
        refine xl_sld (n := 266) dL_law_265 (by first | exact vp_in_nI (by omega) (by omega)) rfl ?_
        rw [nI_clamp (by omega)]
        refine xr_callV (y2 := mX8_count) (As := [_]) (n := 269) dL_law_266 lm_L_47 pm_X8_count pi_X8_count (by first | exact hz7 | exact hm8) rfl rfl rfl (by simp [Value.category]) rfl ⟨Nat.le_refl _, Nat.le_refl _⟩ ?_
        refine h9 _ (fun F2 hB2 => ?_)
        dsimp only [xK, xps]
        refine xr_icmp_eq (tgt := 684) (n := 272) dL_law_269 (by decide) rfl (fun h269 => ?_) (fun h269 => by (exact absurd rfl h269))
        refine xr_iinc (n := 687) dL_law_684 rfl rfl (rfl) rfl ?_
        simp only [xst, Nat.beq, List.filter, Bool.not_true, Bool.not_false]
        rw [show (Int32.ofInt 6) = nI 6 from rfl, nI_add]
        refine xr_goto (n := 18) dL_law_687 (by decide) ?_
        exact ih (i + 6) F2 (by omega) (by omega) hB2
      · refine xr_tableIn (n := 274) (off := 241) dL_law_33 (by omega) (by omega) (by rw [hx]; rfl) (by decide) ?_
        obtain ⟨v, T, h7, h8⟩ := j_program (G := G) (r := r) (p := sc (i + 1)) (w := sc (i + 2)) hB hm
        refine xr_aload_n (n := 275) dL_law_274 rfl rfl ?_
        refine xr_aload_n (n := 276) dL_law_275 rfl rfl ?_
        refine xr_iload_n (n := 277) dL_law_276 rfl rfl ?_
        refine xr_iconst (v := nI 1) (n := 278) dL_law_277 (by decide) rfl ?_
        refine xr_iadd (n := 279) dL_law_278 rfl ?_
        rw [nI_add]
        refine xl_sld (n := 280) dL_law_279 (by first | exact vp_in_nI (by omega) (by omega)) rfl ?_
        rw [nI_clamp (by omega)]
        refine xr_aload_n (n := 281) dL_law_280 rfl rfl ?_
        refine xr_iload_n (n := 282) dL_law_281 rfl rfl ?_
        refine xr_iconst (v := nI 2) (n := 283) dL_law_282 (by decide) rfl ?_
        refine xr_iadd (n := 284) dL_law_283 rfl ?_
        rw [nI_add]
        refine xl_sld (n := 285) dL_law_284 (by first | exact vp_in_nI (by omega) (by omega)) rfl ?_
        rw [nI_clamp (by omega)]
        refine xr_callV (y2 := mX7_program) (As := [_, _]) (n := 288) dL_law_285 lm_L_48 pm_X7_program pi_X7_program (by first | exact hz7 | exact hm8) rfl rfl rfl (by simp [Value.category]) rfl ⟨Nat.le_refl _, Nat.le_refl _⟩ ?_
        refine h7 _ (fun F1 hT => ?_)
        obtain ⟨⟨fs8, hm8⟩, h9⟩ := h8 F1 hT
        dsimp only [xK, xps]
        refine xr_aload_n (n := 289) dL_law_288 rfl rfl ?_
        refine xr_aload_n (n := 290) dL_law_289 rfl rfl ?_
        refine xr_iload_n (n := 291) dL_law_290 rfl rfl ?_
        refine xr_iconst (v := nI 1) (n := 292) dL_law_291 (by decide) rfl ?_
        refine xr_iadd (n := 293) dL_law_292 rfl ?_
        rw [nI_add]
        refine xl_sld (n := 294) dL_law_293 (by first | exact vp_in_nI (by omega) (by omega)) rfl ?_
        rw [nI_clamp (by omega)]
        refine xr_aload_n (n := 295) dL_law_294 rfl rfl ?_
        refine xr_iload_n (n := 296) dL_law_295 rfl rfl ?_
        refine xr_iconst (v := nI 2) (n := 297) dL_law_296 (by decide) rfl ?_
        refine xr_iadd (n := 298) dL_law_297 rfl ?_
        rw [nI_add]
        refine xl_sld (n := 299) dL_law_298 (by first | exact vp_in_nI (by omega) (by omega)) rfl ?_
        rw [nI_clamp (by omega)]
        refine xr_callV (y2 := mX8_program) (As := [_, _]) (n := 302) dL_law_299 lm_L_51 pm_X8_program pi_X8_program (by first | exact hz7 | exact hm8) rfl rfl rfl (by simp [Value.category]) rfl ⟨Nat.le_refl _, Nat.le_refl _⟩ ?_
        refine h9 _ (fun F2 hB2 => ?_)
        dsimp only [xK, xps]
        refine xr_icmp_eq (tgt := 684) (n := 305) dL_law_302 (by decide) rfl (fun h302 => ?_) (fun h302 => by (exact absurd rfl h302))
        refine xr_iinc (n := 687) dL_law_684 rfl rfl (rfl) rfl ?_
        simp only [xst, Nat.beq, List.filter, Bool.not_true, Bool.not_false]
        rw [show (Int32.ofInt 6) = nI 6 from rfl, nI_add]
        refine xr_goto (n := 18) dL_law_687 (by decide) ?_
        exact ih (i + 6) F2 (by omega) (by omega) hB2
      · refine xr_tableIn (n := 307) (off := 274) dL_law_33 (by omega) (by omega) (by rw [hx]; rfl) (by decide) ?_
        obtain ⟨v, T, h7, h8⟩ := j_run (G := G) (r := r) (p := sc (i + 1)) (a := sc (i + 2)) (b := sc (i + 3)) (w := sc (i + 4)) hB hm
        refine xr_aload_n (n := 308) dL_law_307 rfl rfl ?_
        refine xr_aload_n (n := 309) dL_law_308 rfl rfl ?_
        refine xr_iload_n (n := 310) dL_law_309 rfl rfl ?_
        refine xr_iconst (v := nI 1) (n := 311) dL_law_310 (by decide) rfl ?_
        refine xr_iadd (n := 312) dL_law_311 rfl ?_
        rw [nI_add]
        refine xl_sld (n := 313) dL_law_312 (by first | exact vp_in_nI (by omega) (by omega)) rfl ?_
        rw [nI_clamp (by omega)]
        refine xr_aload_n (n := 314) dL_law_313 rfl rfl ?_
        refine xr_iload_n (n := 315) dL_law_314 rfl rfl ?_
        refine xr_iconst (v := nI 2) (n := 316) dL_law_315 (by decide) rfl ?_
        refine xr_iadd (n := 317) dL_law_316 rfl ?_
        rw [nI_add]
        refine xl_sld (n := 318) dL_law_317 (by first | exact vp_in_nI (by omega) (by omega)) rfl ?_
        rw [nI_clamp (by omega)]
        refine xr_aload_n (n := 319) dL_law_318 rfl rfl ?_
        refine xr_iload_n (n := 320) dL_law_319 rfl rfl ?_
        refine xr_iconst (v := nI 3) (n := 321) dL_law_320 (by decide) rfl ?_
        refine xr_iadd (n := 322) dL_law_321 rfl ?_
        rw [nI_add]
        refine xl_sld (n := 323) dL_law_322 (by first | exact vp_in_nI (by omega) (by omega)) rfl ?_
        rw [nI_clamp (by omega)]
        refine xr_aload_n (n := 324) dL_law_323 rfl rfl ?_
        refine xr_iload_n (n := 325) dL_law_324 rfl rfl ?_
        refine xr_iconst (v := nI 4) (n := 326) dL_law_325 (by decide) rfl ?_
        refine xr_iadd (n := 327) dL_law_326 rfl ?_
        rw [nI_add]
        refine xl_sld (n := 328) dL_law_327 (by first | exact vp_in_nI (by omega) (by omega)) rfl ?_
        rw [nI_clamp (by omega)]
        refine xr_callV (y2 := mX7_run) (As := [_, _, _, _]) (n := 331) dL_law_328 lm_L_52 pm_X7_run pi_X7_run (by first | exact hz7 | exact hm8) rfl rfl rfl (by simp [Value.category]) rfl ⟨Nat.le_refl _, Nat.le_refl _⟩ ?_
        refine h7 _ (fun F1 hT => ?_)
        obtain ⟨⟨fs8, hm8⟩, h9⟩ := h8 F1 hT
        dsimp only [xK, xps]
        refine xr_aload_n (n := 332) dL_law_331 rfl rfl ?_
        refine xr_aload_n (n := 333) dL_law_332 rfl rfl ?_
        refine xr_iload_n (n := 334) dL_law_333 rfl rfl ?_
        refine xr_iconst (v := nI 1) (n := 335) dL_law_334 (by decide) rfl ?_
        refine xr_iadd (n := 336) dL_law_335 rfl ?_
        rw [nI_add]
        refine xl_sld (n := 337) dL_law_336 (by first | exact vp_in_nI (by omega) (by omega)) rfl ?_
        rw [nI_clamp (by omega)]
        refine xr_aload_n (n := 338) dL_law_337 rfl rfl ?_
        refine xr_iload_n (n := 339) dL_law_338 rfl rfl ?_
        refine xr_iconst (v := nI 2) (n := 340) dL_law_339 (by decide) rfl ?_
        refine xr_iadd (n := 341) dL_law_340 rfl ?_
        rw [nI_add]
        refine xl_sld (n := 342) dL_law_341 (by first | exact vp_in_nI (by omega) (by omega)) rfl ?_
        rw [nI_clamp (by omega)]
        refine xr_aload_n (n := 343) dL_law_342 rfl rfl ?_
        refine xr_iload_n (n := 344) dL_law_343 rfl rfl ?_
        refine xr_iconst (v := nI 3) (n := 345) dL_law_344 (by decide) rfl ?_
        refine xr_iadd (n := 346) dL_law_345 rfl ?_
        rw [nI_add]
        refine xl_sld (n := 347) dL_law_346 (by first | exact vp_in_nI (by omega) (by omega)) rfl ?_
        rw [nI_clamp (by omega)]
        refine xr_aload_n (n := 348) dL_law_347 rfl rfl ?_
        refine xr_iload_n (n := 349) dL_law_348 rfl rfl ?_
        refine xr_iconst (v := nI 4) (n := 350) dL_law_349 (by decide) rfl ?_
        refine xr_iadd (n := 351) dL_law_350 rfl ?_
        rw [nI_add]
        refine xl_sld (n := 352) dL_law_351 (by first | exact vp_in_nI (by omega) (by omega)) rfl ?_
        rw [nI_clamp (by omega)]
        refine xr_callV (y2 := mX8_run) (As := [_, _, _, _]) (n := 355) dL_law_352 lm_L_56 pm_X8_run pi_X8_run (by first | exact hz7 | exact hm8) rfl rfl rfl (by simp [Value.category]) rfl ⟨Nat.le_refl _, Nat.le_refl _⟩ ?_
        refine h9 _ (fun F2 hB2 => ?_)
        dsimp only [xK, xps]
        refine xr_icmp_eq (tgt := 684) (n := 358) dL_law_355 (by decide) rfl (fun h355 => ?_) (fun h355 => by (exact absurd rfl h355))
        refine xr_iinc (n := 687) dL_law_684 rfl rfl (rfl) rfl ?_
        simp only [xst, Nat.beq, List.filter, Bool.not_true, Bool.not_false]
        rw [show (Int32.ofInt 6) = nI 6 from rfl, nI_add]
        refine xr_goto (n := 18) dL_law_687 (by decide) ?_
        exact ih (i + 6) F2 (by omega) (by omega) hB2
      · refine xr_tableIn (n := 360) (off := 327) dL_law_33 (by omega) (by omega) (by rw [hx]; rfl) (by decide) ?_
        obtain ⟨v, T, h7, h8⟩ := j_told (G := G) (r := r) (p := sc (i + 1)) (a := sc (i + 2)) (b := sc (i + 3)) (w := sc (i + 4)) hB hm
        refine xr_aload_n (n := 361) dL_law_360 rfl rfl ?_
        refine xr_aload_n (n := 362) dL_law_361 rfl rfl ?_
        refine xr_iload_n (n := 363) dL_law_362 rfl rfl ?_
        refine xr_iconst (v := nI 1) (n := 364) dL_law_363 (by decide) rfl ?_
        refine xr_iadd (n := 365) dL_law_364 rfl ?_
        rw [nI_add]
        refine xl_sld (n := 366) dL_law_365 (by first | exact vp_in_nI (by omega) (by omega)) rfl ?_
        rw [nI_clamp (by omega)]
        refine xr_aload_n (n := 367) dL_law_366 rfl rfl ?_
        refine xr_iload_n (n := 368) dL_law_367 rfl rfl ?_
        refine xr_iconst (v := nI 2) (n := 369) dL_law_368 (by decide) rfl ?_
        refine xr_iadd (n := 370) dL_law_369 rfl ?_
        rw [nI_add]
        refine xl_sld (n := 371) dL_law_370 (by first | exact vp_in_nI (by omega) (by omega)) rfl ?_
        rw [nI_clamp (by omega)]
        refine xr_aload_n (n := 372) dL_law_371 rfl rfl ?_
        refine xr_iload_n (n := 373) dL_law_372 rfl rfl ?_
        refine xr_iconst (v := nI 3) (n := 374) dL_law_373 (by decide) rfl ?_
        refine xr_iadd (n := 375) dL_law_374 rfl ?_
        rw [nI_add]
        refine xl_sld (n := 376) dL_law_375 (by first | exact vp_in_nI (by omega) (by omega)) rfl ?_
        rw [nI_clamp (by omega)]
        refine xr_aload_n (n := 377) dL_law_376 rfl rfl ?_
        refine xr_iload_n (n := 378) dL_law_377 rfl rfl ?_
        refine xr_iconst (v := nI 4) (n := 379) dL_law_378 (by decide) rfl ?_
        refine xr_iadd (n := 380) dL_law_379 rfl ?_
        rw [nI_add]
        refine xl_sld (n := 381) dL_law_380 (by first | exact vp_in_nI (by omega) (by omega)) rfl ?_
        rw [nI_clamp (by omega)]
        refine xr_callV (y2 := mX7_told) (As := [_, _, _, _]) (n := 384) dL_law_381 lm_L_57 pm_X7_told pi_X7_told (by first | exact hz7 | exact hm8) rfl rfl rfl (by simp [Value.category]) rfl ⟨Nat.le_refl _, Nat.le_refl _⟩ ?_
        refine h7 _ (fun F1 hT => ?_)
        obtain ⟨⟨fs8, hm8⟩, h9⟩ := h8 F1 hT
        dsimp only [xK, xps]
        refine xr_aload_n (n := 385) dL_law_384 rfl rfl ?_
        refine xr_aload_n (n := 386) dL_law_385 rfl rfl ?_
        refine xr_iload_n (n := 387) dL_law_386 rfl rfl ?_
        refine xr_iconst (v := nI 1) (n := 388) dL_law_387 (by decide) rfl ?_
        refine xr_iadd (n := 389) dL_law_388 rfl ?_
        rw [nI_add]
        refine xl_sld (n := 390) dL_law_389 (by first | exact vp_in_nI (by omega) (by omega)) rfl ?_
        rw [nI_clamp (by omega)]
        refine xr_aload_n (n := 391) dL_law_390 rfl rfl ?_
        refine xr_iload_n (n := 392) dL_law_391 rfl rfl ?_
        refine xr_iconst (v := nI 2) (n := 393) dL_law_392 (by decide) rfl ?_
        refine xr_iadd (n := 394) dL_law_393 rfl ?_
        rw [nI_add]
        refine xl_sld (n := 395) dL_law_394 (by first | exact vp_in_nI (by omega) (by omega)) rfl ?_
        rw [nI_clamp (by omega)]
        refine xr_aload_n (n := 396) dL_law_395 rfl rfl ?_
        refine xr_iload_n (n := 397) dL_law_396 rfl rfl ?_
        refine xr_iconst (v := nI 3) (n := 398) dL_law_397 (by decide) rfl ?_
        refine xr_iadd (n := 399) dL_law_398 rfl ?_
        rw [nI_add]
        refine xl_sld (n := 400) dL_law_399 (by first | exact vp_in_nI (by omega) (by omega)) rfl ?_
        rw [nI_clamp (by omega)]
        refine xr_aload_n (n := 401) dL_law_400 rfl rfl ?_
        refine xr_iload_n (n := 402) dL_law_401 rfl rfl ?_
        refine xr_iconst (v := nI 4) (n := 403) dL_law_402 (by decide) rfl ?_
        refine xr_iadd (n := 404) dL_law_403 rfl ?_
        rw [nI_add]
        refine xl_sld (n := 405) dL_law_404 (by first | exact vp_in_nI (by omega) (by omega)) rfl ?_
        rw [nI_clamp (by omega)]
        refine xr_callV (y2 := mX8_told) (As := [_, _, _, _]) (n := 408) dL_law_405 lm_L_60 pm_X8_told pi_X8_told (by first | exact hz7 | exact hm8) rfl rfl rfl (by simp [Value.category]) rfl ⟨Nat.le_refl _, Nat.le_refl _⟩ ?_
        refine h9 _ (fun F2 hB2 => ?_)
        dsimp only [xK, xps]
        refine xr_icmp_eq (tgt := 684) (n := 411) dL_law_408 (by decide) rfl (fun h408 => ?_) (fun h408 => by (exact absurd rfl h408))
        refine xr_iinc (n := 687) dL_law_684 rfl rfl (rfl) rfl ?_
        simp only [xst, Nat.beq, List.filter, Bool.not_true, Bool.not_false]
        rw [show (Int32.ofInt 6) = nI 6 from rfl, nI_add]
        refine xr_goto (n := 18) dL_law_687 (by decide) ?_
        exact ih (i + 6) F2 (by omega) (by omega) hB2
      · refine xr_tableIn (n := 413) (off := 380) dL_law_33 (by omega) (by omega) (by rw [hx]; rfl) (by decide) ?_
        obtain ⟨v, T, h7, h8⟩ := j_cell (G := G) (r := r) (p := sc (i + 1)) (a := sc (i + 2)) (b := sc (i + 3)) (w := sc (i + 4)) (c := sc (i + 5)) hB hm
        refine xr_aload_n (n := 414) dL_law_413 rfl rfl ?_
        refine xr_aload_n (n := 415) dL_law_414 rfl rfl ?_
        refine xr_iload_n (n := 416) dL_law_415 rfl rfl ?_
        refine xr_iconst (v := nI 1) (n := 417) dL_law_416 (by decide) rfl ?_
        refine xr_iadd (n := 418) dL_law_417 rfl ?_
        rw [nI_add]
        refine xl_sld (n := 419) dL_law_418 (by first | exact vp_in_nI (by omega) (by omega)) rfl ?_
        rw [nI_clamp (by omega)]
        refine xr_aload_n (n := 420) dL_law_419 rfl rfl ?_
        refine xr_iload_n (n := 421) dL_law_420 rfl rfl ?_
        refine xr_iconst (v := nI 2) (n := 422) dL_law_421 (by decide) rfl ?_
        refine xr_iadd (n := 423) dL_law_422 rfl ?_
        rw [nI_add]
        refine xl_sld (n := 424) dL_law_423 (by first | exact vp_in_nI (by omega) (by omega)) rfl ?_
        rw [nI_clamp (by omega)]
        refine xr_aload_n (n := 425) dL_law_424 rfl rfl ?_
        refine xr_iload_n (n := 426) dL_law_425 rfl rfl ?_
        refine xr_iconst (v := nI 3) (n := 427) dL_law_426 (by decide) rfl ?_
        refine xr_iadd (n := 428) dL_law_427 rfl ?_
        rw [nI_add]
        refine xl_sld (n := 429) dL_law_428 (by first | exact vp_in_nI (by omega) (by omega)) rfl ?_
        rw [nI_clamp (by omega)]
        refine xr_aload_n (n := 430) dL_law_429 rfl rfl ?_
        refine xr_iload_n (n := 431) dL_law_430 rfl rfl ?_
        refine xr_iconst (v := nI 4) (n := 432) dL_law_431 (by decide) rfl ?_
        refine xr_iadd (n := 433) dL_law_432 rfl ?_
        rw [nI_add]
        refine xl_sld (n := 434) dL_law_433 (by first | exact vp_in_nI (by omega) (by omega)) rfl ?_
        rw [nI_clamp (by omega)]
        refine xr_aload_n (n := 435) dL_law_434 rfl rfl ?_
        refine xr_iload_n (n := 436) dL_law_435 rfl rfl ?_
        refine xr_iconst (v := nI 5) (n := 437) dL_law_436 (by decide) rfl ?_
        refine xr_iadd (n := 438) dL_law_437 rfl ?_
        rw [nI_add]
        refine xl_sld (n := 439) dL_law_438 (by first | exact vp_in_nI (by omega) (by omega)) rfl ?_
        rw [nI_clamp (by omega)]
        refine xr_callV (y2 := mX7_cell) (As := [_, _, _, _, _]) (n := 442) dL_law_439 lm_L_61 pm_X7_cell pi_X7_cell (by first | exact hz7 | exact hm8) rfl rfl rfl (by simp [Value.category]) rfl ⟨Nat.le_refl _, Nat.le_refl _⟩ ?_
        refine h7 _ (fun F1 hT => ?_)
        obtain ⟨⟨fs8, hm8⟩, h9⟩ := h8 F1 hT
        dsimp only [xK, xps]
        refine xr_aload_n (n := 443) dL_law_442 rfl rfl ?_
        refine xr_aload_n (n := 444) dL_law_443 rfl rfl ?_
        refine xr_iload_n (n := 445) dL_law_444 rfl rfl ?_
        refine xr_iconst (v := nI 1) (n := 446) dL_law_445 (by decide) rfl ?_
        refine xr_iadd (n := 447) dL_law_446 rfl ?_
        rw [nI_add]
        refine xl_sld (n := 448) dL_law_447 (by first | exact vp_in_nI (by omega) (by omega)) rfl ?_
        rw [nI_clamp (by omega)]
        refine xr_aload_n (n := 449) dL_law_448 rfl rfl ?_
        refine xr_iload_n (n := 450) dL_law_449 rfl rfl ?_
        refine xr_iconst (v := nI 2) (n := 451) dL_law_450 (by decide) rfl ?_
        refine xr_iadd (n := 452) dL_law_451 rfl ?_
        rw [nI_add]
        refine xl_sld (n := 453) dL_law_452 (by first | exact vp_in_nI (by omega) (by omega)) rfl ?_
        rw [nI_clamp (by omega)]
        refine xr_aload_n (n := 454) dL_law_453 rfl rfl ?_
        refine xr_iload_n (n := 455) dL_law_454 rfl rfl ?_
        refine xr_iconst (v := nI 3) (n := 456) dL_law_455 (by decide) rfl ?_
        refine xr_iadd (n := 457) dL_law_456 rfl ?_
        rw [nI_add]
        refine xl_sld (n := 458) dL_law_457 (by first | exact vp_in_nI (by omega) (by omega)) rfl ?_
        rw [nI_clamp (by omega)]
        refine xr_aload_n (n := 459) dL_law_458 rfl rfl ?_
        refine xr_iload_n (n := 460) dL_law_459 rfl rfl ?_
        refine xr_iconst (v := nI 4) (n := 461) dL_law_460 (by decide) rfl ?_
        refine xr_iadd (n := 462) dL_law_461 rfl ?_
        rw [nI_add]
        refine xl_sld (n := 463) dL_law_462 (by first | exact vp_in_nI (by omega) (by omega)) rfl ?_
        rw [nI_clamp (by omega)]
        refine xr_aload_n (n := 464) dL_law_463 rfl rfl ?_
        refine xr_iload_n (n := 465) dL_law_464 rfl rfl ?_
        refine xr_iconst (v := nI 5) (n := 466) dL_law_465 (by decide) rfl ?_
        refine xr_iadd (n := 467) dL_law_466 rfl ?_
        rw [nI_add]
        refine xl_sld (n := 468) dL_law_467 (by first | exact vp_in_nI (by omega) (by omega)) rfl ?_
        rw [nI_clamp (by omega)]
        refine xr_callV (y2 := mX8_cell) (As := [_, _, _, _, _]) (n := 471) dL_law_468 lm_L_65 pm_X8_cell pi_X8_cell (by first | exact hz7 | exact hm8) rfl rfl rfl (by simp [Value.category]) rfl ⟨Nat.le_refl _, Nat.le_refl _⟩ ?_
        refine h9 _ (fun F2 hB2 => ?_)
        dsimp only [xK, xps]
        refine xr_icmp_eq (tgt := 684) (n := 474) dL_law_471 (by decide) rfl (fun h471 => ?_) (fun h471 => by (exact absurd rfl h471))
        refine xr_iinc (n := 687) dL_law_684 rfl rfl (rfl) rfl ?_
        simp only [xst, Nat.beq, List.filter, Bool.not_true, Bool.not_false]
        rw [show (Int32.ofInt 6) = nI 6 from rfl, nI_add]
        refine xr_goto (n := 18) dL_law_687 (by decide) ?_
        exact ih (i + 6) F2 (by omega) (by omega) hB2
      · refine xr_tableIn (n := 476) (off := 443) dL_law_33 (by omega) (by omega) (by rw [hx]; rfl) (by decide) ?_
        obtain ⟨v, T, h7, h8⟩ := j_pairs (G := G) (r := r) (a := sc (i + 1)) (b := sc (i + 2)) (w := sc (i + 3)) hB hm
        refine xr_aload_n (n := 477) dL_law_476 rfl rfl ?_
        refine xr_aload_n (n := 478) dL_law_477 rfl rfl ?_
        refine xr_iload_n (n := 479) dL_law_478 rfl rfl ?_
        refine xr_iconst (v := nI 1) (n := 480) dL_law_479 (by decide) rfl ?_
        refine xr_iadd (n := 481) dL_law_480 rfl ?_
        rw [nI_add]
        refine xl_sld (n := 482) dL_law_481 (by first | exact vp_in_nI (by omega) (by omega)) rfl ?_
        rw [nI_clamp (by omega)]
        refine xr_aload_n (n := 483) dL_law_482 rfl rfl ?_
        refine xr_iload_n (n := 484) dL_law_483 rfl rfl ?_
        refine xr_iconst (v := nI 2) (n := 485) dL_law_484 (by decide) rfl ?_
        refine xr_iadd (n := 486) dL_law_485 rfl ?_
        rw [nI_add]
        refine xl_sld (n := 487) dL_law_486 (by first | exact vp_in_nI (by omega) (by omega)) rfl ?_
        rw [nI_clamp (by omega)]
        refine xr_aload_n (n := 488) dL_law_487 rfl rfl ?_
        refine xr_iload_n (n := 489) dL_law_488 rfl rfl ?_
        refine xr_iconst (v := nI 3) (n := 490) dL_law_489 (by decide) rfl ?_
        refine xr_iadd (n := 491) dL_law_490 rfl ?_
        rw [nI_add]
        refine xl_sld (n := 492) dL_law_491 (by first | exact vp_in_nI (by omega) (by omega)) rfl ?_
        rw [nI_clamp (by omega)]
        refine xr_callV (y2 := mX7_pairs) (As := [_, _, _]) (n := 495) dL_law_492 lm_L_66 pm_X7_pairs pi_X7_pairs (by first | exact hz7 | exact hm8) rfl rfl rfl (by simp [Value.category]) rfl ⟨Nat.le_refl _, Nat.le_refl _⟩ ?_
        refine h7 _ (fun F1 hT => ?_)
        obtain ⟨⟨fs8, hm8⟩, h9⟩ := h8 F1 hT
        dsimp only [xK, xps]
        refine xr_aload_n (n := 496) dL_law_495 rfl rfl ?_
        refine xr_aload_n (n := 497) dL_law_496 rfl rfl ?_
        refine xr_iload_n (n := 498) dL_law_497 rfl rfl ?_
        refine xr_iconst (v := nI 1) (n := 499) dL_law_498 (by decide) rfl ?_
        refine xr_iadd (n := 500) dL_law_499 rfl ?_
        rw [nI_add]
        refine xl_sld (n := 501) dL_law_500 (by first | exact vp_in_nI (by omega) (by omega)) rfl ?_
        rw [nI_clamp (by omega)]
        refine xr_aload_n (n := 502) dL_law_501 rfl rfl ?_
        refine xr_iload_n (n := 503) dL_law_502 rfl rfl ?_
        refine xr_iconst (v := nI 2) (n := 504) dL_law_503 (by decide) rfl ?_
        refine xr_iadd (n := 505) dL_law_504 rfl ?_
        rw [nI_add]
        refine xl_sld (n := 506) dL_law_505 (by first | exact vp_in_nI (by omega) (by omega)) rfl ?_
        rw [nI_clamp (by omega)]
        refine xr_aload_n (n := 507) dL_law_506 rfl rfl ?_
        refine xr_iload_n (n := 508) dL_law_507 rfl rfl ?_
        refine xr_iconst (v := nI 3) (n := 509) dL_law_508 (by decide) rfl ?_
        refine xr_iadd (n := 510) dL_law_509 rfl ?_
        rw [nI_add]
        refine xl_sld (n := 511) dL_law_510 (by first | exact vp_in_nI (by omega) (by omega)) rfl ?_
        rw [nI_clamp (by omega)]
        refine xr_callV (y2 := mX8_pairs) (As := [_, _, _]) (n := 514) dL_law_511 lm_L_70 pm_X8_pairs pi_X8_pairs (by first | exact hz7 | exact hm8) rfl rfl rfl (by simp [Value.category]) rfl ⟨Nat.le_refl _, Nat.le_refl _⟩ ?_
        refine h9 _ (fun F2 hB2 => ?_)
        dsimp only [xK, xps]
        refine xr_icmp_eq (tgt := 684) (n := 517) dL_law_514 (by decide) rfl (fun h514 => ?_) (fun h514 => by (exact absurd rfl h514))
        refine xr_iinc (n := 687) dL_law_684 rfl rfl (rfl) rfl ?_
        simp only [xst, Nat.beq, List.filter, Bool.not_true, Bool.not_false]
        rw [show (Int32.ofInt 6) = nI 6 from rfl, nI_add]
        refine xr_goto (n := 18) dL_law_687 (by decide) ?_
        exact ih (i + 6) F2 (by omega) (by omega) hB2
      · refine xr_tableIn (n := 519) (off := 486) dL_law_33 (by omega) (by omega) (by rw [hx]; rfl) (by decide) ?_
        obtain ⟨v, T, h7, h8⟩ := j_equal (G := G) (r := r) (a := sc (i + 1)) (b := sc (i + 2)) (c := sc (i + 3)) hB hm
        refine xr_aload_n (n := 520) dL_law_519 rfl rfl ?_
        refine xr_aload_n (n := 521) dL_law_520 rfl rfl ?_
        refine xr_iload_n (n := 522) dL_law_521 rfl rfl ?_
        refine xr_iconst (v := nI 1) (n := 523) dL_law_522 (by decide) rfl ?_
        refine xr_iadd (n := 524) dL_law_523 rfl ?_
        rw [nI_add]
        refine xl_sld (n := 525) dL_law_524 (by first | exact vp_in_nI (by omega) (by omega)) rfl ?_
        rw [nI_clamp (by omega)]
        refine xr_aload_n (n := 526) dL_law_525 rfl rfl ?_
        refine xr_iload_n (n := 527) dL_law_526 rfl rfl ?_
        refine xr_iconst (v := nI 2) (n := 528) dL_law_527 (by decide) rfl ?_
        refine xr_iadd (n := 529) dL_law_528 rfl ?_
        rw [nI_add]
        refine xl_sld (n := 530) dL_law_529 (by first | exact vp_in_nI (by omega) (by omega)) rfl ?_
        rw [nI_clamp (by omega)]
        refine xr_aload_n (n := 531) dL_law_530 rfl rfl ?_
        refine xr_iload_n (n := 532) dL_law_531 rfl rfl ?_
        refine xr_iconst (v := nI 3) (n := 533) dL_law_532 (by decide) rfl ?_
        refine xr_iadd (n := 534) dL_law_533 rfl ?_
        rw [nI_add]
        refine xl_sld (n := 535) dL_law_534 (by first | exact vp_in_nI (by omega) (by omega)) rfl ?_
        rw [nI_clamp (by omega)]
        refine xr_callV (y2 := mX7_equal) (As := [_, _, _]) (n := 538) dL_law_535 lm_L_71 pm_X7_equal pi_X7_equal (by first | exact hz7 | exact hm8) rfl rfl rfl (by simp [Value.category]) rfl ⟨Nat.le_refl _, Nat.le_refl _⟩ ?_
        refine h7 _ (fun F1 hT => ?_)
        obtain ⟨⟨fs8, hm8⟩, h9⟩ := h8 F1 hT
        dsimp only [xK, xps]
        refine xr_aload_n (n := 539) dL_law_538 rfl rfl ?_
        refine xr_aload_n (n := 540) dL_law_539 rfl rfl ?_
        refine xr_iload_n (n := 541) dL_law_540 rfl rfl ?_
        refine xr_iconst (v := nI 1) (n := 542) dL_law_541 (by decide) rfl ?_
        refine xr_iadd (n := 543) dL_law_542 rfl ?_
        rw [nI_add]
        refine xl_sld (n := 544) dL_law_543 (by first | exact vp_in_nI (by omega) (by omega)) rfl ?_
        rw [nI_clamp (by omega)]
        refine xr_aload_n (n := 545) dL_law_544 rfl rfl ?_
        refine xr_iload_n (n := 546) dL_law_545 rfl rfl ?_
        refine xr_iconst (v := nI 2) (n := 547) dL_law_546 (by decide) rfl ?_
        refine xr_iadd (n := 548) dL_law_547 rfl ?_
        rw [nI_add]
        refine xl_sld (n := 549) dL_law_548 (by first | exact vp_in_nI (by omega) (by omega)) rfl ?_
        rw [nI_clamp (by omega)]
        refine xr_aload_n (n := 550) dL_law_549 rfl rfl ?_
        refine xr_iload_n (n := 551) dL_law_550 rfl rfl ?_
        refine xr_iconst (v := nI 3) (n := 552) dL_law_551 (by decide) rfl ?_
        refine xr_iadd (n := 553) dL_law_552 rfl ?_
        rw [nI_add]
        refine xl_sld (n := 554) dL_law_553 (by first | exact vp_in_nI (by omega) (by omega)) rfl ?_
        rw [nI_clamp (by omega)]
        refine xr_callV (y2 := mX8_equal) (As := [_, _, _]) (n := 557) dL_law_554 lm_L_74 pm_X8_equal pi_X8_equal (by first | exact hz7 | exact hm8) rfl rfl rfl (by simp [Value.category]) rfl ⟨Nat.le_refl _, Nat.le_refl _⟩ ?_
        refine h9 _ (fun F2 hB2 => ?_)
        dsimp only [xK, xps]
        refine xr_icmp_eq (tgt := 684) (n := 560) dL_law_557 (by decide) rfl (fun h557 => ?_) (fun h557 => by (exact absurd rfl h557))
        refine xr_iinc (n := 687) dL_law_684 rfl rfl (rfl) rfl ?_
        simp only [xst, Nat.beq, List.filter, Bool.not_true, Bool.not_false]
        rw [show (Int32.ofInt 6) = nI 6 from rfl, nI_add]
        refine xr_goto (n := 18) dL_law_687 (by decide) ?_
        exact ih (i + 6) F2 (by omega) (by omega) hB2
      · refine xr_tableIn (n := 562) (off := 529) dL_law_33 (by omega) (by omega) (by rw [hx]; rfl) (by decide) ?_
        obtain ⟨v, T, h7, h8⟩ := j_difference (G := G) (r := r) (a := sc (i + 1)) (b := sc (i + 2)) hB hm
        refine xr_aload_n (n := 563) dL_law_562 rfl rfl ?_
        refine xr_aload_n (n := 564) dL_law_563 rfl rfl ?_
        refine xr_iload_n (n := 565) dL_law_564 rfl rfl ?_
        refine xr_iconst (v := nI 1) (n := 566) dL_law_565 (by decide) rfl ?_
        refine xr_iadd (n := 567) dL_law_566 rfl ?_
        rw [nI_add]
        refine xl_sld (n := 568) dL_law_567 (by first | exact vp_in_nI (by omega) (by omega)) rfl ?_
        rw [nI_clamp (by omega)]
        refine xr_aload_n (n := 569) dL_law_568 rfl rfl ?_
        refine xr_iload_n (n := 570) dL_law_569 rfl rfl ?_
        refine xr_iconst (v := nI 2) (n := 571) dL_law_570 (by decide) rfl ?_
        refine xr_iadd (n := 572) dL_law_571 rfl ?_
        rw [nI_add]
        refine xl_sld (n := 573) dL_law_572 (by first | exact vp_in_nI (by omega) (by omega)) rfl ?_
        rw [nI_clamp (by omega)]
        refine xr_callV (y2 := mX7_difference) (As := [_, _]) (n := 576) dL_law_573 lm_L_75 pm_X7_difference pi_X7_difference (by first | exact hz7 | exact hm8) rfl rfl rfl (by simp [Value.category]) rfl ⟨Nat.le_refl _, Nat.le_refl _⟩ ?_
        refine h7 _ (fun F1 hT => ?_)
        obtain ⟨⟨fs8, hm8⟩, h9⟩ := h8 F1 hT
        dsimp only [xK, xps]
        refine xr_aload_n (n := 577) dL_law_576 rfl rfl ?_
        refine xr_aload_n (n := 578) dL_law_577 rfl rfl ?_
        refine xr_iload_n (n := 579) dL_law_578 rfl rfl ?_
        refine xr_iconst (v := nI 1) (n := 580) dL_law_579 (by decide) rfl ?_
        refine xr_iadd (n := 581) dL_law_580 rfl ?_
        rw [nI_add]
        refine xl_sld (n := 582) dL_law_581 (by first | exact vp_in_nI (by omega) (by omega)) rfl ?_
        rw [nI_clamp (by omega)]
        refine xr_aload_n (n := 583) dL_law_582 rfl rfl ?_
        refine xr_iload_n (n := 584) dL_law_583 rfl rfl ?_
        refine xr_iconst (v := nI 2) (n := 585) dL_law_584 (by decide) rfl ?_
        refine xr_iadd (n := 586) dL_law_585 rfl ?_
        rw [nI_add]
        refine xl_sld (n := 587) dL_law_586 (by first | exact vp_in_nI (by omega) (by omega)) rfl ?_
        rw [nI_clamp (by omega)]
        refine xr_callV (y2 := mX8_difference) (As := [_, _]) (n := 590) dL_law_587 lm_L_78 pm_X8_difference pi_X8_difference (by first | exact hz7 | exact hm8) rfl rfl rfl (by simp [Value.category]) rfl ⟨Nat.le_refl _, Nat.le_refl _⟩ ?_
        refine h9 _ (fun F2 hB2 => ?_)
        dsimp only [xK, xps]
        refine xr_icmp_eq (tgt := 684) (n := 593) dL_law_590 (by decide) rfl (fun h590 => ?_) (fun h590 => by (exact absurd rfl h590))
        refine xr_iinc (n := 687) dL_law_684 rfl rfl (rfl) rfl ?_
        simp only [xst, Nat.beq, List.filter, Bool.not_true, Bool.not_false]
        rw [show (Int32.ofInt 6) = nI 6 from rfl, nI_add]
        refine xr_goto (n := 18) dL_law_687 (by decide) ?_
        exact ih (i + 6) F2 (by omega) (by omega) hB2
      · refine xr_tableIn (n := 595) (off := 562) dL_law_33 (by omega) (by omega) (by rw [hx]; rfl) (by decide) ?_
        obtain ⟨v, T, h7, h8⟩ := j_agree (G := G) (r := r) (lo := sc (i + 1)) (hi := sc (i + 2)) (w := sc (i + 3)) hB hm
        refine xr_aload_n (n := 596) dL_law_595 rfl rfl ?_
        refine xr_aload_n (n := 597) dL_law_596 rfl rfl ?_
        refine xr_iload_n (n := 598) dL_law_597 rfl rfl ?_
        refine xr_iconst (v := nI 1) (n := 599) dL_law_598 (by decide) rfl ?_
        refine xr_iadd (n := 600) dL_law_599 rfl ?_
        rw [nI_add]
        refine xl_sld (n := 601) dL_law_600 (by first | exact vp_in_nI (by omega) (by omega)) rfl ?_
        rw [nI_clamp (by omega)]
        refine xr_aload_n (n := 602) dL_law_601 rfl rfl ?_
        refine xr_iload_n (n := 603) dL_law_602 rfl rfl ?_
        refine xr_iconst (v := nI 2) (n := 604) dL_law_603 (by decide) rfl ?_
        refine xr_iadd (n := 605) dL_law_604 rfl ?_
        rw [nI_add]
        refine xl_sld (n := 606) dL_law_605 (by first | exact vp_in_nI (by omega) (by omega)) rfl ?_
        rw [nI_clamp (by omega)]
        refine xr_aload_n (n := 607) dL_law_606 rfl rfl ?_
        refine xr_iload_n (n := 608) dL_law_607 rfl rfl ?_
        refine xr_iconst (v := nI 3) (n := 609) dL_law_608 (by decide) rfl ?_
        refine xr_iadd (n := 610) dL_law_609 rfl ?_
        rw [nI_add]
        refine xl_sld (n := 611) dL_law_610 (by first | exact vp_in_nI (by omega) (by omega)) rfl ?_
        rw [nI_clamp (by omega)]
        refine xr_callV (y2 := mX7_agree) (As := [_, _, _]) (n := 614) dL_law_611 lm_L_79 pm_X7_agree pi_X7_agree (by first | exact hz7 | exact hm8) rfl rfl rfl (by simp [Value.category]) rfl ⟨Nat.le_refl _, Nat.le_refl _⟩ ?_
        refine h7 _ (fun F1 hT => ?_)
        obtain ⟨⟨fs8, hm8⟩, h9⟩ := h8 F1 hT
        dsimp only [xK, xps]
        refine xr_aload_n (n := 615) dL_law_614 rfl rfl ?_
        refine xr_aload_n (n := 616) dL_law_615 rfl rfl ?_
        refine xr_iload_n (n := 617) dL_law_616 rfl rfl ?_
        refine xr_iconst (v := nI 1) (n := 618) dL_law_617 (by decide) rfl ?_
        refine xr_iadd (n := 619) dL_law_618 rfl ?_
        rw [nI_add]
        refine xl_sld (n := 620) dL_law_619 (by first | exact vp_in_nI (by omega) (by omega)) rfl ?_
        rw [nI_clamp (by omega)]
        refine xr_aload_n (n := 621) dL_law_620 rfl rfl ?_
        refine xr_iload_n (n := 622) dL_law_621 rfl rfl ?_
        refine xr_iconst (v := nI 2) (n := 623) dL_law_622 (by decide) rfl ?_
        refine xr_iadd (n := 624) dL_law_623 rfl ?_
        rw [nI_add]
        refine xl_sld (n := 625) dL_law_624 (by first | exact vp_in_nI (by omega) (by omega)) rfl ?_
        rw [nI_clamp (by omega)]
        refine xr_aload_n (n := 626) dL_law_625 rfl rfl ?_
        refine xr_iload_n (n := 627) dL_law_626 rfl rfl ?_
        refine xr_iconst (v := nI 3) (n := 628) dL_law_627 (by decide) rfl ?_
        refine xr_iadd (n := 629) dL_law_628 rfl ?_
        rw [nI_add]
        refine xl_sld (n := 630) dL_law_629 (by first | exact vp_in_nI (by omega) (by omega)) rfl ?_
        rw [nI_clamp (by omega)]
        refine xr_callV (y2 := mX8_agree) (As := [_, _, _]) (n := 633) dL_law_630 lm_L_82 pm_X8_agree pi_X8_agree (by first | exact hz7 | exact hm8) rfl rfl rfl (by simp [Value.category]) rfl ⟨Nat.le_refl _, Nat.le_refl _⟩ ?_
        refine h9 _ (fun F2 hB2 => ?_)
        dsimp only [xK, xps]
        refine xr_icmp_eq (tgt := 684) (n := 636) dL_law_633 (by decide) rfl (fun h633 => ?_) (fun h633 => by (exact absurd rfl h633))
        refine xr_iinc (n := 687) dL_law_684 rfl rfl (rfl) rfl ?_
        simp only [xst, Nat.beq, List.filter, Bool.not_true, Bool.not_false]
        rw [show (Int32.ofInt 6) = nI 6 from rfl, nI_add]
        refine xr_goto (n := 18) dL_law_687 (by decide) ?_
        exact ih (i + 6) F2 (by omega) (by omega) hB2
      · refine xr_tableIn (n := 638) (off := 605) dL_law_33 (by omega) (by omega) (by rw [hx]; rfl) (by decide) ?_
        obtain ⟨v, T, h7, h8⟩ := j_always (G := G) (r := r) (c := sc (i + 1)) hB hm
        refine xr_aload_n (n := 639) dL_law_638 rfl rfl ?_
        refine xr_aload_n (n := 640) dL_law_639 rfl rfl ?_
        refine xr_iload_n (n := 641) dL_law_640 rfl rfl ?_
        refine xr_iconst (v := nI 1) (n := 642) dL_law_641 (by decide) rfl ?_
        refine xr_iadd (n := 643) dL_law_642 rfl ?_
        rw [nI_add]
        refine xl_sld (n := 644) dL_law_643 (by first | exact vp_in_nI (by omega) (by omega)) rfl ?_
        rw [nI_clamp (by omega)]
        refine xr_callV (y2 := mX7_always) (As := [_]) (n := 647) dL_law_644 lm_L_83 pm_X7_always pi_X7_always (by first | exact hz7 | exact hm8) rfl rfl rfl (by simp [Value.category]) rfl ⟨Nat.le_refl _, Nat.le_refl _⟩ ?_
        refine h7 _ (fun F1 hT => ?_)
        obtain ⟨⟨fs8, hm8⟩, h9⟩ := h8 F1 hT
        dsimp only [xK, xps]
        refine xr_aload_n (n := 648) dL_law_647 rfl rfl ?_
        refine xr_aload_n (n := 649) dL_law_648 rfl rfl ?_
        refine xr_iload_n (n := 650) dL_law_649 rfl rfl ?_
        refine xr_iconst (v := nI 1) (n := 651) dL_law_650 (by decide) rfl ?_
        refine xr_iadd (n := 652) dL_law_651 rfl ?_
        rw [nI_add]
        refine xl_sld (n := 653) dL_law_652 (by first | exact vp_in_nI (by omega) (by omega)) rfl ?_
        rw [nI_clamp (by omega)]
        refine xr_callV (y2 := mX8_always) (As := [_]) (n := 656) dL_law_653 lm_L_86 pm_X8_always pi_X8_always (by first | exact hz7 | exact hm8) rfl rfl rfl (by simp [Value.category]) rfl ⟨Nat.le_refl _, Nat.le_refl _⟩ ?_
        refine h9 _ (fun F2 hB2 => ?_)
        dsimp only [xK, xps]
        refine xr_icmp_eq (tgt := 684) (n := 659) dL_law_656 (by decide) rfl (fun h656 => ?_) (fun h656 => by (exact absurd rfl h656))
        refine xr_iinc (n := 687) dL_law_684 rfl rfl (rfl) rfl ?_
        simp only [xst, Nat.beq, List.filter, Bool.not_true, Bool.not_false]
        rw [show (Int32.ofInt 6) = nI 6 from rfl, nI_add]
        refine xr_goto (n := 18) dL_law_687 (by decide) ?_
        exact ih (i + 6) F2 (by omega) (by omega) hB2
      · refine xr_tableIn (n := 661) (off := 628) dL_law_33 (by omega) (by omega) (by rw [hx]; rfl) (by decide) ?_
        obtain ⟨v, T, h7, h8⟩ := j_idle (G := G) (r := r) (p := sc (i + 1)) hB hm
        refine xr_aload_n (n := 662) dL_law_661 rfl rfl ?_
        refine xr_aload_n (n := 663) dL_law_662 rfl rfl ?_
        refine xr_iload_n (n := 664) dL_law_663 rfl rfl ?_
        refine xr_iconst (v := nI 1) (n := 665) dL_law_664 (by decide) rfl ?_
        refine xr_iadd (n := 666) dL_law_665 rfl ?_
        rw [nI_add]
        refine xl_sld (n := 667) dL_law_666 (by first | exact vp_in_nI (by omega) (by omega)) rfl ?_
        rw [nI_clamp (by omega)]
        refine xr_callV (y2 := mX7_idle) (As := [_]) (n := 670) dL_law_667 lm_L_87 pm_X7_idle pi_X7_idle (by first | exact hz7 | exact hm8) rfl rfl rfl (by simp [Value.category]) rfl ⟨Nat.le_refl _, Nat.le_refl _⟩ ?_
        refine h7 _ (fun F1 hT => ?_)
        obtain ⟨⟨fs8, hm8⟩, h9⟩ := h8 F1 hT
        dsimp only [xK, xps]
        refine xr_aload_n (n := 671) dL_law_670 rfl rfl ?_
        refine xr_aload_n (n := 672) dL_law_671 rfl rfl ?_
        refine xr_iload_n (n := 673) dL_law_672 rfl rfl ?_
        refine xr_iconst (v := nI 1) (n := 674) dL_law_673 (by decide) rfl ?_
        refine xr_iadd (n := 675) dL_law_674 rfl ?_
        rw [nI_add]
        refine xl_sld (n := 676) dL_law_675 (by first | exact vp_in_nI (by omega) (by omega)) rfl ?_
        rw [nI_clamp (by omega)]
        refine xr_callV (y2 := mX8_idle) (As := [_]) (n := 679) dL_law_676 lm_L_90 pm_X8_idle pi_X8_idle (by first | exact hz7 | exact hm8) rfl rfl rfl (by simp [Value.category]) rfl ⟨Nat.le_refl _, Nat.le_refl _⟩ ?_
        refine h9 _ (fun F2 hB2 => ?_)
        dsimp only [xK, xps]
        refine xr_icmp_eq (tgt := 684) (n := 682) dL_law_679 (by decide) rfl (fun h679 => ?_) (fun h679 => by (exact absurd rfl h679))
        refine xr_iinc (n := 687) dL_law_684 rfl rfl (rfl) rfl ?_
        simp only [xst, Nat.beq, List.filter, Bool.not_true, Bool.not_false]
        rw [show (Int32.ofInt 6) = nI 6 from rfl, nI_add]
        refine xr_goto (n := 18) dL_law_687 (by decide) ?_
        exact ih (i + 6) F2 (by omega) (by omega) hB2

