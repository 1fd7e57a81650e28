set_option maxRecDepth 100000 in
set_option maxHeartbeats 4000000 in
theorem law_loop {x : vv_X} {b L o r : Nat} {xs : Nat → Int32} (hx : vv_C x cL_law RL 9 296 4) (hB : vv_B x b L xs) (hL5 : L ≤ 2560) (hE : ∀ kc ks lv S, vv_V x kc ks 611 lv [.int (nI 1)] S) : ∀ d n S R X W nw sf vs cn va ga ad, n + d = 512 → Rel S X W o nw sf vs cn va ga → xx_R R r ad X → mdj S R → opB X n → cn ≤ n → vv_V x (10 * d) (87 * d) 18 [(0, .ref b), (1, .ref o), (2, .ref r), (3, .int (nI (5 * n)))] [] (mj S R) := by
  intro d
  induction d with
  | zero =>
    intro n S R X W nw sf vs cn va ga ad hd hL hR hdj hop hcn
    refine vv_iload_n hx dL_law_18 rfl ?_
    refine vv_aload_n hx dL_law_19 rfl ?_
    refine vv_slen hx hB dL_law_20 ?_
    refine vv_iconst (v := nI 5) hx dL_law_21 (by decide) ?_
    refine vv_isub hx dL_law_22 ?_
    refine vv_icmp_gt (tgt := 610) hx dL_law_23 (by decide) (fun c_23 => ?_) (fun c_23 => ?_)
    · refine vv_iconst (v := nI 1) hx dL_law_610 (by decide) ?_
      exact hE _ _ _ _
    · exfalso
      have h9 := law_le hL5 (by omega) c_23
      omega
  | succ d ih =>
    intro n S R X W nw sf vs cn va ga ad hd hL hR hdj hop hcn
    have hXI := hL.2.2.2.2.2.2.2.2.2.2
    refine vv_room (kc' := 10 * d + 10) (ks' := 87 * d + 87) (by omega) (by omega) ?_
    refine vv_iload_n hx dL_law_18 rfl ?_
    refine vv_aload_n hx dL_law_19 rfl ?_
    refine vv_slen hx hB dL_law_20 ?_
    refine vv_iconst (v := nI 5) hx dL_law_21 (by decide) ?_
    refine vv_isub hx dL_law_22 ?_
    refine vv_icmp_gt (tgt := 610) hx dL_law_23 (by decide) (fun c_23 => ?_) (fun c_23 => ?_)
    · refine vv_iconst (v := nI 1) hx dL_law_610 (by decide) ?_
      exact hE _ _ _ _
    · have hi5 := law_le hL5 (by omega) c_23
      refine vv_aload_n hx dL_law_26 rfl ?_
      refine vv_iload_n hx dL_law_27 rfl ?_
      refine vv_sld hx hB dL_law_28 (j := 5 * n) (by omega) (by omega) ?_
      refine vv_bipush (v := nI 31) hx dL_law_29 (by decide) ?_
      refine vv_iand hx dL_law_31 ?_
      rcases sw_cases (n := 18) (((xs (5 * n)) &&& nI (31))) (by decide) with c_32 | ⟨j, hj, c_32⟩
      · refine vv_tabOut (tgt := 604) hx dL_law_32 (by first | exact c_32 | (have h9 := c_32; omega)) (by decide) ?_
        refine vv_iinc (u := (nI (5 * n + 5))) (lv' := [(0, .ref b), (1, .ref o), (2, .ref r), (3, .int (nI (5 * n + 5)))]) hx dL_law_604 rfl (nI_add _ 5) (by decide) rfl rfl ?_
        refine vv_goto (tgt := 18) hx dL_law_607 (by decide) ?_
        have h9 := ih (n + 1) S R X W nw sf vs cn va ga ad (by omega) hL hR hdj hop.up (by omega)
        rw [Nat.mul_add_one 5 n] at h9
        exact vv_room (by omega) (by omega) h9
      · rcases (show j = 0 ∨ j = 1 ∨ j = 2 ∨ j = 3 ∨ j = 4 ∨ j = 5 ∨ j = 6 ∨ j = 7 ∨ j = 8 ∨ j = 9 ∨ j = 10 ∨ j = 11 ∨ j = 12 ∨ j = 13 ∨ j = 14 ∨ j = 15 ∨ j = 16 ∨ j = 17 by omega) with rfl | rfl | rfl | rfl | rfl | rfl | rfl | rfl | rfl | rfl | rfl | rfl | rfl | rfl | rfl | rfl | rfl | rfl
        · refine vv_tabIn (off := 88) (tgt := 120) hx dL_law_32 (by rw [c_32]; decide) (by rw [c_32]; decide) (by rw [c_32]; decide) (by decide) ?_
          refine vv_aload_n hx dL_law_120 rfl ?_
          refine vv_aload_n hx dL_law_121 rfl ?_
          refine vv_iload_n hx dL_law_122 rfl ?_
          refine vv_iconst (v := nI 1) hx dL_law_123 (by decide) ?_
          refine vv_iaddN hx dL_law_124 ?_
          refine vv_sld hx hB dL_law_125 (j := (5 * n) + 1) (by omega) (by omega) ?_
          refine vv_aload_n hx dL_law_126 rfl ?_
          refine vv_iload_n hx dL_law_127 rfl ?_
          refine vv_iconst (v := nI 2) hx dL_law_128 (by decide) ?_
          refine vv_iaddN hx dL_law_129 ?_
          refine vv_sld hx hB dL_law_130 (j := (5 * n) + 2) (by omega) (by omega) ?_
          refine vv_aload_n hx dL_law_131 rfl ?_
          refine vv_iload_n hx dL_law_132 rfl ?_
          refine vv_iconst (v := nI 3) hx dL_law_133 (by decide) ?_
          refine vv_iaddN hx dL_law_134 ?_
          refine vv_sld hx hB dL_law_135 (j := (5 * n) + 3) (by omega) (by omega) ?_
          refine ff_callV (As := [.int (xs ((5 * n) + 1)), .int (xs ((5 * n) + 2)), .int (xs ((5 * n) + 3))]) hx dL_law_136 km_L_13 kq_X3_write ki_X3_write ks_X3_write kl_3 hL.1.1 (c_X3_write hL _ _ _) hdj rfl rfl (Nat.le_of_ble_eq_true rfl) (by decide) (by decide) rfl rfl (ff_ci fun z S' hz hdj => ?_)
          refine vv_aload_n hx dL_law_139 rfl ?_
          refine vv_aload_n hx dL_law_140 rfl ?_
          refine vv_iload_n hx dL_law_141 rfl ?_
          refine vv_iconst (v := nI 1) hx dL_law_142 (by decide) ?_
          refine vv_iaddN hx dL_law_143 ?_
          refine vv_sld hx hB dL_law_144 (j := (5 * n) + 1) (by omega) (by omega) ?_
          refine vv_aload_n hx dL_law_145 rfl ?_
          refine vv_iload_n hx dL_law_146 rfl ?_
          refine vv_iconst (v := nI 2) hx dL_law_147 (by decide) ?_
          refine vv_iaddN hx dL_law_148 ?_
          refine vv_sld hx hB dL_law_149 (j := (5 * n) + 2) (by omega) (by omega) ?_
          refine vv_aload_n hx dL_law_150 rfl ?_
          refine vv_iload_n hx dL_law_151 rfl ?_
          refine vv_iconst (v := nI 3) hx dL_law_152 (by decide) ?_
          refine vv_iaddN hx dL_law_153 ?_
          refine vv_sld hx hB dL_law_154 (j := (5 * n) + 3) (by omega) (by omega) ?_
          refine ff_sy hdj (fun hdj => ?_)
          refine ff_callV (As := [.int (xs ((5 * n) + 1)), .int (xs ((5 * n) + 2)), .int (xs ((5 * n) + 3))]) hx dL_law_155 km_L_17 kq_X4_write ki_X4_write ks_X4_write kl_4 hR.1 (c_X4_write hR hL.2.2.2.2.2.2.2.2.2.2.1 _ _ _) hdj rfl rfl (Nat.le_of_ble_eq_true rfl) (by decide) (by decide) rfl rfl (ff_ci fun y R' hy hdj => ?_)
          refine ff_sy hdj (fun hdj => ?_)
          refine vv_icmp_eq (tgt := 604) hx dL_law_158 (by decide) (fun c_158 => ?_) (fun c_158 => ?_)
          · refine vv_iinc (u := (nI (5 * n + 5))) (lv' := [(0, .ref b), (1, .ref o), (2, .ref r), (3, .int (nI (5 * n + 5)))]) hx dL_law_604 rfl (nI_add _ 5) (by decide) rfl rfl ?_
            refine vv_goto (tgt := 18) hx dL_law_607 (by decide) ?_
            have h9 := ih (n + 1) S' R' _ W nw sf vs cn va ga ad (by omega) hz.2 hy.2 hdj hop.write (by omega)
            rw [Nat.mul_add_one 5 n] at h9
            exact vv_room (by omega) (by omega) h9
          · exact absurd (hz.1.trans hy.1.symm) c_158
        · refine vv_tabIn (off := 131) (tgt := 163) hx dL_law_32 (by rw [c_32]; decide) (by rw [c_32]; decide) (by rw [c_32]; decide) (by decide) ?_
          refine vv_aload_n hx dL_law_163 rfl ?_
          refine vv_aload_n hx dL_law_164 rfl ?_
          refine vv_iload_n hx dL_law_165 rfl ?_
          refine vv_iconst (v := nI 1) hx dL_law_166 (by decide) ?_
          refine vv_iaddN hx dL_law_167 ?_
          refine vv_sld hx hB dL_law_168 (j := (5 * n) + 1) (by omega) (by omega) ?_
          refine vv_aload_n hx dL_law_169 rfl ?_
          refine vv_iload_n hx dL_law_170 rfl ?_
          refine vv_iconst (v := nI 2) hx dL_law_171 (by decide) ?_
          refine vv_iaddN hx dL_law_172 ?_
          refine vv_sld hx hB dL_law_173 (j := (5 * n) + 2) (by omega) (by omega) ?_
          refine ff_callV (As := [.int (xs ((5 * n) + 1)), .int (xs ((5 * n) + 2))]) hx dL_law_174 km_L_18 kq_X3_remove ki_X3_remove ks_X3_remove kl_3 hL.1.1 (c_X3_remove hL _ _) hdj rfl rfl (Nat.le_of_ble_eq_true rfl) (by decide) (by decide) rfl rfl (ff_ci fun z S' hz hdj => ?_)
          refine vv_aload_n hx dL_law_177 rfl ?_
          refine vv_aload_n hx dL_law_178 rfl ?_
          refine vv_iload_n hx dL_law_179 rfl ?_
          refine vv_iconst (v := nI 1) hx dL_law_180 (by decide) ?_
          refine vv_iaddN hx dL_law_181 ?_
          refine vv_sld hx hB dL_law_182 (j := (5 * n) + 1) (by omega) (by omega) ?_
          refine vv_aload_n hx dL_law_183 rfl ?_
          refine vv_iload_n hx dL_law_184 rfl ?_
          refine vv_iconst (v := nI 2) hx dL_law_185 (by decide) ?_
          refine vv_iaddN hx dL_law_186 ?_
          refine vv_sld hx hB dL_law_187 (j := (5 * n) + 2) (by omega) (by omega) ?_
          refine ff_sy hdj (fun hdj => ?_)
          refine ff_callV (As := [.int (xs ((5 * n) + 1)), .int (xs ((5 * n) + 2))]) hx dL_law_188 km_L_22 kq_X4_remove ki_X4_remove ks_X4_remove kl_4 hR.1 (c_X4_remove hR hL.2.2.2.2.2.2.2.2.2.2.1 _ _) hdj rfl rfl (Nat.le_of_ble_eq_true rfl) (by decide) (by decide) rfl rfl (ff_ci fun y R' hy hdj => ?_)
          refine ff_sy hdj (fun hdj => ?_)
          refine vv_icmp_eq (tgt := 604) hx dL_law_191 (by decide) (fun c_191 => ?_) (fun c_191 => ?_)
          · refine vv_iinc (u := (nI (5 * n + 5))) (lv' := [(0, .ref b), (1, .ref o), (2, .ref r), (3, .int (nI (5 * n + 5)))]) hx dL_law_604 rfl (nI_add _ 5) (by decide) rfl rfl ?_
            refine vv_goto (tgt := 18) hx dL_law_607 (by decide) ?_
            have h9 := ih (n + 1) S' R' _ W nw sf vs cn va ga ad (by omega) hz.2 hy.2 hdj hop.remove (by omega)
            rw [Nat.mul_add_one 5 n] at h9
            exact vv_room (by omega) (by omega) h9
          · exact absurd (hz.1.trans hy.1.symm) c_191
        · refine vv_tabIn (off := 164) (tgt := 196) hx dL_law_32 (by rw [c_32]; decide) (by rw [c_32]; decide) (by rw [c_32]; decide) (by decide) ?_
          refine vv_aload_n hx dL_law_196 rfl ?_
          refine vv_aload_n hx dL_law_197 rfl ?_
          refine vv_iload_n hx dL_law_198 rfl ?_
          refine vv_iconst (v := nI 1) hx dL_law_199 (by decide) ?_
          refine vv_iaddN hx dL_law_200 ?_
          refine vv_sld hx hB dL_law_201 (j := (5 * n) + 1) (by omega) (by omega) ?_
          refine vv_aload_n hx dL_law_202 rfl ?_
          refine vv_iload_n hx dL_law_203 rfl ?_
          refine vv_iconst (v := nI 2) hx dL_law_204 (by decide) ?_
          refine vv_iaddN hx dL_law_205 ?_
          refine vv_sld hx hB dL_law_206 (j := (5 * n) + 2) (by omega) (by omega) ?_
          refine ff_callV (As := [.int (xs ((5 * n) + 1)), .int (xs ((5 * n) + 2))]) hx dL_law_207 km_L_23 kq_X3_drop ki_X3_drop ks_X3_drop kl_3 hL.1.1 (c_X3_drop hL _ _) hdj rfl rfl (Nat.le_of_ble_eq_true rfl) (by decide) (by decide) rfl rfl (ff_ci fun z S' hz hdj => ?_)
          refine vv_aload_n hx dL_law_210 rfl ?_
          refine vv_aload_n hx dL_law_211 rfl ?_
          refine vv_iload_n hx dL_law_212 rfl ?_
          refine vv_iconst (v := nI 1) hx dL_law_213 (by decide) ?_
          refine vv_iaddN hx dL_law_214 ?_
          refine vv_sld hx hB dL_law_215 (j := (5 * n) + 1) (by omega) (by omega) ?_
          refine vv_aload_n hx dL_law_216 rfl ?_
          refine vv_iload_n hx dL_law_217 rfl ?_
          refine vv_iconst (v := nI 2) hx dL_law_218 (by decide) ?_
          refine vv_iaddN hx dL_law_219 ?_
          refine vv_sld hx hB dL_law_220 (j := (5 * n) + 2) (by omega) (by omega) ?_
          refine ff_sy hdj (fun hdj => ?_)
          refine ff_callV (As := [.int (xs ((5 * n) + 1)), .int (xs ((5 * n) + 2))]) hx dL_law_221 km_L_26 kq_X4_drop ki_X4_drop ks_X4_drop kl_4 hR.1 (c_X4_drop hR hL.2.2.2.2.2.2.2.2.2.2.1 _ _ (fun j hj hh => (hL.2.2.2.2.2.2.2.2.2.2.2.2.2.2.2.2 j hj hh).1)) hdj rfl rfl (Nat.le_of_ble_eq_true rfl) (by decide) (by decide) rfl rfl (ff_ci fun y R' hy hdj => ?_)
          refine ff_sy hdj (fun hdj => ?_)
          refine vv_icmp_eq (tgt := 604) hx dL_law_224 (by decide) (fun c_224 => ?_) (fun c_224 => ?_)
          · refine vv_iinc (u := (nI (5 * n + 5))) (lv' := [(0, .ref b), (1, .ref o), (2, .ref r), (3, .int (nI (5 * n + 5)))]) hx dL_law_604 rfl (nI_add _ 5) (by decide) rfl rfl ?_
            refine vv_goto (tgt := 18) hx dL_law_607 (by decide) ?_
            have h9 := ih (n + 1) S' R' _ W nw sf vs cn va ga ad (by omega) hz.2 hy.2 hdj hop.drop (by omega)
            rw [Nat.mul_add_one 5 n] at h9
            exact vv_room (by omega) (by omega) h9
          · exact absurd (hz.1.trans hy.1.symm) c_224
        · refine vv_tabIn (off := 197) (tgt := 229) hx dL_law_32 (by rw [c_32]; decide) (by rw [c_32]; decide) (by rw [c_32]; decide) (by decide) ?_
          refine vv_aload_n hx dL_law_229 rfl ?_
          refine vv_aload_n hx dL_law_230 rfl ?_
          refine vv_iload_n hx dL_law_231 rfl ?_
          refine vv_iconst (v := nI 1) hx dL_law_232 (by decide) ?_
          refine vv_iaddN hx dL_law_233 ?_
          refine vv_sld hx hB dL_law_234 (j := (5 * n) + 1) (by omega) (by omega) ?_
          refine ff_callV (As := [.int (xs ((5 * n) + 1))]) hx dL_law_235 km_L_27 kq_X3_conflict ki_X3_conflict ks_X3_conflict kl_3 hL.1.1 (c_X3_conflict hL _) hdj rfl rfl (Nat.le_of_ble_eq_true rfl) (by decide) (by decide) rfl rfl (ff_cd hdj ?_)
          refine vv_aload_n hx dL_law_238 rfl ?_
          refine vv_aload_n hx dL_law_239 rfl ?_
          refine vv_iload_n hx dL_law_240 rfl ?_
          refine vv_iconst (v := nI 1) hx dL_law_241 (by decide) ?_
          refine vv_iaddN hx dL_law_242 ?_
          refine vv_sld hx hB dL_law_243 (j := (5 * n) + 1) (by omega) (by omega) ?_
          refine ff_sy hdj (fun hdj => ?_)
          refine ff_callV (As := [.int (xs ((5 * n) + 1))]) hx dL_law_244 km_L_31 kq_X4_conflict ki_X4_conflict ks_X4_conflict kl_4 hR.1 (c_X4_conflict hR _) hdj rfl rfl (Nat.le_of_ble_eq_true rfl) (by decide) (by decide) rfl rfl (ff_cd hdj ?_)
          refine ff_sy hdj (fun hdj => ?_)
          refine vv_icmp_eq (tgt := 604) hx dL_law_247 (by decide) (fun c_247 => ?_) (fun c_247 => ?_)
          · refine vv_iinc (u := (nI (5 * n + 5))) (lv' := [(0, .ref b), (1, .ref o), (2, .ref r), (3, .int (nI (5 * n + 5)))]) hx dL_law_604 rfl (nI_add _ 5) (by decide) rfl rfl ?_
            refine vv_goto (tgt := 18) hx dL_law_607 (by decide) ?_
            have h9 := ih (n + 1) S R X W nw sf vs cn va ga ad (by omega) hL hR hdj hop.up (by omega)
            rw [Nat.mul_add_one 5 n] at h9
            exact vv_room (by omega) (by omega) h9
          · exact absurd rfl c_247
        · refine vv_tabIn (off := 220) (tgt := 252) hx dL_law_32 (by rw [c_32]; decide) (by rw [c_32]; decide) (by rw [c_32]; decide) (by decide) ?_
          refine vv_aload_n hx dL_law_252 rfl ?_
          refine ff_callV (As := []) hx dL_law_253 km_L_32 kq_X3_refresh ki_X3_refresh ks_X3_refresh kl_3 hL.1.1 (c_X3_refresh hL) hdj rfl rfl (Nat.le_of_ble_eq_true rfl) (by decide) (by decide) rfl rfl (ff_ci fun z S' hz hdj => ?_)
          refine vv_aload_n hx dL_law_256 rfl ?_
          refine ff_sy hdj (fun hdj => ?_)
          refine ff_callV (As := []) hx dL_law_257 km_L_36 kq_X4_refresh ki_X4_refresh ks_X4_refresh kl_4 hR.1 (c_X4_refresh hR hL.2.2.2.2.2.2.2.2.2.2.1 (W := W) (fun h => hXI.rH h)) hdj rfl rfl (Nat.le_of_ble_eq_true rfl) (by decide) (by decide) rfl rfl (ff_ci fun y R' hy hdj => ?_)
          refine ff_sy hdj (fun hdj => ?_)
          obtain ⟨X', hR', hsp⟩ := hy
          obtain ⟨hzy, W', va', ga', hL'⟩ := hz y X' hsp
          refine vv_icmp_eq (tgt := 604) hx dL_law_260 (by decide) (fun c_260 => ?_) (fun c_260 => ?_)
          · refine vv_iinc (u := (nI (5 * n + 5))) (lv' := [(0, .ref b), (1, .ref o), (2, .ref r), (3, .int (nI (5 * n + 5)))]) hx dL_law_604 rfl (nI_add _ 5) (by decide) rfl rfl ?_
            refine vv_goto (tgt := 18) hx dL_law_607 (by decide) ?_
            have h9 := ih (n + 1) S' R' X' W' nw sf vs cn va' ga' ad (by omega) hL' hR' hdj (hop.refresh hsp) (by omega)
            rw [Nat.mul_add_one 5 n] at h9
            exact h9
          · exact absurd hzy c_260
        · refine vv_tabIn (off := 233) (tgt := 265) hx dL_law_32 (by rw [c_32]; decide) (by rw [c_32]; decide) (by rw [c_32]; decide) (by decide) ?_
          refine vv_aload_n hx dL_law_265 rfl ?_
          refine ff_callV (As := []) hx dL_law_266 km_L_37 kq_X3_commit ki_X3_commit ks_X3_commit kl_3 hL.1.1 (c_X3_commit hL) hdj rfl rfl (Nat.le_of_ble_eq_true rfl) (by decide) (by decide) rfl rfl (ff_ci fun z S' hz hdj => ?_)
          refine vv_aload_n hx dL_law_269 rfl ?_
          refine ff_sy hdj (fun hdj => ?_)
          refine ff_callV (As := []) hx dL_law_270 km_L_40 kq_X4_commit ki_X4_commit ks_X4_commit kl_4 hR.1 (c_X4_commit hR hL.2.2.2.2.2.2.2.2.2.2.1 (W := W) (fun h => hXI.rH h)) hdj rfl rfl (Nat.le_of_ble_eq_true rfl) (by decide) (by decide) rfl rfl (ff_ci fun y R' hy hdj => ?_)
          refine ff_sy hdj (fun hdj => ?_)
          obtain ⟨X', hR', hsp⟩ := hy
          obtain ⟨hzy, W', va', ga', hL'⟩ := hz y X' hsp
          refine vv_icmp_eq (tgt := 604) hx dL_law_273 (by decide) (fun c_273 => ?_) (fun c_273 => ?_)
          · refine vv_iinc (u := (nI (5 * n + 5))) (lv' := [(0, .ref b), (1, .ref o), (2, .ref r), (3, .int (nI (5 * n + 5)))]) hx dL_law_604 rfl (nI_add _ 5) (by decide) rfl rfl ?_
            refine vv_goto (tgt := 18) hx dL_law_607 (by decide) ?_
            have h9 := ih (n + 1) S' R' X' W' nw sf vs cn va' ga' ad (by omega) hL' hR' hdj (hop.commit hsp) (by omega)
            rw [Nat.mul_add_one 5 n] at h9
            exact h9
          · exact absurd hzy c_273
        · refine vv_tabIn (off := 246) (tgt := 278) hx dL_law_32 (by rw [c_32]; decide) (by rw [c_32]; decide) (by rw [c_32]; decide) (by decide) ?_
          refine vv_aload_n hx dL_law_278 rfl ?_
          refine ff_callV (As := []) hx dL_law_279 km_L_41 kq_X3_sync ki_X3_sync ks_X3_sync kl_3 hL.1.1 (c_X3_sync hL) hdj rfl rfl (Nat.le_of_ble_eq_true rfl) (by decide) (by decide) rfl rfl (ff_ci fun z S' hz hdj => ?_)
          refine vv_aload_n hx dL_law_282 rfl ?_
          refine ff_sy hdj (fun hdj => ?_)
          refine ff_callV (As := []) hx dL_law_283 km_L_44 kq_X4_sync ki_X4_sync ks_X4_sync kl_4 hR.1 (c_X4_sync hR hL.2.2.2.2.2.2.2.2.2.2.1) hdj rfl rfl (Nat.le_of_ble_eq_true rfl) (by decide) (by decide) rfl rfl (ff_ci fun y R' hy hdj => ?_)
          refine ff_sy hdj (fun hdj => ?_)
          refine vv_icmp_eq (tgt := 604) hx dL_law_286 (by decide) (fun c_286 => ?_) (fun c_286 => ?_)
          · refine vv_iinc (u := (nI (5 * n + 5))) (lv' := [(0, .ref b), (1, .ref o), (2, .ref r), (3, .int (nI (5 * n + 5)))]) hx dL_law_604 rfl (nI_add _ 5) (by decide) rfl rfl ?_
            refine vv_goto (tgt := 18) hx dL_law_607 (by decide) ?_
            have h9 := ih (n + 1) S' R' _ W nw sf vs cn va ga ad (by omega) hz.2 hy.2 hdj hop.sync (by omega)
            rw [Nat.mul_add_one 5 n] at h9
            exact vv_room (by omega) (by omega) h9
          · exact absurd (hz.1.trans hy.1.symm) c_286
        · refine vv_tabIn (off := 259) (tgt := 291) hx dL_law_32 (by rw [c_32]; decide) (by rw [c_32]; decide) (by rw [c_32]; decide) (by decide) ?_
          refine vv_aload_n hx dL_law_291 rfl ?_
          refine ff_callV (As := []) hx dL_law_292 km_L_45 kq_X3_crash ki_X3_crash ks_X3_crash kl_3 hL.1.1 (c_X3_crash hL) hdj rfl rfl (Nat.le_of_ble_eq_true rfl) (by decide) (by decide) rfl rfl (ff_ci fun z S' hz hdj => ?_)
          refine vv_aload_n hx dL_law_295 rfl ?_
          refine ff_sy hdj (fun hdj => ?_)
          refine ff_callV (As := []) hx dL_law_296 km_L_48 kq_X4_crash ki_X4_crash ks_X4_crash kl_4 hR.1 (c_X4_crash hR hL.2.2.2.2.2.2.2.2.2.2.1 (W := W) (fun h => hXI.cr.rH (by rw [(crX_1 X).2.2 10 (by decide) (by decide)]; exact h))) hdj rfl rfl (Nat.le_of_ble_eq_true rfl) (by decide) (by decide) rfl rfl (ff_ci fun y R' hy hdj => ?_)
          refine ff_sy hdj (fun hdj => ?_)
          obtain ⟨X', hR', hsp⟩ := hy
          obtain ⟨hzy, W', va', ga', hL'⟩ := hz y X' hsp
          refine vv_icmp_eq (tgt := 604) hx dL_law_299 (by decide) (fun c_299 => ?_) (fun c_299 => ?_)
          · refine vv_iinc (u := (nI (5 * n + 5))) (lv' := [(0, .ref b), (1, .ref o), (2, .ref r), (3, .int (nI (5 * n + 5)))]) hx dL_law_604 rfl (nI_add _ 5) (by decide) rfl rfl ?_
            refine vv_goto (tgt := 18) hx dL_law_607 (by decide) ?_
            have h9 := ih (n + 1) S' R' X' W' nw sf vs cn va' ga' ad (by omega) hL' hR' hdj (hop.crash hsp) (by omega)
            rw [Nat.mul_add_one 5 n] at h9
            exact h9
          · exact absurd hzy c_299
        · refine vv_tabIn (off := 272) (tgt := 304) hx dL_law_32 (by rw [c_32]; decide) (by rw [c_32]; decide) (by rw [c_32]; decide) (by decide) ?_
          refine vv_aload_n hx dL_law_304 rfl ?_
          refine vv_aload_n hx dL_law_305 rfl ?_
          refine vv_iload_n hx dL_law_306 rfl ?_
          refine vv_iconst (v := nI 1) hx dL_law_307 (by decide) ?_
          refine vv_iaddN hx dL_law_308 ?_
          refine vv_sld hx hB dL_law_309 (j := (5 * n) + 1) (by omega) (by omega) ?_
          refine ff_callV (As := [.int (xs ((5 * n) + 1))]) hx dL_law_310 km_L_49 kq_X3_open ki_X3_open ks_X3_open kl_3 hL.1.1 (c_X3_open hL _ (fun j => by have := hop j; omega)) hdj rfl rfl (Nat.le_of_ble_eq_true rfl) (by decide) (by decide) rfl rfl (ff_ci fun z S' hz hdj => ?_)
          refine vv_aload_n hx dL_law_313 rfl ?_
          refine vv_aload_n hx dL_law_314 rfl ?_
          refine vv_iload_n hx dL_law_315 rfl ?_
          refine vv_iconst (v := nI 1) hx dL_law_316 (by decide) ?_
          refine vv_iaddN hx dL_law_317 ?_
          refine vv_sld hx hB dL_law_318 (j := (5 * n) + 1) (by omega) (by omega) ?_
          refine ff_sy hdj (fun hdj => ?_)
          refine ff_callV (As := [.int (xs ((5 * n) + 1))]) hx dL_law_319 km_L_52 kq_X4_open ki_X4_open ks_X4_open kl_4 hR.1 (c_X4_open hR hL.2.2.2.2.2.2.2.2.2.2.1 _ (fun j => by have := hop j; omega)) hdj rfl rfl (Nat.le_of_ble_eq_true rfl) (by decide) (by decide) rfl rfl (ff_ci fun y R' hy hdj => ?_)
          refine ff_sy hdj (fun hdj => ?_)
          refine vv_icmp_eq (tgt := 604) hx dL_law_322 (by decide) (fun c_322 => ?_) (fun c_322 => ?_)
          · refine vv_iinc (u := (nI (5 * n + 5))) (lv' := [(0, .ref b), (1, .ref o), (2, .ref r), (3, .int (nI (5 * n + 5)))]) hx dL_law_604 rfl (nI_add _ 5) (by decide) rfl rfl ?_
            refine vv_goto (tgt := 18) hx dL_law_607 (by decide) ?_
            have h9 := ih (n + 1) S' R' _ W nw sf vs cn va ga ad (by omega) hz.2 hy.2 hdj hop.opn (by omega)
            rw [Nat.mul_add_one 5 n] at h9
            exact vv_room (by omega) (by omega) h9
          · exact absurd (hz.1.trans hy.1.symm) c_322
        · refine vv_tabIn (off := 295) (tgt := 327) hx dL_law_32 (by rw [c_32]; decide) (by rw [c_32]; decide) (by rw [c_32]; decide) (by decide) ?_
          refine vv_aload_n hx dL_law_327 rfl ?_
          refine vv_aload_n hx dL_law_328 rfl ?_
          refine vv_iload_n hx dL_law_329 rfl ?_
          refine vv_iconst (v := nI 1) hx dL_law_330 (by decide) ?_
          refine vv_iaddN hx dL_law_331 ?_
          refine vv_sld hx hB dL_law_332 (j := (5 * n) + 1) (by omega) (by omega) ?_
          refine ff_callV (As := [.int (xs ((5 * n) + 1))]) hx dL_law_333 km_L_53 kq_X3_close ki_X3_close ks_X3_close kl_3 hL.1.1 (c_X3_close hL _) hdj rfl rfl (Nat.le_of_ble_eq_true rfl) (by decide) (by decide) rfl rfl (ff_ci fun z S' hz hdj => ?_)
          refine vv_aload_n hx dL_law_336 rfl ?_
          refine vv_aload_n hx dL_law_337 rfl ?_
          refine vv_iload_n hx dL_law_338 rfl ?_
          refine vv_iconst (v := nI 1) hx dL_law_339 (by decide) ?_
          refine vv_iaddN hx dL_law_340 ?_
          refine vv_sld hx hB dL_law_341 (j := (5 * n) + 1) (by omega) (by omega) ?_
          refine ff_sy hdj (fun hdj => ?_)
          refine ff_callV (As := [.int (xs ((5 * n) + 1))]) hx dL_law_342 km_L_56 kq_X4_close ki_X4_close ks_X4_close kl_4 hR.1 (c_X4_close hR hL.2.2.2.2.2.2.2.2.2.2.1 _) hdj rfl rfl (Nat.le_of_ble_eq_true rfl) (by decide) (by decide) rfl rfl (ff_ci fun y R' hy hdj => ?_)
          refine ff_sy hdj (fun hdj => ?_)
          refine vv_icmp_eq (tgt := 604) hx dL_law_345 (by decide) (fun c_345 => ?_) (fun c_345 => ?_)
          · refine vv_iinc (u := (nI (5 * n + 5))) (lv' := [(0, .ref b), (1, .ref o), (2, .ref r), (3, .int (nI (5 * n + 5)))]) hx dL_law_604 rfl (nI_add _ 5) (by decide) rfl rfl ?_
            refine vv_goto (tgt := 18) hx dL_law_607 (by decide) ?_
            have h9 := ih (n + 1) S' R' _ W nw sf vs cn va ga ad (by omega) hz.2 hy.2 hdj hop.close (by omega)
            rw [Nat.mul_add_one 5 n] at h9
            exact vv_room (by omega) (by omega) h9
          · exact absurd (hz.1.trans hy.1.symm) c_345
        · refine vv_tabIn (off := 318) (tgt := 350) hx dL_law_32 (by rw [c_32]; decide) (by rw [c_32]; decide) (by rw [c_32]; decide) (by decide) ?_
          refine vv_aload_n hx dL_law_350 rfl ?_
          refine vv_aload_n hx dL_law_351 rfl ?_
          refine vv_iload_n hx dL_law_352 rfl ?_
          refine vv_iconst (v := nI 1) hx dL_law_353 (by decide) ?_
          refine vv_iaddN hx dL_law_354 ?_
          refine vv_sld hx hB dL_law_355 (j := (5 * n) + 1) (by omega) (by omega) ?_
          refine ff_callV (As := [.int (xs ((5 * n) + 1))]) hx dL_law_356 km_L_57 kq_X3_get ki_X3_get ks_X3_get kl_3 hL.1.1 (c_X3_get hL _) hdj rfl rfl (Nat.le_of_ble_eq_true rfl) (by decide) (by decide) rfl rfl (ff_cd hdj ?_)
          refine vv_aload_n hx dL_law_359 rfl ?_
          refine vv_aload_n hx dL_law_360 rfl ?_
          refine vv_iload_n hx dL_law_361 rfl ?_
          refine vv_iconst (v := nI 1) hx dL_law_362 (by decide) ?_
          refine vv_iaddN hx dL_law_363 ?_
          refine vv_sld hx hB dL_law_364 (j := (5 * n) + 1) (by omega) (by omega) ?_
          refine ff_sy hdj (fun hdj => ?_)
          refine ff_callV (As := [.int (xs ((5 * n) + 1))]) hx dL_law_365 km_L_60 kq_X4_get ki_X4_get ks_X4_get kl_4 hR.1 (c_X4_get hR hL.2.2.2.2.2.2.2.2.2.2.1 _) hdj rfl rfl (Nat.le_of_ble_eq_true rfl) (by decide) (by decide) rfl rfl (ff_cd hdj ?_)
          refine ff_sy hdj (fun hdj => ?_)
          refine vv_icmp_eq (tgt := 604) hx dL_law_368 (by decide) (fun c_368 => ?_) (fun c_368 => ?_)
          · refine vv_iinc (u := (nI (5 * n + 5))) (lv' := [(0, .ref b), (1, .ref o), (2, .ref r), (3, .int (nI (5 * n + 5)))]) hx dL_law_604 rfl (nI_add _ 5) (by decide) rfl rfl ?_
            refine vv_goto (tgt := 18) hx dL_law_607 (by decide) ?_
            have h9 := ih (n + 1) S R X W nw sf vs cn va ga ad (by omega) hL hR hdj hop.up (by omega)
            rw [Nat.mul_add_one 5 n] at h9
            exact vv_room (by omega) (by omega) h9
          · exact absurd rfl c_368
        · refine vv_tabIn (off := 341) (tgt := 373) hx dL_law_32 (by rw [c_32]; decide) (by rw [c_32]; decide) (by rw [c_32]; decide) (by decide) ?_
          refine vv_aload_n hx dL_law_373 rfl ?_
          refine vv_aload_n hx dL_law_374 rfl ?_
          refine vv_iload_n hx dL_law_375 rfl ?_
          refine vv_iconst (v := nI 1) hx dL_law_376 (by decide) ?_
          refine vv_iaddN hx dL_law_377 ?_
          refine vv_sld hx hB dL_law_378 (j := (5 * n) + 1) (by omega) (by omega) ?_
          refine ff_callV (As := [.int (xs ((5 * n) + 1))]) hx dL_law_379 km_L_61 kq_X3_number ki_X3_number ks_X3_number kl_3 hL.1.1 (c_X3_number hL _) hdj rfl rfl (Nat.le_of_ble_eq_true rfl) (by decide) (by decide) rfl rfl (ff_cd hdj ?_)
          refine vv_aload_n hx dL_law_382 rfl ?_
          refine vv_aload_n hx dL_law_383 rfl ?_
          refine vv_iload_n hx dL_law_384 rfl ?_
          refine vv_iconst (v := nI 1) hx dL_law_385 (by decide) ?_
          refine vv_iaddN hx dL_law_386 ?_
          refine vv_sld hx hB dL_law_387 (j := (5 * n) + 1) (by omega) (by omega) ?_
          refine ff_sy hdj (fun hdj => ?_)
          refine ff_callV (As := [.int (xs ((5 * n) + 1))]) hx dL_law_388 km_L_64 kq_X4_number ki_X4_number ks_X4_number kl_4 hR.1 (c_X4_number hR hL.2.2.2.2.2.2.2.2.2.2.1 _) hdj rfl rfl (Nat.le_of_ble_eq_true rfl) (by decide) (by decide) rfl rfl (ff_cd hdj ?_)
          refine ff_sy hdj (fun hdj => ?_)
          refine vv_icmp_eq (tgt := 604) hx dL_law_391 (by decide) (fun c_391 => ?_) (fun c_391 => ?_)
          · refine vv_iinc (u := (nI (5 * n + 5))) (lv' := [(0, .ref b), (1, .ref o), (2, .ref r), (3, .int (nI (5 * n + 5)))]) hx dL_law_604 rfl (nI_add _ 5) (by decide) rfl rfl ?_
            refine vv_goto (tgt := 18) hx dL_law_607 (by decide) ?_
            have h9 := ih (n + 1) S R X W nw sf vs cn va ga ad (by omega) hL hR hdj hop.up (by omega)
            rw [Nat.mul_add_one 5 n] at h9
            exact vv_room (by omega) (by omega) h9
          · exact absurd rfl c_391
        · refine vv_tabIn (off := 364) (tgt := 396) hx dL_law_32 (by rw [c_32]; decide) (by rw [c_32]; decide) (by rw [c_32]; decide) (by decide) ?_
          refine vv_aload_n hx dL_law_396 rfl ?_
          refine vv_aload_n hx dL_law_397 rfl ?_
          refine vv_iload_n hx dL_law_398 rfl ?_
          refine vv_iconst (v := nI 1) hx dL_law_399 (by decide) ?_
          refine vv_iaddN hx dL_law_400 ?_
          refine vv_sld hx hB dL_law_401 (j := (5 * n) + 1) (by omega) (by omega) ?_
          refine vv_aload_n hx dL_law_402 rfl ?_
          refine vv_iload_n hx dL_law_403 rfl ?_
          refine vv_iconst (v := nI 2) hx dL_law_404 (by decide) ?_
          refine vv_iaddN hx dL_law_405 ?_
          refine vv_sld hx hB dL_law_406 (j := (5 * n) + 2) (by omega) (by omega) ?_
          refine ff_callV (As := [.int (xs ((5 * n) + 1)), .int (xs ((5 * n) + 2))]) hx dL_law_407 km_L_65 kq_X3_at ki_X3_at ks_X3_at kl_3 hL.1.1 (c_X3_at hL _ _) hdj rfl rfl (Nat.le_of_ble_eq_true rfl) (by decide) (by decide) rfl rfl (ff_cd hdj ?_)
          refine vv_aload_n hx dL_law_410 rfl ?_
          refine vv_aload_n hx dL_law_411 rfl ?_
          refine vv_iload_n hx dL_law_412 rfl ?_
          refine vv_iconst (v := nI 1) hx dL_law_413 (by decide) ?_
          refine vv_iaddN hx dL_law_414 ?_
          refine vv_sld hx hB dL_law_415 (j := (5 * n) + 1) (by omega) (by omega) ?_
          refine vv_aload_n hx dL_law_416 rfl ?_
          refine vv_iload_n hx dL_law_417 rfl ?_
          refine vv_iconst (v := nI 2) hx dL_law_418 (by decide) ?_
          refine vv_iaddN hx dL_law_419 ?_
          refine vv_sld hx hB dL_law_420 (j := (5 * n) + 2) (by omega) (by omega) ?_
          refine ff_sy hdj (fun hdj => ?_)
          refine ff_callV (As := [.int (xs ((5 * n) + 1)), .int (xs ((5 * n) + 2))]) hx dL_law_421 km_L_68 kq_X4_at ki_X4_at ks_X4_at kl_4 hR.1 (c_X4_at hR hL.2.2.2.2.2.2.2.2.2.2.1 _ _) hdj rfl rfl (Nat.le_of_ble_eq_true rfl) (by decide) (by decide) rfl rfl (ff_cd hdj ?_)
          refine ff_sy hdj (fun hdj => ?_)
          refine vv_icmp_eq (tgt := 604) hx dL_law_424 (by decide) (fun c_424 => ?_) (fun c_424 => ?_)
          · refine vv_iinc (u := (nI (5 * n + 5))) (lv' := [(0, .ref b), (1, .ref o), (2, .ref r), (3, .int (nI (5 * n + 5)))]) hx dL_law_604 rfl (nI_add _ 5) (by decide) rfl rfl ?_
            refine vv_goto (tgt := 18) hx dL_law_607 (by decide) ?_
            have h9 := ih (n + 1) S R X W nw sf vs cn va ga ad (by omega) hL hR hdj hop.up (by omega)
            rw [Nat.mul_add_one 5 n] at h9
            exact vv_room (by omega) (by omega) h9
          · exact absurd rfl c_424
        · refine vv_tabIn (off := 397) (tgt := 429) hx dL_law_32 (by rw [c_32]; decide) (by rw [c_32]; decide) (by rw [c_32]; decide) (by decide) ?_
          refine vv_aload_n hx dL_law_429 rfl ?_
          refine vv_aload_n hx dL_law_430 rfl ?_
          refine vv_iload_n hx dL_law_431 rfl ?_
          refine vv_iconst (v := nI 1) hx dL_law_432 (by decide) ?_
          refine vv_iaddN hx dL_law_433 ?_
          refine vv_sld hx hB dL_law_434 (j := (5 * n) + 1) (by omega) (by omega) ?_
          refine vv_aload_n hx dL_law_435 rfl ?_
          refine vv_iload_n hx dL_law_436 rfl ?_
          refine vv_iconst (v := nI 2) hx dL_law_437 (by decide) ?_
          refine vv_iaddN hx dL_law_438 ?_
          refine vv_sld hx hB dL_law_439 (j := (5 * n) + 2) (by omega) (by omega) ?_
          refine ff_callV (As := [.int (xs ((5 * n) + 1)), .int (xs ((5 * n) + 2))]) hx dL_law_440 km_L_69 kq_X3_find ki_X3_find ks_X3_find kl_3 hL.1.1 (c_X3_find hL _ _) hdj rfl rfl (Nat.le_of_ble_eq_true rfl) (by decide) (by decide) rfl rfl (ff_cd hdj ?_)
          refine vv_aload_n hx dL_law_443 rfl ?_
          refine vv_aload_n hx dL_law_444 rfl ?_
          refine vv_iload_n hx dL_law_445 rfl ?_
          refine vv_iconst (v := nI 1) hx dL_law_446 (by decide) ?_
          refine vv_iaddN hx dL_law_447 ?_
          refine vv_sld hx hB dL_law_448 (j := (5 * n) + 1) (by omega) (by omega) ?_
          refine vv_aload_n hx dL_law_449 rfl ?_
          refine vv_iload_n hx dL_law_450 rfl ?_
          refine vv_iconst (v := nI 2) hx dL_law_451 (by decide) ?_
          refine vv_iaddN hx dL_law_452 ?_
          refine vv_sld hx hB dL_law_453 (j := (5 * n) + 2) (by omega) (by omega) ?_
          refine ff_sy hdj (fun hdj => ?_)
          refine ff_callV (As := [.int (xs ((5 * n) + 1)), .int (xs ((5 * n) + 2))]) hx dL_law_454 km_L_72 kq_X4_find ki_X4_find ks_X4_find kl_4 hR.1 (c_X4_find hR hL.2.2.2.2.2.2.2.2.2.2.1 _ _) hdj rfl rfl (Nat.le_of_ble_eq_true rfl) (by decide) (by decide) rfl rfl (ff_cd hdj ?_)
          refine ff_sy hdj (fun hdj => ?_)
          refine vv_icmp_eq (tgt := 604) hx dL_law_457 (by decide) (fun c_457 => ?_) (fun c_457 => ?_)
          · refine vv_iinc (u := (nI (5 * n + 5))) (lv' := [(0, .ref b), (1, .ref o), (2, .ref r), (3, .int (nI (5 * n + 5)))]) hx dL_law_604 rfl (nI_add _ 5) (by decide) rfl rfl ?_
            refine vv_goto (tgt := 18) hx dL_law_607 (by decide) ?_
            have h9 := ih (n + 1) S R X W nw sf vs cn va ga ad (by omega) hL hR hdj hop.up (by omega)
            rw [Nat.mul_add_one 5 n] at h9
            exact vv_room (by omega) (by omega) h9
          · exact absurd rfl c_457
        · refine vv_tabIn (off := 430) (tgt := 462) hx dL_law_32 (by rw [c_32]; decide) (by rw [c_32]; decide) (by rw [c_32]; decide) (by decide) ?_
          refine vv_aload_n hx dL_law_462 rfl ?_
          refine vv_aload_n hx dL_law_463 rfl ?_
          refine vv_iload_n hx dL_law_464 rfl ?_
          refine vv_iconst (v := nI 1) hx dL_law_465 (by decide) ?_
          refine vv_iaddN hx dL_law_466 ?_
          refine vv_sld hx hB dL_law_467 (j := (5 * n) + 1) (by omega) (by omega) ?_
          refine vv_aload_n hx dL_law_468 rfl ?_
          refine vv_iload_n hx dL_law_469 rfl ?_
          refine vv_iconst (v := nI 2) hx dL_law_470 (by decide) ?_
          refine vv_iaddN hx dL_law_471 ?_
          refine vv_sld hx hB dL_law_472 (j := (5 * n) + 2) (by omega) (by omega) ?_
          refine vv_aload_n hx dL_law_473 rfl ?_
          refine vv_iload_n hx dL_law_474 rfl ?_
          refine vv_iconst (v := nI 3) hx dL_law_475 (by decide) ?_
          refine vv_iaddN hx dL_law_476 ?_
          refine vv_sld hx hB dL_law_477 (j := (5 * n) + 3) (by omega) (by omega) ?_
          refine vv_aload_n hx dL_law_478 rfl ?_
          refine vv_iload_n hx dL_law_479 rfl ?_
          refine vv_iconst (v := nI 4) hx dL_law_480 (by decide) ?_
          refine vv_iaddN hx dL_law_481 ?_
          refine vv_sld hx hB dL_law_482 (j := (5 * n) + 4) (by omega) (by omega) ?_
          refine ff_callV (As := [.int (xs ((5 * n) + 1)), .int (xs ((5 * n) + 2)), .int (xs ((5 * n) + 3)), .int (xs ((5 * n) + 4))]) hx dL_law_483 km_L_73 kq_X3_match ki_X3_match ks_X3_match kl_3 hL.1.1 (c_X3_match hL _ _ _ _) hdj rfl rfl (Nat.le_of_ble_eq_true rfl) (by decide) (by decide) rfl rfl (ff_cd hdj ?_)
          refine vv_aload_n hx dL_law_486 rfl ?_
          refine vv_aload_n hx dL_law_487 rfl ?_
          refine vv_iload_n hx dL_law_488 rfl ?_
          refine vv_iconst (v := nI 1) hx dL_law_489 (by decide) ?_
          refine vv_iaddN hx dL_law_490 ?_
          refine vv_sld hx hB dL_law_491 (j := (5 * n) + 1) (by omega) (by omega) ?_
          refine vv_aload_n hx dL_law_492 rfl ?_
          refine vv_iload_n hx dL_law_493 rfl ?_
          refine vv_iconst (v := nI 2) hx dL_law_494 (by decide) ?_
          refine vv_iaddN hx dL_law_495 ?_
          refine vv_sld hx hB dL_law_496 (j := (5 * n) + 2) (by omega) (by omega) ?_
          refine vv_aload_n hx dL_law_497 rfl ?_
          refine vv_iload_n hx dL_law_498 rfl ?_
          refine vv_iconst (v := nI 3) hx dL_law_499 (by decide) ?_
          refine vv_iaddN hx dL_law_500 ?_
          refine vv_sld hx hB dL_law_501 (j := (5 * n) + 3) (by omega) (by omega) ?_
          refine vv_aload_n hx dL_law_502 rfl ?_
          refine vv_iload_n hx dL_law_503 rfl ?_
          refine vv_iconst (v := nI 4) hx dL_law_504 (by decide) ?_
          refine vv_iaddN hx dL_law_505 ?_
          refine vv_sld hx hB dL_law_506 (j := (5 * n) + 4) (by omega) (by omega) ?_
          refine ff_sy hdj (fun hdj => ?_)
          refine ff_callV (As := [.int (xs ((5 * n) + 1)), .int (xs ((5 * n) + 2)), .int (xs ((5 * n) + 3)), .int (xs ((5 * n) + 4))]) hx dL_law_507 km_L_77 kq_X4_match ki_X4_match ks_X4_match kl_4 hR.1 (c_X4_match hR hL.2.2.2.2.2.2.2.2.2.2.1 _ _ _ _) hdj rfl rfl (Nat.le_of_ble_eq_true rfl) (by decide) (by decide) rfl rfl (ff_cd hdj ?_)
          refine ff_sy hdj (fun hdj => ?_)
          refine vv_icmp_eq (tgt := 604) hx dL_law_510 (by decide) (fun c_510 => ?_) (fun c_510 => ?_)
          · refine vv_iinc (u := (nI (5 * n + 5))) (lv' := [(0, .ref b), (1, .ref o), (2, .ref r), (3, .int (nI (5 * n + 5)))]) hx dL_law_604 rfl (nI_add _ 5) (by decide) rfl rfl ?_
            refine vv_goto (tgt := 18) hx dL_law_607 (by decide) ?_
            have h9 := ih (n + 1) S R X W nw sf vs cn va ga ad (by omega) hL hR hdj hop.up (by omega)
            rw [Nat.mul_add_one 5 n] at h9
            exact vv_room (by omega) (by omega) h9
          · exact absurd rfl c_510
        · refine vv_tabIn (off := 483) (tgt := 515) hx dL_law_32 (by rw [c_32]; decide) (by rw [c_32]; decide) (by rw [c_32]; decide) (by decide) ?_
          refine vv_aload_n hx dL_law_515 rfl ?_
          refine vv_aload_n hx dL_law_516 rfl ?_
          refine vv_iload_n hx dL_law_517 rfl ?_
          refine vv_iconst (v := nI 1) hx dL_law_518 (by decide) ?_
          refine vv_iaddN hx dL_law_519 ?_
          refine vv_sld hx hB dL_law_520 (j := (5 * n) + 1) (by omega) (by omega) ?_
          refine ff_callV (As := [.int (xs ((5 * n) + 1))]) hx dL_law_521 km_L_78 kq_X3_segments ki_X3_segments ks_X3_segments kl_3 hL.1.1 (c_X3_segments hL _) hdj rfl rfl (Nat.le_of_ble_eq_true rfl) (by decide) (by decide) rfl rfl (ff_cd hdj ?_)
          refine vv_aload_n hx dL_law_524 rfl ?_
          refine vv_aload_n hx dL_law_525 rfl ?_
          refine vv_iload_n hx dL_law_526 rfl ?_
          refine vv_iconst (v := nI 1) hx dL_law_527 (by decide) ?_
          refine vv_iaddN hx dL_law_528 ?_
          refine vv_sld hx hB dL_law_529 (j := (5 * n) + 1) (by omega) (by omega) ?_
          refine ff_sy hdj (fun hdj => ?_)
          refine ff_callV (As := [.int (xs ((5 * n) + 1))]) hx dL_law_530 km_L_81 kq_X4_segments ki_X4_segments ks_X4_segments kl_4 hR.1 (c_X4_segments hR hL.2.2.2.2.2.2.2.2.2.2.1 _) hdj rfl rfl (Nat.le_of_ble_eq_true rfl) (by decide) (by decide) rfl rfl (ff_cd hdj ?_)
          refine ff_sy hdj (fun hdj => ?_)
          refine vv_icmp_eq (tgt := 604) hx dL_law_533 (by decide) (fun c_533 => ?_) (fun c_533 => ?_)
          · refine vv_iinc (u := (nI (5 * n + 5))) (lv' := [(0, .ref b), (1, .ref o), (2, .ref r), (3, .int (nI (5 * n + 5)))]) hx dL_law_604 rfl (nI_add _ 5) (by decide) rfl rfl ?_
            refine vv_goto (tgt := 18) hx dL_law_607 (by decide) ?_
            have h9 := ih (n + 1) S R X W nw sf vs cn va ga ad (by omega) hL hR hdj hop.up (by omega)
            rw [Nat.mul_add_one 5 n] at h9
            exact vv_room (by omega) (by omega) h9
          · exact absurd rfl c_533
        · refine vv_tabIn (off := 506) (tgt := 538) hx dL_law_32 (by rw [c_32]; decide) (by rw [c_32]; decide) (by rw [c_32]; decide) (by decide) ?_
          refine vv_aload_n hx dL_law_538 rfl ?_
          refine vv_aload_n hx dL_law_539 rfl ?_
          refine vv_iload_n hx dL_law_540 rfl ?_
          refine vv_iconst (v := nI 1) hx dL_law_541 (by decide) ?_
          refine vv_iaddN hx dL_law_542 ?_
          refine vv_sld hx hB dL_law_543 (j := (5 * n) + 1) (by omega) (by omega) ?_
          refine vv_aload_n hx dL_law_544 rfl ?_
          refine vv_iload_n hx dL_law_545 rfl ?_
          refine vv_iconst (v := nI 2) hx dL_law_546 (by decide) ?_
          refine vv_iaddN hx dL_law_547 ?_
          refine vv_sld hx hB dL_law_548 (j := (5 * n) + 2) (by omega) (by omega) ?_
          refine vv_aload_n hx dL_law_549 rfl ?_
          refine vv_iload_n hx dL_law_550 rfl ?_
          refine vv_iconst (v := nI 3) hx dL_law_551 (by decide) ?_
          refine vv_iaddN hx dL_law_552 ?_
          refine vv_sld hx hB dL_law_553 (j := (5 * n) + 3) (by omega) (by omega) ?_
          refine ff_callV (As := [.int (xs ((5 * n) + 1)), .int (xs ((5 * n) + 2)), .int (xs ((5 * n) + 3))]) hx dL_law_554 km_L_82 kq_X3_segment ki_X3_segment ks_X3_segment kl_3 hL.1.1 (c_X3_segment hL _ _ _) hdj rfl rfl (Nat.le_of_ble_eq_true rfl) (by decide) (by decide) rfl rfl (ff_cd hdj ?_)
          refine vv_aload_n hx dL_law_557 rfl ?_
          refine vv_aload_n hx dL_law_558 rfl ?_
          refine vv_iload_n hx dL_law_559 rfl ?_
          refine vv_iconst (v := nI 1) hx dL_law_560 (by decide) ?_
          refine vv_iaddN hx dL_law_561 ?_
          refine vv_sld hx hB dL_law_562 (j := (5 * n) + 1) (by omega) (by omega) ?_
          refine vv_aload_n hx dL_law_563 rfl ?_
          refine vv_iload_n hx dL_law_564 rfl ?_
          refine vv_iconst (v := nI 2) hx dL_law_565 (by decide) ?_
          refine vv_iaddN hx dL_law_566 ?_
          refine vv_sld hx hB dL_law_567 (j := (5 * n) + 2) (by omega) (by omega) ?_
          refine vv_aload_n hx dL_law_568 rfl ?_
          refine vv_iload_n hx dL_law_569 rfl ?_
          refine vv_iconst (v := nI 3) hx dL_law_570 (by decide) ?_
          refine vv_iaddN hx dL_law_571 ?_
          refine vv_sld hx hB dL_law_572 (j := (5 * n) + 3) (by omega) (by omega) ?_
          refine ff_sy hdj (fun hdj => ?_)
          refine ff_callV (As := [.int (xs ((5 * n) + 1)), .int (xs ((5 * n) + 2)), .int (xs ((5 * n) + 3))]) hx dL_law_573 km_L_85 kq_X4_segment ki_X4_segment ks_X4_segment kl_4 hR.1 (c_X4_segment hR hL.2.2.2.2.2.2.2.2.2.2.1 _ _ _) hdj rfl rfl (Nat.le_of_ble_eq_true rfl) (by decide) (by decide) rfl rfl (ff_cd hdj ?_)
          refine ff_sy hdj (fun hdj => ?_)
          refine vv_icmp_eq (tgt := 604) hx dL_law_576 (by decide) (fun c_576 => ?_) (fun c_576 => ?_)
          · refine vv_iinc (u := (nI (5 * n + 5))) (lv' := [(0, .ref b), (1, .ref o), (2, .ref r), (3, .int (nI (5 * n + 5)))]) hx dL_law_604 rfl (nI_add _ 5) (by decide) rfl rfl ?_
            refine vv_goto (tgt := 18) hx dL_law_607 (by decide) ?_
            have h9 := ih (n + 1) S R X W nw sf vs cn va ga ad (by omega) hL hR hdj hop.up (by omega)
            rw [Nat.mul_add_one 5 n] at h9
            exact vv_room (by omega) (by omega) h9
          · exact absurd rfl c_576
        · refine vv_tabIn (off := 549) (tgt := 581) hx dL_law_32 (by rw [c_32]; decide) (by rw [c_32]; decide) (by rw [c_32]; decide) (by decide) ?_
          refine vv_aload_n hx dL_law_581 rfl ?_
          refine vv_aload_n hx dL_law_582 rfl ?_
          refine vv_iload_n hx dL_law_583 rfl ?_
          refine vv_iconst (v := nI 1) hx dL_law_584 (by decide) ?_
          refine vv_iaddN hx dL_law_585 ?_
          refine vv_sld hx hB dL_law_586 (j := (5 * n) + 1) (by omega) (by omega) ?_
          refine ff_callV (As := [.int (xs ((5 * n) + 1))]) hx dL_law_587 km_L_86 kq_X3_told ki_X3_told ks_X3_told kl_3 hL.1.1 (c_X3_told hL _ (by omega)) hdj rfl rfl (Nat.le_of_ble_eq_true rfl) (by decide) (by decide) rfl rfl (ff_ci fun z S' hz hdj => ?_)
          obtain ⟨hz1, cn', hcn', hL'⟩ := hz
          refine vv_aload_n hx dL_law_590 rfl ?_
          refine vv_aload_n hx dL_law_591 rfl ?_
          refine vv_iload_n hx dL_law_592 rfl ?_
          refine vv_iconst (v := nI 1) hx dL_law_593 (by decide) ?_
          refine vv_iaddN hx dL_law_594 ?_
          refine vv_sld hx hB dL_law_595 (j := (5 * n) + 1) (by omega) (by omega) ?_
          refine ff_sy hdj (fun hdj => ?_)
          refine ff_callV (As := [.int (xs ((5 * n) + 1))]) hx dL_law_596 km_L_89 kq_X4_told_ ki_X4_told_ ks_X4_told_ kl_4 hR.1 (c_X4_told_ hR hL.2.2.2.2.2.2.2.2.2.2.1 _) hdj rfl rfl (Nat.le_of_ble_eq_true rfl) (by decide) (by decide) rfl rfl (ff_cd hdj ?_)
          refine ff_sy hdj (fun hdj => ?_)
          refine vv_icmp_eq (tgt := 604) hx dL_law_599 (by decide) (fun c_599 => ?_) (fun c_599 => ?_)
          · refine vv_iinc (u := (nI (5 * n + 5))) (lv' := [(0, .ref b), (1, .ref o), (2, .ref r), (3, .int (nI (5 * n + 5)))]) hx dL_law_604 rfl (nI_add _ 5) (by decide) rfl rfl ?_
            refine vv_goto (tgt := 18) hx dL_law_607 (by decide) ?_
            have h9 := ih (n + 1) S' R X W nw sf vs cn' va ga ad (by omega) hL' hR hdj hop.up (by omega)
            rw [Nat.mul_add_one 5 n] at h9
            exact vv_room (by omega) (by omega) h9
          · exact absurd hz1 c_599
