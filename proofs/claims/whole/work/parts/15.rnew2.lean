set_option maxRecDepth 100000 in
set_option maxHeartbeats 4000000 in
theorem c_X4_renew {S : mm_H} {r : Nat} {ad : Nat → Nat} {X : xx_X} {W : Nat → Nat → Nat} (hR : xx_R S r ad X) (hH : rH X W) : MV yX4_renew cX4_renew 7 2 52 0 0 [.ref r] S (fun S' => ∃ X', xx_R S' r ad X' ∧ (newsB X = false ∧ X' = X ∨ newsB X = true ∧ rnR X W X')) := by
  refine MA.of (by decide) (Nat.le_of_ble_eq_true rfl) ?_
  intro x hx he hini
  have hx : vv_C x cX4_renew RX4 2 52 7 := hx
  show vv_V x 0 0 0 [(0, .ref r)] [] S
  obtain ⟨hk, hbd, hv150, h9c, hseg, hdj⟩ := id hH
  obtain ⟨k0, k1, k2, k3, k4, k5, k6, k7, k8, k9, k10, k11, k12, k13⟩ := id hk
  refine vv_aload_n hx dX4_renew_0 rfl ?_
  refine vv_callV (As := []) hx dX4_renew_1 km_X4_88 kq_X4_hasNews ki_X4_hasNews ks_X4_hasNews kl_4 hR.1 (c_X4_hasNews hR hk) rfl rfl (Nat.le_of_ble_eq_true rfl) (by decide) (by decide) rfl rfl (vv_cd ?_)
  refine vv_if_neB (tgt := 8) hx dX4_renew_4 (by decide) (fun c_4 => ?_) (fun c_4 => ?_)
  · refine vv_aload_n hx dX4_renew_8 rfl ?_
    refine rr_geti (e0 := X.1 10) 10 hx dX4_renew_9 kf_X4_29 (by decide) rfl rfl hR rfl ?_
    have b_9 : X.1 10 < 2 ^ 31 := hR.li 10
    refine vv_istore_n (lv' := [(0, .ref r), (1, .int (nI (X.1 10)))]) hx dX4_renew_12 (by decide) rfl rfl ?_
    refine vv_aload_n hx dX4_renew_13 rfl ?_
    refine rr_geti (e0 := X.1 15) 15 hx dX4_renew_14 kf_X4_48 (by decide) rfl rfl hR rfl ?_
    have b_14 : X.1 15 < 2 ^ 31 := hR.li 15
    refine vv_istore_n (lv' := [(0, .ref r), (1, .int (nI (X.1 10))), (2, .int (nI (X.1 15)))]) hx dX4_renew_17 (by decide) rfl rfl ?_
    refine vv_aload_n hx dX4_renew_18 rfl ?_
    refine rr_getr 11 hx dX4_renew_19 kf_X4_32 (by decide) rfl rfl hR ?_
    refine vv_iload_n hx dX4_renew_22 rfl ?_
    refine vv_aload_n hx dX4_renew_23 rfl ?_
    refine rr_geti (e0 := X.1 0) 0 hx dX4_renew_24 kf_X4_58 (by decide) rfl rfl hR rfl ?_
    have b_24 : X.1 0 < 2 ^ 31 := hR.li 0
    refine rr_iast (n := 150) 11 hx dX4_renew_27 rfl hR rfl (by omega) (by omega) (fun S hR => ?_)
    refine vv_aload_n hx dX4_renew_28 rfl ?_
    refine rr_getr 14 hx dX4_renew_29 kf_X4_41 (by decide) rfl rfl hR ?_
    refine vv_iload_n hx dX4_renew_32 rfl ?_
    refine vv_iconst (v := nI 0) hx dX4_renew_33 (by decide) ?_
    refine rr_iast (n := 150) 14 hx dX4_renew_34 rfl hR rfl (by omega) (by omega) (fun S hR => ?_)
    refine vv_aload_n hx dX4_renew_35 rfl ?_
    refine rr_getr 12 hx dX4_renew_36 kf_X4_35 (by decide) rfl rfl hR ?_
    refine vv_iload_n hx dX4_renew_39 rfl ?_
    refine vv_iconst (v := nI 0) hx dX4_renew_40 (by decide) ?_
    refine rr_iast (n := 150) 12 hx dX4_renew_41 rfl hR rfl (by omega) (by omega) (fun S hR => ?_)
    refine vv_iconst (v := nI 0) hx dX4_renew_42 (by decide) ?_
    refine vv_istore_n (lv' := [(0, .ref r), (1, .int (nI (X.1 10))), (2, .int (nI (X.1 15))), (3, .int (nI (0)))]) hx dX4_renew_43 (by decide) rfl rfl ?_
    refine l_X4_renew_1 hx hH (fun S Y hR hF e6 e9 hL => ?_) (X.2.1 12 (X.1 15)) 0 S _ hR (rF0 hbd k0) rfl rfl ⟨xA_s, fun j hj => by omega⟩ (by omega)
    refine vv_aload_n hx dX4_renew_112 rfl ?_
    refine rr_getr 7 hx dX4_renew_113 kf_X4_23 (by decide) rfl rfl hR ?_
    refine vv_aload_n hx dX4_renew_116 rfl ?_
    refine rr_geti (e0 := Y.1 6) 6 hx dX4_renew_117 kf_X4_82 (by decide) rfl rfl hR rfl ?_
    have b_117 : Y.1 6 < 2 ^ 31 := hR.li 6
    refine vv_iconst (v := nI 0) hx dX4_renew_120 (by decide) ?_
    refine rr_iast (n := 320) 7 hx dX4_renew_121 rfl hR rfl (by omega) (by omega) (fun S hR => ?_)
    refine vv_iconst (v := nI 0) hx dX4_renew_122 (by decide) ?_
    refine vv_istore_n (lv' := [(0, .ref r), (1, .int (nI (X.1 10))), (2, .int (nI (X.1 15))), (3, .int (nI (0)))]) hx dX4_renew_123 (by decide) rfl rfl ?_
    rw [e6] at hR
    refine l_X4_renew_2 hx hH (fun S Y hR hF e6 e9 hL hP => ?_) 16 0 S _ hR (hF.a7 (by omega) (by omega)) e6 e9 ⟨by rw [xA_o (by decide)]; exact hL.1, fun j hj hb => by rw [xA_o (by decide)]; exact hL.2 j hj hb⟩ ⟨xA_s, fun k hk => by omega⟩ rfl
    have h7r := hP.1
    have h7c : Y.2.1 7 (Y.1 6) ≤ 16 := by rw [e6, h7r]; exact cntN_le _ 16
    have hm3 := k12 (X.1 15)
    have hkc := cntN_le (keepB X W) (X.2.1 12 (X.1 15))
    have hL1 := hL.1
    refine vv_aload_n hx dX4_renew_195 rfl ?_
    refine rr_getr 7 hx dX4_renew_196 kf_X4_23 (by decide) rfl rfl hR ?_
    refine vv_aload_n hx dX4_renew_199 rfl ?_
    refine rr_geti (e0 := Y.1 6) 6 hx dX4_renew_200 kf_X4_82 (by decide) rfl rfl hR rfl ?_
    have b_200 : Y.1 6 < 2 ^ 31 := hR.li 6
    refine rr_iald (e0 := Y.2.1 7 (Y.1 6)) (n := 320) 7 hx dX4_renew_203 rfl hR rfl (by omega) (by first | rfl | simp [xA, xI, xE, xW]) ?_
    have b_203 : Y.2.1 7 (Y.1 6) < 2 ^ 31 := by have h9 := hR.lt 7 (Y.1 6); first | exact h9 | simpa [xA, xI, xE, xW] using h9
    refine vv_if_leN (tgt := 264) hx dX4_renew_204 (by decide) (by omega) (fun c_204 => ?_) (fun c_204 => ?_)
    · rw [e6] at c_204
      obtain ⟨g1, g2, g3, g4, g5⟩ := rn_old e6 e9 hL hP c_204
      refine vv_aload_n hx dX4_renew_264 rfl ?_
      refine rr_getr 12 hx dX4_renew_265 kf_X4_35 (by decide) rfl rfl hR ?_
      refine vv_iload_n hx dX4_renew_268 rfl ?_
      refine rr_iald (e0 := Y.2.1 12 (X.1 10)) (n := 150) 12 hx dX4_renew_269 rfl hR rfl (by omega) (by first | rfl | simp [xA, xI, xE, xW]) ?_
      have b_269 : Y.2.1 12 (X.1 10) < 2 ^ 31 := by have h9 := hR.lt 12 (X.1 10); first | exact h9 | simpa [xA, xI, xE, xW] using h9
      refine vv_iconst (v := nI 3) hx dX4_renew_270 (by decide) ?_
      refine vv_icmp_leN (tgt := 461) hx dX4_renew_271 (by decide) (by omega) (by omega) (fun c_271 => ?_) (fun c_271 => ?_)
      · exact l_X4_renew_end hx he hH c_4 hR ⟨hF, g5, Or.inl ⟨by omega, g1, fun _ _ => rfl, g3, g4, fun h => by rw [g2] at h; cases h⟩⟩
      · exfalso; omega
    · refine vv_aload_n hx dX4_renew_207 rfl ?_
      refine vv_dup hx dX4_renew_208 rfl ?_
      refine rr_geti (e0 := Y.1 9) 9 hx dX4_renew_209 kf_X4_85 (by decide) rfl rfl hR rfl ?_
      have b_209 : Y.1 9 < 2 ^ 31 := hR.li 9
      refine vv_aload_n hx dX4_renew_212 rfl ?_
      refine rr_getr 7 hx dX4_renew_213 kf_X4_23 (by decide) rfl rfl hR ?_
      refine vv_aload_n hx dX4_renew_216 rfl ?_
      refine rr_geti (e0 := Y.1 6) 6 hx dX4_renew_217 kf_X4_82 (by decide) rfl rfl hR rfl ?_
      have b_217 : Y.1 6 < 2 ^ 31 := hR.li 6
      refine rr_iald (e0 := Y.2.1 7 (Y.1 6)) (n := 320) 7 hx dX4_renew_220 rfl hR rfl (by omega) (by first | rfl | simp [xA, xI, xE, xW]) ?_
      have b_220 : Y.2.1 7 (Y.1 6) < 2 ^ 31 := by have h9 := hR.lt 7 (Y.1 6); first | exact h9 | simpa [xA, xI, xE, xW] using h9
      refine vv_iaddN hx dX4_renew_221 ?_
      refine rr_puti 9 hx dX4_renew_222 kf_X4_85 (by decide) rfl rfl rfl rfl hR (by omega) (fun S hR => ?_)
      refine vv_aload_n hx dX4_renew_225 rfl ?_
      refine rr_getr 13 hx dX4_renew_226 kf_X4_38 (by decide) rfl rfl hR ?_
      refine vv_iconst (v := nI 4) hx dX4_renew_229 (by decide) ?_
      refine vv_iload_n hx dX4_renew_230 rfl ?_
      refine vv_imulN hx dX4_renew_231 ?_
      refine vv_aload_n hx dX4_renew_232 rfl ?_
      refine rr_getr 12 hx dX4_renew_233 kf_X4_35 (by decide) rfl rfl hR ?_
      refine vv_iload_n hx dX4_renew_236 rfl ?_
      refine rr_iald (e0 := Y.2.1 12 (X.1 10)) (n := 150) 12 hx dX4_renew_237 rfl hR rfl (by omega) (by first | rfl | simp [xA, xI, xE, xW]) ?_
      have b_237 : Y.2.1 12 (X.1 10) < 2 ^ 31 := by have h9 := hR.lt 12 (X.1 10); first | exact h9 | simpa [xA, xI, xE, xW] using h9
      refine vv_iaddN hx dX4_renew_238 ?_
      refine vv_aload_n hx dX4_renew_239 rfl ?_
      refine rr_geti (e0 := Y.1 6) 6 hx dX4_renew_240 kf_X4_82 (by decide) rfl rfl hR rfl ?_
      have b_240 : Y.1 6 < 2 ^ 31 := hR.li 6
      refine rr_iast (n := 600) 13 hx dX4_renew_243 rfl hR rfl (by omega) (by omega) (fun S hR => ?_)
      refine vv_aload_n hx dX4_renew_244 rfl ?_
      refine rr_getr 12 hx dX4_renew_245 kf_X4_35 (by decide) rfl rfl hR ?_
      refine vv_iload_n hx dX4_renew_248 rfl ?_
      refine vv_dup2 hx dX4_renew_249 rfl rfl ?_
      refine rr_iald (e0 := Y.2.1 12 (X.1 10)) (n := 150) 12 hx dX4_renew_250 rfl hR rfl (by omega) (by first | rfl | simp [xA, xI, xE, xW]) ?_
      have b_250 : Y.2.1 12 (X.1 10) < 2 ^ 31 := by have h9 := hR.lt 12 (X.1 10); first | exact h9 | simpa [xA, xI, xE, xW] using h9
      refine vv_iconst (v := nI 1) hx dX4_renew_251 (by decide) ?_
      refine vv_iaddN hx dX4_renew_252 ?_
      refine rr_iast (n := 150) 12 hx dX4_renew_253 rfl hR rfl (by omega) (by omega) (fun S hR => ?_)
      refine vv_aload_n hx dX4_renew_254 rfl ?_
      refine vv_dup hx dX4_renew_255 rfl ?_
      refine rr_geti (e0 := Y.1 6) 6 hx dX4_renew_256 kf_X4_82 (by decide) rfl rfl hR rfl ?_
      have b_256 : Y.1 6 < 2 ^ 31 := hR.li 6
      refine vv_iconst (v := nI 1) hx dX4_renew_259 (by decide) ?_
      refine vv_iaddN hx dX4_renew_260 ?_
      refine rr_puti 6 hx dX4_renew_261 kf_X4_82 (by decide) rfl rfl rfl rfl hR (by omega) (fun S hR => ?_)
      rw [e6] at hR c_204
      obtain ⟨Z, hZ⟩ : ∃ Z, Z = (xI (xA (xA (xI Y 9 ((Y.1 9) + (Y.2.1 7 (X.1 6)))) 13 ((4 * (X.1 10)) + (Y.2.1 12 (X.1 10))) (X.1 6)) 12 (X.1 10) ((Y.2.1 12 (X.1 10)) + 1)) 6 ((X.1 6) + 1)) := ⟨_, rfl⟩
      obtain ⟨hF, g1, g2, g3, g4, g5, g6⟩ := rn_new hH hF e9 hL hP (by omega) hZ
      rw [← hZ] at hR
      refine vv_aload_n hx dX4_renew_264 rfl ?_
      refine rr_getr 12 hx dX4_renew_265 kf_X4_35 (by decide) rfl rfl hR ?_
      refine vv_iload_n hx dX4_renew_268 rfl ?_
      refine rr_iald (e0 := Z.2.1 12 (X.1 10)) (n := 150) 12 hx dX4_renew_269 rfl hR rfl (by omega) (by first | rfl | simp [xA, xI, xE, xW]) ?_
      have b_269 : Z.2.1 12 (X.1 10) < 2 ^ 31 := by have h9 := hR.lt 12 (X.1 10); first | exact h9 | simpa [xA, xI, xE, xW] using h9
      refine vv_iconst (v := nI 3) hx dX4_renew_270 (by decide) ?_
      refine vv_icmp_leN (tgt := 461) hx dX4_renew_271 (by decide) (by omega) (by omega) (fun c_271 => ?_) (fun c_271 => ?_)
      · exact l_X4_renew_end hx he hH c_4 hR ⟨hF, g6, Or.inl ⟨by omega, g1, fun _ _ => rfl, by rw [g2]; exact g3, g4, fun _ => g5⟩⟩
      · refine vv_iconst (v := nI 0) hx dX4_renew_274 (by decide) ?_
        refine vv_istore_n (lv' := [(0, .ref r), (1, .int (nI (X.1 10))), (2, .int (nI (X.1 15))), (3, .int (nI (0)))]) hx dX4_renew_275 (by decide) rfl rfl ?_
        refine vv_sipush (v := nI 1000) hx dX4_renew_276 (by decide) ?_
        refine vv_istore (lv' := [(0, .ref r), (1, .int (nI (X.1 10))), (2, .int (nI (X.1 15))), (3, .int (nI (0))), (4, .int (nI (1000)))]) hx dX4_renew_279 (by decide) rfl rfl ?_
        refine vv_iconst (v := nI 0) hx dX4_renew_281 (by decide) ?_
        refine vv_istore (lv' := [(0, .ref r), (1, .int (nI (X.1 10))), (2, .int (nI (X.1 15))), (3, .int (nI (0))), (4, .int (nI (1000))), (5, .int (nI (0)))]) hx dX4_renew_282 (by decide) rfl rfl ?_
        have hl : l1N X W = 4 := by
          have h9 : l1N X W ≤ 4 := by unfold l1N kcN; cases nwB X <;> simp <;> omega
          omega
        have hsg := fun t (ht : t < 4) => g6.seg hH hF (fun _ => g5) (t := t) (by omega)
        rw [g2] at hsg
        simp only [cond_true] at hsg
        have hbq := (bst_lt (sumq X W (fun t => Z.2.1 13 (4 * X.1 10 + t))) 3).1
        exact l_X4_renew_b (q := fun t => Z.2.1 13 (4 * X.1 10 + t)) hx hH hR hF (fun t _ => rfl) (by omega) (fun t ht => ⟨by have := (hsg t ht).1; omega, (hsg t ht).2⟩) (fun lw i => l_X4_renew_m hx he hH c_4 g6 hl hbq g2 hR hF g3 g4 (by omega) g5 (fun t _ => rfl)) 3 0 rfl
  · exact vv_vret hx he dX4_renew_7 ⟨rfl, X, hR, Or.inl ⟨c_4, rfl⟩⟩
