set_option maxRecDepth 100000 in
set_option maxHeartbeats 4000000 in
theorem l_X4_renew_1 {r : Nat} {ad : Nat → Nat} {X : xx_X} {W : Nat → Nat → Nat} {x : vv_X} (hx : vv_C x cX4_renew RX4 2 52 7) (hH : rH X W) (cont : ∀ (S : mm_H) (Y : xx_X), xx_R S r ad Y → rF X Y → Y.1 6 = X.1 6 → Y.1 9 = X.1 9 → lstK X W Y (X.2.1 12 (X.1 15)) → vv_V x 0 0 112 [(0, .ref r), (1, .int (nI (X.1 10))), (2, .int (nI (X.1 15)))] [] S) : ∀ d i (S : mm_H) (Y : xx_X), xx_R S r ad Y → rF X Y → Y.1 6 = X.1 6 → Y.1 9 = X.1 9 → lstK X W Y i → i + d = X.2.1 12 (X.1 15) → vv_V x 0 0 44 [(0, .ref r), (1, .int (nI (X.1 10))), (2, .int (nI (X.1 15))), (3, .int (nI (i)))] [] S := by
  obtain ⟨hk, hbd, hv150, h9c, hseg, hdj⟩ := id hH
  obtain ⟨k0, k1, k2, k3, k4, k5, k6, k7, k8, k9, k10, k11, k12, k13⟩ := id hk
  have hm3 := k12 (X.1 15)
  intro d
  induction d with
  | zero =>
    intro i S Y hR hF e6 e9 hL hi
    have e12 : Y.2.1 12 (X.1 15) = X.2.1 12 (X.1 15) := (hF.2.2.2.2.2.1 _ (by omega)).2.1
    have ei : i = X.2.1 12 (X.1 15) := by omega
    refine vv_iload_n hx dX4_renew_44 rfl ?_
    refine vv_aload_n hx dX4_renew_45 rfl ?_
    refine rr_getr 12 hx dX4_renew_46 kf_X4_35 (by decide) rfl rfl hR ?_
    refine vv_iload_n hx dX4_renew_49 rfl ?_
    refine rr_iald (e0 := Y.2.1 12 (X.1 15)) (n := 150) 12 hx dX4_renew_50 rfl hR rfl (by omega) (by first | rfl | simp [xA, xI, xE, xW]) ?_
    have b_50 : Y.2.1 12 (X.1 15) < 2 ^ 31 := by have h9 := hR.lt 12 (X.1 15); first | exact h9 | simpa [xA, xI, xE, xW] using h9
    refine vv_icmp_geN (tgt := 112) hx dX4_renew_51 (by decide) (by omega) (by omega) (fun c_51 => ?_) (fun c_51 => ?_)
    · exact vv_sub [0, 1, 2] rfl (cont S Y hR hF e6 e9 (by rw [← ei]; exact hL))
    · exfalso; omega
  | succ d ih =>
    intro i S Y hR hF e6 e9 hL hi
    have e12 : Y.2.1 12 (X.1 15) = X.2.1 12 (X.1 15) := (hF.2.2.2.2.2.1 _ (by omega)).2.1
    have e13 : Y.2.1 13 (4 * X.1 15 + i) = X.2.1 13 (4 * X.1 15 + i) := hF.2.2.2.2.2.2.1 _ (by omega)
    have e0 : Y.1 0 = X.1 0 := hF.1 0 (by decide) (by decide)
    obtain ⟨hs1, hs2, -⟩ := hseg i (by omega)
    have hbY : xx_bd Y := hF.2.2.2.2.2.2.2.2.2.2
    have hlv : liveN Y (Y.2.1 13 (4 * X.1 15 + i)) (Y.1 0) = lvW (X.2.1 1) (W (X.2.1 13 (4 * X.1 15 + i))) (X.1 0) := by
      rw [e13, e0, lvW_of (hs2.toF hF hs1), hF.2.1]
    have hl16 := lvW_le (X.2.1 1) (W (X.2.1 13 (4 * X.1 15 + i))) (X.1 0)
    have hc3 := cntN_le (keepB X W) i
    have hmv := hL.1
    refine vv_iload_n hx dX4_renew_44 rfl ?_
    refine vv_aload_n hx dX4_renew_45 rfl ?_
    refine rr_getr 12 hx dX4_renew_46 kf_X4_35 (by decide) rfl rfl hR ?_
    refine vv_iload_n hx dX4_renew_49 rfl ?_
    refine rr_iald (e0 := Y.2.1 12 (X.1 15)) (n := 150) 12 hx dX4_renew_50 rfl hR rfl (by omega) (by first | rfl | simp [xA, xI, xE, xW]) ?_
    have b_50 : Y.2.1 12 (X.1 15) < 2 ^ 31 := by have h9 := hR.lt 12 (X.1 15); first | exact h9 | simpa [xA, xI, xE, xW] using h9
    refine vv_icmp_geN (tgt := 112) hx dX4_renew_51 (by decide) (by omega) (by omega) (fun c_51 => ?_) (fun c_51 => ?_)
    · exfalso; omega
    · refine vv_aload_n hx dX4_renew_54 rfl ?_
      refine rr_getr 13 hx dX4_renew_55 kf_X4_38 (by decide) rfl rfl hR ?_
      refine vv_iconst (v := nI 4) hx dX4_renew_58 (by decide) ?_
      refine vv_iload_n hx dX4_renew_59 rfl ?_
      refine vv_imulN hx dX4_renew_60 ?_
      refine vv_iload_n hx dX4_renew_61 rfl ?_
      refine vv_iaddN hx dX4_renew_62 ?_
      refine rr_iald (e0 := Y.2.1 13 ((4 * (X.1 15)) + i)) (n := 600) 13 hx dX4_renew_63 rfl hR rfl (by omega) (by first | rfl | simp [xA, xI, xE, xW]) ?_
      have b_63 : Y.2.1 13 ((4 * (X.1 15)) + i) < 2 ^ 31 := by have h9 := hR.lt 13 ((4 * (X.1 15)) + i); first | exact h9 | simpa [xA, xI, xE, xW] using h9
      refine vv_istore (lv' := [(0, .ref r), (1, .int (nI (X.1 10))), (2, .int (nI (X.1 15))), (3, .int (nI (i))), (4, .int (nI (Y.2.1 13 ((4 * (X.1 15)) + i))))]) hx dX4_renew_64 (by decide) rfl rfl ?_
      refine vv_aload_n hx dX4_renew_66 rfl ?_
      refine vv_iload hx dX4_renew_67 rfl ?_
      refine vv_aload_n hx dX4_renew_69 rfl ?_
      refine rr_geti (e0 := Y.1 0) 0 hx dX4_renew_70 kf_X4_58 (by decide) rfl rfl hR rfl ?_
      have b_70 : Y.1 0 < 2 ^ 31 := hR.li 0
      refine vv_callV (As := [.int (nI (Y.2.1 13 ((4 * (X.1 15)) + i))), .int (nI (Y.1 0))]) hx dX4_renew_73 km_X4_92 kq_X4_live ki_X4_live ks_X4_live kl_4 hR.1 (c_X4_live hR hbY.k9 hbY.k10 hbY.k7 (by omega) (by omega)) rfl rfl (Nat.le_of_ble_eq_true rfl) (by decide) (by decide) rfl rfl (vv_cd ?_)
      refine vv_if_leN (tgt := 106) hx dX4_renew_76 (by decide) (by omega) (fun c_76 => ?_) (fun c_76 => ?_)
      · refine vv_iinc (u := (nI (i + 1))) (lv' := [(0, .ref r), (1, .int (nI (X.1 10))), (2, .int (nI (X.1 15))), (3, .int (nI (i + 1))), (4, .int (nI (Y.2.1 13 ((4 * (X.1 15)) + i))))]) hx dX4_renew_106 rfl (nI_1 _) (by decide) rfl rfl ?_
        refine vv_goto (tgt := 44) hx dX4_renew_109 (by decide) ?_
        refine vv_sub [0, 1, 2, 3] rfl (ih (i + 1) S Y hR hF e6 e9 (hL.skip (decide_eq_false (by omega))) (by omega))
      · refine vv_aload_n hx dX4_renew_79 rfl ?_
        refine rr_getr 13 hx dX4_renew_80 kf_X4_38 (by decide) rfl rfl hR ?_
        refine vv_iconst (v := nI 4) hx dX4_renew_83 (by decide) ?_
        refine vv_iload_n hx dX4_renew_84 rfl ?_
        refine vv_imulN hx dX4_renew_85 ?_
        refine vv_aload_n hx dX4_renew_86 rfl ?_
        refine rr_getr 12 hx dX4_renew_87 kf_X4_35 (by decide) rfl rfl hR ?_
        refine vv_iload_n hx dX4_renew_90 rfl ?_
        refine rr_iald (e0 := Y.2.1 12 (X.1 10)) (n := 150) 12 hx dX4_renew_91 rfl hR rfl (by omega) (by first | rfl | simp [xA, xI, xE, xW]) ?_
        have b_91 : Y.2.1 12 (X.1 10) < 2 ^ 31 := by have h9 := hR.lt 12 (X.1 10); first | exact h9 | simpa [xA, xI, xE, xW] using h9
        refine vv_iaddN hx dX4_renew_92 ?_
        refine vv_iload hx dX4_renew_93 rfl ?_
        refine rr_iast (n := 600) 13 hx dX4_renew_95 rfl hR rfl (by omega) (by omega) (fun S hR => ?_)
        refine vv_aload_n hx dX4_renew_96 rfl ?_
        refine rr_getr 12 hx dX4_renew_97 kf_X4_35 (by decide) rfl rfl hR ?_
        refine vv_iload_n hx dX4_renew_100 rfl ?_
        refine vv_dup2 hx dX4_renew_101 rfl rfl ?_
        refine rr_iald (e0 := Y.2.1 12 (X.1 10)) (n := 150) 12 hx dX4_renew_102 rfl hR rfl (by omega) (by first | rfl | simp [xA, xI, xE, xW]) ?_
        have b_102 : Y.2.1 12 (X.1 10) < 2 ^ 31 := by have h9 := hR.lt 12 (X.1 10); first | exact h9 | simpa [xA, xI, xE, xW] using h9
        refine vv_iconst (v := nI 1) hx dX4_renew_103 (by decide) ?_
        refine vv_iaddN hx dX4_renew_104 ?_
        refine rr_iast (n := 150) 12 hx dX4_renew_105 rfl hR rfl (by omega) (by omega) (fun S hR => ?_)
        refine vv_iinc (u := (nI (i + 1))) (lv' := [(0, .ref r), (1, .int (nI (X.1 10))), (2, .int (nI (X.1 15))), (3, .int (nI (i + 1))), (4, .int (nI (Y.2.1 13 ((4 * (X.1 15)) + i))))]) hx dX4_renew_106 rfl (nI_1 _) (by decide) rfl rfl ?_
        refine vv_goto (tgt := 44) hx dX4_renew_109 (by decide) ?_
        refine vv_sub [0, 1, 2, 3] rfl (ih (i + 1) S _ hR ((hF.a13 (by omega) (by omega)).a12 (by omega)) e6 e9 (hL.put (decide_eq_true (by omega)) e13) (by omega))
set_option maxRecDepth 100000 in
set_option maxHeartbeats 4000000 in
theorem l_X4_renew_2 {r : Nat} {ad : Nat → Nat} {X : xx_X} {W : Nat → Nat → Nat} {x : vv_X} (hx : vv_C x cX4_renew RX4 2 52 7) (hH : rH X W) (cont : ∀ (S : mm_H) (Y : xx_X), xx_R S r ad Y → rF X Y → Y.1 6 = X.1 6 → Y.1 9 = X.1 9 → lstK X W Y (X.2.1 12 (X.1 15)) → rkO Y (X.1 6) (newW X) 16 → vv_V x 0 0 195 [(0, .ref r), (1, .int (nI (X.1 10))), (2, .int (nI (X.1 15)))] [] S) : ∀ d K (S : mm_H) (Y : xx_X), xx_R S r ad Y → rF X Y → Y.1 6 = X.1 6 → Y.1 9 = X.1 9 → lstK X W Y (X.2.1 12 (X.1 15)) → rkO Y (X.1 6) (newW X) K → K + d = 16 → vv_V x 0 0 124 [(0, .ref r), (1, .int (nI (X.1 10))), (2, .int (nI (X.1 15))), (3, .int (nI (K)))] [] S := by
  obtain ⟨hk, hbd, hv150, h9c, hseg, hdj⟩ := id hH
  obtain ⟨k0, k1, k2, k3, k4, k5, k6, k7, k8, k9, k10, k11, k12, k13⟩ := id hk
  intro d
  induction d with
  | zero =>
    intro K S Y hR hF e6 e9 hL hP hd
    have eK : K = 16 := by omega
    subst eK
    refine vv_iload_n hx dX4_renew_124 rfl ?_
    refine vv_bipush (v := nI 16) hx dX4_renew_125 (by decide) ?_
    refine vv_icmp_geN (tgt := 195) hx dX4_renew_127 (by decide) (by omega) (by omega) (fun c_127 => ?_) (fun c_127 => ?_)
    · exact vv_sub [0, 1, 2] rfl (cont S Y hR hF e6 e9 hL hP)
    · exfalso; omega
  | succ d ih =>
    intro K S Y hR hF e6 e9 hL hP hd
    have e11 : Y.2.1 11 (X.1 15) = X.2.1 11 (X.1 15) := (hF.2.2.2.2.2.1 _ (by omega)).1
    have e0 : Y.1 0 = X.1 0 := hF.1 0 (by decide) (by decide)
    have ewr : wr Y K (Y.1 0) = wr X K (X.1 0) := by unfold wr; rw [hF.2.1, hF.2.2.1, e0]
    have hwl := wr_le X K (X.1 0)
    have hcK := cntN_le (nz (newW X)) K
    have h7 := hP.1
    have h7b : Y.2.1 7 (Y.1 6) ≤ K := by rw [e6]; omega
    refine vv_iload_n hx dX4_renew_124 rfl ?_
    refine vv_bipush (v := nI 16) hx dX4_renew_125 (by decide) ?_
    refine vv_icmp_geN (tgt := 195) hx dX4_renew_127 (by decide) (by omega) (by omega) (fun c_127 => ?_) (fun c_127 => ?_)
    · exfalso; omega
    · refine vv_aload_n hx dX4_renew_130 rfl ?_
      refine vv_iload_n hx dX4_renew_131 rfl ?_
      refine vv_aload_n hx dX4_renew_132 rfl ?_
      refine rr_geti (e0 := Y.1 0) 0 hx dX4_renew_133 kf_X4_58 (by decide) rfl rfl hR rfl ?_
      have b_133 : Y.1 0 < 2 ^ 31 := hR.li 0
      refine vv_callV (As := [.int (nI (K)), .int (nI (Y.1 0))]) hx dX4_renew_136 km_X4_61 kq_X4_written ki_X4_written ks_X4_written kl_4 hR.1 (c_X4_written hR (by omega) (by omega)) rfl rfl (Nat.le_of_ble_eq_true rfl) (by decide) (by decide) rfl rfl (vv_cd ?_)
      refine vv_istore (lv' := [(0, .ref r), (1, .int (nI (X.1 10))), (2, .int (nI (X.1 15))), (3, .int (nI (K))), (4, .int (nI (wr Y K (Y.1 0))))]) hx dX4_renew_139 (by decide) rfl rfl ?_
      refine vv_iload hx dX4_renew_141 rfl ?_
      refine vv_aload_n hx dX4_renew_143 rfl ?_
      refine rr_getr 11 hx dX4_renew_144 kf_X4_32 (by decide) rfl rfl hR ?_
      refine vv_iload_n hx dX4_renew_147 rfl ?_
      refine rr_iald (e0 := Y.2.1 11 (X.1 15)) (n := 150) 11 hx dX4_renew_148 rfl hR rfl (by omega) (by first | rfl | simp [xA, xI, xE, xW]) ?_
      have b_148 : Y.2.1 11 (X.1 15) < 2 ^ 31 := by have h9 := hR.lt 11 (X.1 15); first | exact h9 | simpa [xA, xI, xE, xW] using h9
      refine vv_icmp_leN (tgt := 189) hx dX4_renew_149 (by decide) (by omega) (by omega) (fun c_149 => ?_) (fun c_149 => ?_)
      · refine vv_iinc (u := (nI (K + 1))) (lv' := [(0, .ref r), (1, .int (nI (X.1 10))), (2, .int (nI (X.1 15))), (3, .int (nI (K + 1))), (4, .int (nI (wr Y K (Y.1 0))))]) hx dX4_renew_189 rfl (nI_1 _) (by decide) rfl rfl ?_
        refine vv_goto (tgt := 124) hx dX4_renew_192 (by decide) ?_
        refine vv_sub [0, 1, 2, 3] rfl (ih (K + 1) S Y hR hF e6 e9 hL (hP.skip (by unfold newW; rw [if_neg (by omega)])) (by omega))
      · refine vv_aload_n hx dX4_renew_152 rfl ?_
        refine rr_getr 8 hx dX4_renew_153 kf_X4_26 (by decide) rfl rfl hR ?_
        refine vv_bipush (v := nI 16) hx dX4_renew_156 (by decide) ?_
        refine vv_aload_n hx dX4_renew_158 rfl ?_
        refine rr_geti (e0 := Y.1 6) 6 hx dX4_renew_159 kf_X4_82 (by decide) rfl rfl hR rfl ?_
        have b_159 : Y.1 6 < 2 ^ 31 := hR.li 6
        refine vv_imulN hx dX4_renew_162 ?_
        refine vv_aload_n hx dX4_renew_163 rfl ?_
        refine rr_getr 7 hx dX4_renew_164 kf_X4_23 (by decide) rfl rfl hR ?_
        refine vv_aload_n hx dX4_renew_167 rfl ?_
        refine rr_geti (e0 := Y.1 6) 6 hx dX4_renew_168 kf_X4_82 (by decide) rfl rfl hR rfl ?_
        have b_168 : Y.1 6 < 2 ^ 31 := hR.li 6
        refine rr_iald (e0 := Y.2.1 7 (Y.1 6)) (n := 320) 7 hx dX4_renew_171 rfl hR rfl (by omega) (by first | rfl | simp [xA, xI, xE, xW]) ?_
        have b_171 : Y.2.1 7 (Y.1 6) < 2 ^ 31 := by have h9 := hR.lt 7 (Y.1 6); first | exact h9 | simpa [xA, xI, xE, xW] using h9
        refine vv_iaddN hx dX4_renew_172 ?_
        refine vv_iload hx dX4_renew_173 rfl ?_
        refine rr_iast (n := 5120) 8 hx dX4_renew_175 rfl hR rfl (by omega) (by omega) (fun S hR => ?_)
        refine vv_aload_n hx dX4_renew_176 rfl ?_
        refine rr_getr 7 hx dX4_renew_177 kf_X4_23 (by decide) rfl rfl hR ?_
        refine vv_aload_n hx dX4_renew_180 rfl ?_
        refine rr_geti (e0 := Y.1 6) 6 hx dX4_renew_181 kf_X4_82 (by decide) rfl rfl hR rfl ?_
        have b_181 : Y.1 6 < 2 ^ 31 := hR.li 6
        refine vv_dup2 hx dX4_renew_184 rfl rfl ?_
        refine rr_iald (e0 := Y.2.1 7 (Y.1 6)) (n := 320) 7 hx dX4_renew_185 rfl hR rfl (by omega) (by first | rfl | simp [xA, xI, xE, xW]) ?_
        have b_185 : Y.2.1 7 (Y.1 6) < 2 ^ 31 := by have h9 := hR.lt 7 (Y.1 6); first | exact h9 | simpa [xA, xI, xE, xW] using h9
        refine vv_iconst (v := nI 1) hx dX4_renew_186 (by decide) ?_
        refine vv_iaddN hx dX4_renew_187 ?_
        refine rr_iast (n := 320) 7 hx dX4_renew_188 rfl hR rfl (by omega) (by omega) (fun S hR => ?_)
        refine vv_iinc (u := (nI (K + 1))) (lv' := [(0, .ref r), (1, .int (nI (X.1 10))), (2, .int (nI (X.1 15))), (3, .int (nI (K + 1))), (4, .int (nI (wr Y K (Y.1 0))))]) hx dX4_renew_189 rfl (nI_1 _) (by decide) rfl rfl ?_
        refine vv_goto (tgt := 124) hx dX4_renew_192 (by decide) ?_
        have enw : newW X K = wr Y K (Y.1 0) := by unfold newW; rw [if_pos (by omega), ewr]
        rw [e6] at hR
        refine vv_sub [0, 1, 2, 3] rfl (ih (K + 1) S _ hR ((hF.a8 (by omega) (by omega)).a7 (by omega) (by omega)) e6 e9 ?_ (hP.put enw (by omega)) (by omega))
        refine ⟨?_, fun j hj hj2 => ?_⟩
        · rw [xA_o (by decide), xA_o (by decide)]; exact hL.1
        · rw [xA_o (by decide), xA_o (by decide)]; exact hL.2 j hj hj2
set_option maxRecDepth 100000 in
set_option maxHeartbeats 4000000 in
theorem l_X4_renew_end {r : Nat} {ad : Nat → Nat} {X : xx_X} {W : Nat → Nat → Nat} {x : vv_X} (hx : vv_C x cX4_renew RX4 2 52 7) (he : vv_E x none (fun zz S' => zz = none ∧ (fun S' => ∃ X', xx_R S' r ad X' ∧ (newsB X = false ∧ X' = X ∨ newsB X = true ∧ rnR X W X')) S')) (hH : rH X W) (hnw : newsB X = true) {S : mm_H} {Y : xx_X} {q : Nat → Nat} (hR : xx_R S r ad Y) (hY : rnY X W Y q) : vv_V x 0 0 461 [(0, .ref r), (1, .int (nI (X.1 10))), (2, .int (nI (X.1 15)))] [] S := by
  obtain ⟨hk, hbd, hv150, h9c, hseg, hdj⟩ := id hH
  obtain ⟨k0, k1, k2, k3, k4, k5, k6, k7, k8, k9, k10, k11, k12, k13⟩ := id hk
  have e10 : Y.1 10 = X.1 10 := hY.1.1 10 (by decide) (by decide)
  refine vv_aload_n hx dX4_renew_461 rfl ?_
  refine vv_dup hx dX4_renew_462 rfl ?_
  refine rr_geti (e0 := Y.1 10) 10 hx dX4_renew_463 kf_X4_29 (by decide) rfl rfl hR rfl ?_
  have b_463 : Y.1 10 < 2 ^ 31 := hR.li 10
  refine vv_iconst (v := nI 1) hx dX4_renew_466 (by decide) ?_
  refine vv_iaddN hx dX4_renew_467 ?_
  refine rr_puti 10 hx dX4_renew_468 kf_X4_29 (by decide) rfl rfl rfl rfl hR (by omega) (fun S hR => ?_)
  refine vv_aload_n hx dX4_renew_471 rfl ?_
  refine vv_iload_n hx dX4_renew_472 rfl ?_
  refine rr_puti 15 hx dX4_renew_473 kf_X4_48 (by decide) rfl rfl rfl rfl hR (by omega) (fun S hR => ?_)
  exact vv_vret hx he dX4_renew_476 ⟨rfl, _, hR, Or.inr ⟨hnw, Y, q, hY, by rw [e10]⟩⟩
set_option maxRecDepth 100000 in
set_option maxHeartbeats 4000000 in
theorem l_X4_renew_b {r : Nat} {ad : Nat → Nat} {X : xx_X} {W : Nat → Nat → Nat} {x : vv_X} (hx : vv_C x cX4_renew RX4 2 52 7) (hH : rH X W) {S : mm_H} {Y : xx_X} {q : Nat → Nat} (hR : xx_R S r ad Y) (hF : rF X Y) (hq : ∀ t, t < 4 → Y.2.1 13 (4 * X.1 10 + t) = q t) (h4 : Y.2.1 12 (X.1 10) = 4) (hsg : ∀ t, t < 4 → q t < 320 ∧ sgR Y (q t) (W1 X W (q t))) (cont : ∀ lw i, vv_V x 0 0 360 [(0, .ref r), (1, .int (nI (X.1 10))), (2, .int (nI (X.1 15))), (3, .int (nI (bestq X W q))), (4, .int (nI (lw))), (5, .int (nI (i)))] [] S) : ∀ d i, i + d = 3 → vv_V x 0 0 284 [(0, .ref r), (1, .int (nI (X.1 10))), (2, .int (nI (X.1 15))), (3, .int (nI ((bst (sumq X W q) i).1))), (4, .int (nI ((bst (sumq X W q) i).2))), (5, .int (nI (i)))] [] S := by
  obtain ⟨hk, hbd, hv150, h9c, hseg, hdj⟩ := id hH
  obtain ⟨k0, k1, k2, k3, k4, k5, k6, k7, k8, k9, k10, k11, k12, k13⟩ := id hk
  have e0 : Y.1 0 = X.1 0 := hF.1 0 (by decide) (by decide)
  have hbY : xx_bd Y := hF.2.2.2.2.2.2.2.2.2.2
  have hlv : ∀ t, t < 4 → liveN Y (Y.2.1 13 (4 * X.1 10 + t)) (Y.1 0) = lvW (X.2.1 1) (W1 X W (q t)) (X.1 0) := fun t ht => by
    rw [hq t ht, e0, lvW_of (hsg t ht).2, hF.2.1]
  intro d
  induction d with
  | zero =>
    intro i hi
    have ei : i = 3 := by omega
    subst ei
    refine vv_iload hx dX4_renew_284 rfl ?_
    refine vv_iconst (v := nI 1) hx dX4_renew_286 (by decide) ?_
    refine vv_iaddN hx dX4_renew_287 ?_
    refine vv_aload_n hx dX4_renew_288 rfl ?_
    refine rr_getr 12 hx dX4_renew_289 kf_X4_35 (by decide) rfl rfl hR ?_
    refine vv_iload_n hx dX4_renew_292 rfl ?_
    refine rr_iald (e0 := Y.2.1 12 (X.1 10)) (n := 150) 12 hx dX4_renew_293 rfl hR rfl (by omega) (by first | rfl | simp [xA, xI, xE, xW]) ?_
    have b_293 : Y.2.1 12 (X.1 10) < 2 ^ 31 := by have h9 := hR.lt 12 (X.1 10); first | exact h9 | simpa [xA, xI, xE, xW] using h9
    refine vv_icmp_geN (tgt := 360) hx dX4_renew_294 (by decide) (by omega) (by omega) (fun c_294 => ?_) (fun c_294 => ?_)
    · exact cont _ _
    · exfalso; omega
  | succ d ih =>
    intro i hi
    have hb := bst_lt (sumq X W q) i
    have l1 := lvW_le (X.2.1 1) (W1 X W (q i)) (X.1 0)
    have l2 := lvW_le (X.2.1 1) (W1 X W (q (i + 1))) (X.1 0)
    have v1 := hlv i (by omega)
    have v2 := hlv (i + 1) (by omega)
    have s1 := (hsg i (by omega)).1
    have s2 := (hsg (i + 1) (by omega)).1
    have t1 := hq i (by omega)
    have t2 := hq (i + 1) (by omega)
    rw [← Nat.add_assoc] at v2 t2
    have esum : liveN Y (Y.2.1 13 (4 * X.1 10 + i)) (Y.1 0) + liveN Y (Y.2.1 13 (4 * X.1 10 + i + 1)) (Y.1 0) = sumq X W q i := by rw [v1, v2]; rfl
    have ebst := bst_s (sumq X W q) i
    refine vv_iload hx dX4_renew_284 rfl ?_
    refine vv_iconst (v := nI 1) hx dX4_renew_286 (by decide) ?_
    refine vv_iaddN hx dX4_renew_287 ?_
    refine vv_aload_n hx dX4_renew_288 rfl ?_
    refine rr_getr 12 hx dX4_renew_289 kf_X4_35 (by decide) rfl rfl hR ?_
    refine vv_iload_n hx dX4_renew_292 rfl ?_
    refine rr_iald (e0 := Y.2.1 12 (X.1 10)) (n := 150) 12 hx dX4_renew_293 rfl hR rfl (by omega) (by first | rfl | simp [xA, xI, xE, xW]) ?_
    have b_293 : Y.2.1 12 (X.1 10) < 2 ^ 31 := by have h9 := hR.lt 12 (X.1 10); first | exact h9 | simpa [xA, xI, xE, xW] using h9
    refine vv_icmp_geN (tgt := 360) hx dX4_renew_294 (by decide) (by omega) (by omega) (fun c_294 => ?_) (fun c_294 => ?_)
    · exfalso; omega
    · refine vv_aload_n hx dX4_renew_297 rfl ?_
      refine vv_aload_n hx dX4_renew_298 rfl ?_
      refine rr_getr 13 hx dX4_renew_299 kf_X4_38 (by decide) rfl rfl hR ?_
      refine vv_iconst (v := nI 4) hx dX4_renew_302 (by decide) ?_
      refine vv_iload_n hx dX4_renew_303 rfl ?_
      refine vv_imulN hx dX4_renew_304 ?_
      refine vv_iload hx dX4_renew_305 rfl ?_
      refine vv_iaddN hx dX4_renew_307 ?_
      refine rr_iald (e0 := Y.2.1 13 ((4 * (X.1 10)) + i)) (n := 600) 13 hx dX4_renew_308 rfl hR rfl (by omega) (by first | rfl | simp [xA, xI, xE, xW]) ?_
      have b_308 : Y.2.1 13 ((4 * (X.1 10)) + i) < 2 ^ 31 := by have h9 := hR.lt 13 ((4 * (X.1 10)) + i); first | exact h9 | simpa [xA, xI, xE, xW] using h9
      refine vv_aload_n hx dX4_renew_309 rfl ?_
      refine rr_geti (e0 := Y.1 0) 0 hx dX4_renew_310 kf_X4_58 (by decide) rfl rfl hR rfl ?_
      have b_310 : Y.1 0 < 2 ^ 31 := hR.li 0
      refine vv_callV (As := [.int (nI (Y.2.1 13 ((4 * (X.1 10)) + i))), .int (nI (Y.1 0))]) hx dX4_renew_313 km_X4_92 kq_X4_live ki_X4_live ks_X4_live kl_4 hR.1 (c_X4_live hR hbY.k9 hbY.k10 hbY.k7 (by omega) (by omega)) rfl rfl (Nat.le_of_ble_eq_true rfl) (by decide) (by decide) rfl rfl (vv_cd ?_)
      refine vv_aload_n hx dX4_renew_316 rfl ?_
      refine vv_aload_n hx dX4_renew_317 rfl ?_
      refine rr_getr 13 hx dX4_renew_318 kf_X4_38 (by decide) rfl rfl hR ?_
      refine vv_iconst (v := nI 4) hx dX4_renew_321 (by decide) ?_
      refine vv_iload_n hx dX4_renew_322 rfl ?_
      refine vv_imulN hx dX4_renew_323 ?_
      refine vv_iload hx dX4_renew_324 rfl ?_
      refine vv_iaddN hx dX4_renew_326 ?_
      refine vv_iconst (v := nI 1) hx dX4_renew_327 (by decide) ?_
      refine vv_iaddN hx dX4_renew_328 ?_
      refine rr_iald (e0 := Y.2.1 13 (((4 * (X.1 10)) + i) + 1)) (n := 600) 13 hx dX4_renew_329 rfl hR rfl (by omega) (by first | rfl | simp [xA, xI, xE, xW]) ?_
      have b_329 : Y.2.1 13 (((4 * (X.1 10)) + i) + 1) < 2 ^ 31 := by have h9 := hR.lt 13 (((4 * (X.1 10)) + i) + 1); first | exact h9 | simpa [xA, xI, xE, xW] using h9
      refine vv_aload_n hx dX4_renew_330 rfl ?_
      refine rr_geti (e0 := Y.1 0) 0 hx dX4_renew_331 kf_X4_58 (by decide) rfl rfl hR rfl ?_
      have b_331 : Y.1 0 < 2 ^ 31 := hR.li 0
      refine vv_callV (As := [.int (nI (Y.2.1 13 (((4 * (X.1 10)) + i) + 1))), .int (nI (Y.1 0))]) hx dX4_renew_334 km_X4_92 kq_X4_live ki_X4_live ks_X4_live kl_4 hR.1 (c_X4_live hR hbY.k9 hbY.k10 hbY.k7 (by omega) (by omega)) rfl rfl (Nat.le_of_ble_eq_true rfl) (by decide) (by decide) rfl rfl (vv_cd ?_)
      refine vv_iaddN hx dX4_renew_337 ?_
      refine vv_istore (lv' := [(0, .ref r), (1, .int (nI (X.1 10))), (2, .int (nI (X.1 15))), (3, .int (nI ((bst (sumq X W q) i).1))), (4, .int (nI ((bst (sumq X W q) i).2))), (5, .int (nI (i))), (6, .int (nI ((liveN Y (Y.2.1 13 (4 * X.1 10 + i)) (Y.1 0)) + (liveN Y (Y.2.1 13 (4 * X.1 10 + i + 1)) (Y.1 0)))))]) hx dX4_renew_338 (by decide) rfl rfl ?_
      refine vv_iload hx dX4_renew_340 rfl ?_
      refine vv_iload hx dX4_renew_342 rfl ?_
      refine vv_icmp_geN (tgt := 354) hx dX4_renew_344 (by decide) (by omega) (by omega) (fun c_344 => ?_) (fun c_344 => ?_)
      · refine vv_iinc (u := (nI (i + 1))) (lv' := [(0, .ref r), (1, .int (nI (X.1 10))), (2, .int (nI (X.1 15))), (3, .int (nI ((bst (sumq X W q) i).1))), (4, .int (nI ((bst (sumq X W q) i).2))), (5, .int (nI (i + 1))), (6, .int (nI ((liveN Y (Y.2.1 13 (4 * X.1 10 + i)) (Y.1 0)) + (liveN Y (Y.2.1 13 (4 * X.1 10 + i + 1)) (Y.1 0)))))]) hx dX4_renew_354 rfl (nI_1 _) (by decide) rfl rfl ?_
        refine vv_goto (tgt := 284) hx dX4_renew_357 (by decide) ?_
        rw [if_neg (by omega)] at ebst
        have h9 := ih (i + 1) (by omega)
        rw [ebst] at h9
        exact vv_sub [0, 1, 2, 3, 4, 5] rfl h9
      · refine vv_iload hx dX4_renew_347 rfl ?_
        refine vv_istore (lv' := [(0, .ref r), (1, .int (nI (X.1 10))), (2, .int (nI (X.1 15))), (3, .int (nI ((bst (sumq X W q) i).1))), (4, .int (nI ((liveN Y (Y.2.1 13 (4 * X.1 10 + i)) (Y.1 0)) + (liveN Y (Y.2.1 13 (4 * X.1 10 + i + 1)) (Y.1 0))))), (5, .int (nI (i))), (6, .int (nI ((liveN Y (Y.2.1 13 (4 * X.1 10 + i)) (Y.1 0)) + (liveN Y (Y.2.1 13 (4 * X.1 10 + i + 1)) (Y.1 0)))))]) hx dX4_renew_349 (by decide) rfl rfl ?_
        refine vv_iload hx dX4_renew_351 rfl ?_
        refine vv_istore_n (lv' := [(0, .ref r), (1, .int (nI (X.1 10))), (2, .int (nI (X.1 15))), (3, .int (nI (i))), (4, .int (nI ((liveN Y (Y.2.1 13 (4 * X.1 10 + i)) (Y.1 0)) + (liveN Y (Y.2.1 13 (4 * X.1 10 + i + 1)) (Y.1 0))))), (5, .int (nI (i))), (6, .int (nI ((liveN Y (Y.2.1 13 (4 * X.1 10 + i)) (Y.1 0)) + (liveN Y (Y.2.1 13 (4 * X.1 10 + i + 1)) (Y.1 0)))))]) hx dX4_renew_353 (by decide) rfl rfl ?_
        refine vv_iinc (u := (nI (i + 1))) (lv' := [(0, .ref r), (1, .int (nI (X.1 10))), (2, .int (nI (X.1 15))), (3, .int (nI (i))), (4, .int (nI ((liveN Y (Y.2.1 13 (4 * X.1 10 + i)) (Y.1 0)) + (liveN Y (Y.2.1 13 (4 * X.1 10 + i + 1)) (Y.1 0))))), (5, .int (nI (i + 1))), (6, .int (nI ((liveN Y (Y.2.1 13 (4 * X.1 10 + i)) (Y.1 0)) + (liveN Y (Y.2.1 13 (4 * X.1 10 + i + 1)) (Y.1 0)))))]) hx dX4_renew_354 rfl (nI_1 _) (by decide) rfl rfl ?_
        refine vv_goto (tgt := 284) hx dX4_renew_357 (by decide) ?_
        rw [if_pos (by omega)] at ebst
        have h9 := ih (i + 1) (by omega)
        rw [ebst] at h9
        rw [esum]
        exact vv_sub [0, 1, 2, 3, 4, 5] rfl h9
set_option maxRecDepth 100000 in
set_option maxHeartbeats 4000000 in
theorem l_X4_renew_s {r : Nat} {ad : Nat → Nat} {X : xx_X} {W : Nat → Nat → Nat} {x : vv_X} {q : Nat → Nat} {lw : Nat} (hx : vv_C x cX4_renew RX4 2 52 7) (he : vv_E x none (fun zz S' => zz = none ∧ (fun S' => ∃ X', xx_R S' r ad X' ∧ (newsB X = false ∧ X' = X ∨ newsB X = true ∧ rnR X W X')) S')) (hH : rH X W) (hnw : newsB X = true) (hq : qOK X W q) (hl : l1N X W = 4) (hbq : bestq X W q ≤ 2) : ∀ d i (S : mm_H) (Y : xx_X), xx_R S r ad Y → rF X Y ∧ Y.1 6 = X.1 6 + 2 ∧ Y.1 9 = X.1 9 + newcN X + cntN (nz (mwq X W q)) 16 ∧ sgR Y (X.1 6) (newW X) ∧ sgR Y (X.1 6 + 1) (mwq X W q) ∧ Y.2.1 12 (X.1 10) = 4 → (∀ t, t < 4 → Y.2.1 13 (4 * X.1 10 + t) = if t < i then tgt q (bestq X W q) (X.1 6 + 1) t else q t) → bestq X W q < i → i + d = 3 → vv_V x 0 0 405 [(0, .ref r), (1, .int (nI (X.1 10))), (2, .int (nI (X.1 15))), (3, .int (nI (bestq X W q))), (4, .int (nI (lw))), (5, .int (nI (i)))] [] S := by
  obtain ⟨hk, hbd, hv150, h9c, hseg, hdj⟩ := id hH
  obtain ⟨k0, k1, k2, k3, k4, k5, k6, k7, k8, k9, k10, k11, k12, k13⟩ := id hk
  intro d
  induction d with
  | zero =>
    intro i S Y hR hY hQ hb hi
    obtain ⟨hF, f6, f9, g1, g2, h4⟩ := hY
    have ei : i = 3 := by omega
    subst ei
    have hbY : xx_bd Y := hF.2.2.2.2.2.2.2.2.2.2
    refine vv_iload hx dX4_renew_405 rfl ?_
    refine vv_iconst (v := nI 1) hx dX4_renew_407 (by decide) ?_
    refine vv_iaddN hx dX4_renew_408 ?_
    refine vv_aload_n hx dX4_renew_409 rfl ?_
    refine rr_getr 12 hx dX4_renew_410 kf_X4_35 (by decide) rfl rfl hR ?_
    refine vv_iload_n hx dX4_renew_413 rfl ?_
    refine rr_iald (e0 := Y.2.1 12 (X.1 10)) (n := 150) 12 hx dX4_renew_414 rfl hR rfl (by omega) (by first | rfl | simp [xA, xI, xE, xW]) ?_
    have b_414 : Y.2.1 12 (X.1 10) < 2 ^ 31 := by have h9 := hR.lt 12 (X.1 10); first | exact h9 | simpa [xA, xI, xE, xW] using h9
    refine vv_icmp_geN (tgt := 448) hx dX4_renew_415 (by decide) (by omega) (by omega) (fun c_415 => ?_) (fun c_415 => ?_)
    · refine vv_aload_n hx dX4_renew_448 rfl ?_
      refine rr_getr 12 hx dX4_renew_449 kf_X4_35 (by decide) rfl rfl hR ?_
      refine vv_iload_n hx dX4_renew_452 rfl ?_
      refine vv_dup2 hx dX4_renew_453 rfl rfl ?_
      refine rr_iald (e0 := Y.2.1 12 (X.1 10)) (n := 150) 12 hx dX4_renew_454 rfl hR rfl (by omega) (by first | rfl | simp [xA, xI, xE, xW]) ?_
      have b_454 : Y.2.1 12 (X.1 10) < 2 ^ 31 := by have h9 := hR.lt 12 (X.1 10); first | exact h9 | simpa [xA, xI, xE, xW] using h9
      refine vv_iconst (v := nI 1) hx dX4_renew_455 (by decide) ?_
      refine vv_isubN hx dX4_renew_456 (by omega) ?_
      refine rr_iast (n := 150) 12 hx dX4_renew_457 rfl hR rfl (by omega) (by omega) (fun S hR => ?_)
      refine vv_goto (tgt := 264) hx dX4_renew_458 (by decide) ?_
      refine vv_aload_n hx dX4_renew_264 rfl ?_
      refine rr_getr 12 hx dX4_renew_265 kf_X4_35 (by decide) rfl rfl hR ?_
      refine vv_iload_n hx dX4_renew_268 rfl ?_
      refine rr_iald (e0 := (Y.2.1 12 (X.1 10)) - 1) (n := 150) 12 hx dX4_renew_269 rfl hR rfl (by omega) (by first | rfl | simp [xA, xI, xE, xW]) ?_
      have b_269 : (Y.2.1 12 (X.1 10)) - 1 < 2 ^ 31 := by have h9 := hR.lt 12 (X.1 10); first | exact h9 | simpa [xA, xI, xE, xW] using h9
      refine vv_iconst (v := nI 3) hx dX4_renew_270 (by decide) ?_
      refine vv_icmp_leN (tgt := 461) hx dX4_renew_271 (by decide) (by omega) (by omega) (fun c_271 => ?_) (fun c_271 => ?_)
      · refine vv_sub [0, 1, 2] rfl (l_X4_renew_end (q := q) hx he hH hnw hR ⟨hF.a12 (by omega), hq, Or.inr ⟨hl, ?_, fun t ht => ?_, f6, f9, g1.o (by decide) (by decide) (by decide), g2.o (by decide) (by decide) (by decide)⟩⟩)
        · rw [xA_s]; omega
        · rw [xA_o (by decide), hQ t (by omega), if_pos ht]
      · exfalso; omega
    · exfalso; omega
  | succ d ih =>
    intro i S Y hR hY hQ hb hi
    obtain ⟨hF, f6, f9, g1, g2, h4⟩ := hY
    have hbY : xx_bd Y := hF.2.2.2.2.2.2.2.2.2.2
    have q1 := hQ (i + 1) (by omega)
    rw [if_neg (by omega), ← Nat.add_assoc] at q1
    have hb13 := hbY 13 (4 * X.1 10 + i + 1)
    simp only [bdF] at hb13
    refine vv_iload hx dX4_renew_405 rfl ?_
    refine vv_iconst (v := nI 1) hx dX4_renew_407 (by decide) ?_
    refine vv_iaddN hx dX4_renew_408 ?_
    refine vv_aload_n hx dX4_renew_409 rfl ?_
    refine rr_getr 12 hx dX4_renew_410 kf_X4_35 (by decide) rfl rfl hR ?_
    refine vv_iload_n hx dX4_renew_413 rfl ?_
    refine rr_iald (e0 := Y.2.1 12 (X.1 10)) (n := 150) 12 hx dX4_renew_414 rfl hR rfl (by omega) (by first | rfl | simp [xA, xI, xE, xW]) ?_
    have b_414 : Y.2.1 12 (X.1 10) < 2 ^ 31 := by have h9 := hR.lt 12 (X.1 10); first | exact h9 | simpa [xA, xI, xE, xW] using h9
    refine vv_icmp_geN (tgt := 448) hx dX4_renew_415 (by decide) (by omega) (by omega) (fun c_415 => ?_) (fun c_415 => ?_)
    · exfalso; omega
    · refine vv_aload_n hx dX4_renew_418 rfl ?_
      refine rr_getr 13 hx dX4_renew_419 kf_X4_38 (by decide) rfl rfl hR ?_
      refine vv_iconst (v := nI 4) hx dX4_renew_422 (by decide) ?_
      refine vv_iload_n hx dX4_renew_423 rfl ?_
      refine vv_imulN hx dX4_renew_424 ?_
      refine vv_iload hx dX4_renew_425 rfl ?_
      refine vv_iaddN hx dX4_renew_427 ?_
      refine vv_aload_n hx dX4_renew_428 rfl ?_
      refine rr_getr 13 hx dX4_renew_429 kf_X4_38 (by decide) rfl rfl hR ?_
      refine vv_iconst (v := nI 4) hx dX4_renew_432 (by decide) ?_
      refine vv_iload_n hx dX4_renew_433 rfl ?_
      refine vv_imulN hx dX4_renew_434 ?_
      refine vv_iload hx dX4_renew_435 rfl ?_
      refine vv_iaddN hx dX4_renew_437 ?_
      refine vv_iconst (v := nI 1) hx dX4_renew_438 (by decide) ?_
      refine vv_iaddN hx dX4_renew_439 ?_
      refine rr_iald (e0 := Y.2.1 13 (((4 * (X.1 10)) + i) + 1)) (n := 600) 13 hx dX4_renew_440 rfl hR rfl (by omega) (by first | rfl | simp [xA, xI, xE, xW]) ?_
      have b_440 : Y.2.1 13 (((4 * (X.1 10)) + i) + 1) < 2 ^ 31 := by have h9 := hR.lt 13 (((4 * (X.1 10)) + i) + 1); first | exact h9 | simpa [xA, xI, xE, xW] using h9
      refine rr_iast (n := 600) 13 hx dX4_renew_441 rfl hR rfl (by omega) (by omega) (fun S hR => ?_)
      refine vv_iinc (u := (nI (i + 1))) (lv' := [(0, .ref r), (1, .int (nI (X.1 10))), (2, .int (nI (X.1 15))), (3, .int (nI (bestq X W q))), (4, .int (nI (lw))), (5, .int (nI (i + 1)))]) hx dX4_renew_442 rfl (nI_1 _) (by decide) rfl rfl ?_
      refine vv_goto (tgt := 405) hx dX4_renew_445 (by decide) ?_
      refine ih (i + 1) S _ hR ⟨hF.a13 (by omega) (by omega), f6, f9, g1.o (by decide) (by decide) (by decide), g2.o (by decide) (by decide) (by decide), by rw [xA_o (by decide)]; exact h4⟩ (fun t ht => ?_) (by omega) (by omega)
      by_cases et : t = i
      · subst et
        rw [xA_s, if_pos (by omega), q1]
        unfold tgt
        rw [if_neg (by omega), if_neg (by omega)]
      · rw [xA_j (by omega), hQ t ht]
        by_cases e2 : t < i
        · rw [if_pos e2, if_pos (by omega)]
        · rw [if_neg e2, if_neg (by omega)]
set_option maxRecDepth 100000 in
set_option maxHeartbeats 4000000 in
theorem l_X4_renew_m {r : Nat} {ad : Nat → Nat} {X : xx_X} {W : Nat → Nat → Nat} {x : vv_X} {q : Nat → Nat} {lw i0 : Nat} (hx : vv_C x cX4_renew RX4 2 52 7) (he : vv_E x none (fun zz S' => zz = none ∧ (fun S' => ∃ X', xx_R S' r ad X' ∧ (newsB X = false ∧ X' = X ∨ newsB X = true ∧ rnR X W X')) S')) (hH : rH X W) (hnw : newsB X = true) (hq : qOK X W q) (hl : l1N X W = 4) (hbq : bestq X W q ≤ 2) (hnb : nwB X = true) {S : mm_H} {Y : xx_X} (hR : xx_R S r ad Y) (hF : rF X Y) (f6 : Y.1 6 = X.1 6 + 1) (f9 : Y.1 9 = X.1 9 + newcN X) (h4 : Y.2.1 12 (X.1 10) = 4) (hN : sgR Y (X.1 6) (newW X)) (hQ : ∀ t, t < 4 → Y.2.1 13 (4 * X.1 10 + t) = q t) : vv_V x 0 0 360 [(0, .ref r), (1, .int (nI (X.1 10))), (2, .int (nI (X.1 15))), (3, .int (nI (bestq X W q))), (4, .int (nI (lw))), (5, .int (nI (i0)))] [] S := by
  obtain ⟨hk, hbd, hv150, h9c, hseg, hdj⟩ := id hH
  obtain ⟨k0, k1, k2, k3, k4, k5, k6, k7, k8, k9, k10, k11, k12, k13⟩ := id hk
  have e0 : Y.1 0 = X.1 0 := hF.1 0 (by decide) (by decide)
  have hbY : xx_bd Y := hF.2.2.2.2.2.2.2.2.2.2
  have hnc : newcN X ≤ 16 := cntN_le _ 16
  obtain ⟨p1, sg1⟩ := hq.seg hH hF (fun _ => hN) (t := bestq X W q) (by omega)
  obtain ⟨p2, sg2⟩ := hq.seg hH hF (fun _ => hN) (t := bestq X W q + 1) (by omega)
  rw [hnb] at p1 p2
  simp only [cond_true] at p1 p2
  have q1 := hQ (bestq X W q) (by omega)
  have q2 := hQ (bestq X W q + 1) (by omega)
  rw [← Nat.add_assoc] at q2
  rw [← q1] at sg1 p1
  rw [← q2] at sg2 p2
  refine vv_aload_n hx dX4_renew_360 rfl ?_
  refine rr_getr 13 hx dX4_renew_361 kf_X4_38 (by decide) rfl rfl hR ?_
  refine vv_iconst (v := nI 4) hx dX4_renew_364 (by decide) ?_
  refine vv_iload_n hx dX4_renew_365 rfl ?_
  refine vv_imulN hx dX4_renew_366 ?_
  refine vv_iload_n hx dX4_renew_367 rfl ?_
  refine vv_iaddN hx dX4_renew_368 ?_
  refine vv_aload_n hx dX4_renew_369 rfl ?_
  refine vv_aload_n hx dX4_renew_370 rfl ?_
  refine rr_getr 13 hx dX4_renew_371 kf_X4_38 (by decide) rfl rfl hR ?_
  refine vv_iconst (v := nI 4) hx dX4_renew_374 (by decide) ?_
  refine vv_iload_n hx dX4_renew_375 rfl ?_
  refine vv_imulN hx dX4_renew_376 ?_
  refine vv_iload_n hx dX4_renew_377 rfl ?_
  refine vv_iaddN hx dX4_renew_378 ?_
  refine rr_iald (e0 := Y.2.1 13 ((4 * (X.1 10)) + (bestq X W q))) (n := 600) 13 hx dX4_renew_379 rfl hR rfl (by omega) (by first | rfl | simp [xA, xI, xE, xW]) ?_
  have b_379 : Y.2.1 13 ((4 * (X.1 10)) + (bestq X W q)) < 2 ^ 31 := by have h9 := hR.lt 13 ((4 * (X.1 10)) + (bestq X W q)); first | exact h9 | simpa [xA, xI, xE, xW] using h9
  refine vv_aload_n hx dX4_renew_380 rfl ?_
  refine rr_getr 13 hx dX4_renew_381 kf_X4_38 (by decide) rfl rfl hR ?_
  refine vv_iconst (v := nI 4) hx dX4_renew_384 (by decide) ?_
  refine vv_iload_n hx dX4_renew_385 rfl ?_
  refine vv_imulN hx dX4_renew_386 ?_
  refine vv_iload_n hx dX4_renew_387 rfl ?_
  refine vv_iaddN hx dX4_renew_388 ?_
  refine vv_iconst (v := nI 1) hx dX4_renew_389 (by decide) ?_
  refine vv_iaddN hx dX4_renew_390 ?_
  refine rr_iald (e0 := Y.2.1 13 (((4 * (X.1 10)) + (bestq X W q)) + 1)) (n := 600) 13 hx dX4_renew_391 rfl hR rfl (by omega) (by first | rfl | simp [xA, xI, xE, xW]) ?_
  have b_391 : Y.2.1 13 (((4 * (X.1 10)) + (bestq X W q)) + 1) < 2 ^ 31 := by have h9 := hR.lt 13 (((4 * (X.1 10)) + (bestq X W q)) + 1); first | exact h9 | simpa [xA, xI, xE, xW] using h9
  refine vv_aload_n hx dX4_renew_392 rfl ?_
  refine rr_geti (e0 := Y.1 0) 0 hx dX4_renew_393 kf_X4_58 (by decide) rfl rfl hR rfl ?_
  have b_393 : Y.1 0 < 2 ^ 31 := hR.li 0
  refine vv_callV (As := [.int (nI (Y.2.1 13 ((4 * (X.1 10)) + (bestq X W q)))), .int (nI (Y.2.1 13 (((4 * (X.1 10)) + (bestq X W q)) + 1))), .int (nI (Y.1 0))]) hx dX4_renew_396 km_X4_95 kq_X4_merged ki_X4_merged ks_X4_merged kl_4 hR.1 (c_X4_merged hR (w1 := W1 X W (Y.2.1 13 (4 * X.1 10 + bestq X W q))) (w2 := W1 X W (Y.2.1 13 (4 * X.1 10 + bestq X W q + 1))) (by omega) (by omega) hbY.k7 (fun i _ => hbY.k10 i) (by omega) (by omega) sg1 sg2 (by rw [e0, hF.2.1, q1, q2]; exact hq.dj hH (by omega) (by omega) (by omega)) (by omega)) rfl rfl (Nat.le_of_ble_eq_true rfl) (by decide) (by decide) rfl rfl (vv_ci fun z S hz => ?_)
  obtain ⟨rfl, X2, hR, hG⟩ := hz
  obtain ⟨m1, m2, m3, m4, m5, m6, m7, m8, m9⟩ := hG
  have hbX2 : xx_bd X2 := m9 hbY
  have emw : mwW (Y.2.1 1) (Y.1 0) (W1 X W (Y.2.1 13 (4 * X.1 10 + bestq X W q))) (W1 X W (Y.2.1 13 (4 * X.1 10 + bestq X W q + 1))) = mwq X W q := by rw [e0, hF.2.1, q1, q2]; rfl
  rw [emw] at m3 m8
  rw [f6] at m8
  have hF2 : rF X X2 := by
    obtain ⟨h1, h2, h3, h4, h5, h6, h7, h8, h9, h10, h11⟩ := hF
    refine ⟨fun f a b => (m1 f a b).trans (h1 f a b), (m4 1 (by decide) (by decide)).trans h2, (m4 2 (by decide) (by decide)).trans h3, fun t ht => (m5 t (by omega)).trans (h4 t ht), fun i hi => (m6 i (by omega)).trans (h5 i hi), fun u hu => ?_, fun i hi => ?_, ?_, ?_, m7.trans h10, hbX2⟩
    · rw [m4 11 (by decide) (by decide), m4 12 (by decide) (by decide), m4 14 (by decide) (by decide)]; exact h6 u hu
    · rw [m4 13 (by decide) (by decide)]; exact h7 i hi
    · rw [m4 11 (by decide) (by decide)]; exact h8
    · rw [m4 14 (by decide) (by decide)]; exact h9
  have hN2 : sgR X2 (X.1 6) (newW X) := by
    refine ⟨(m5 _ (by omega)).trans hN.1, fun k hk hw => ?_⟩
    have hc := cnt_lt hk (nz_t.mpr hw)
    have h16 := cntN_le (nz (newW X)) 16
    rw [m6 _ (by omega), m4 1 (by decide) (by decide)]
    exact hN.2 k hk hw
  have h42 : X2.2.1 12 (X.1 10) = 4 := by rw [m4 12 (by decide) (by decide)]; exact h4
  have hQ2 : ∀ t, t < 4 → X2.2.1 13 (4 * X.1 10 + t) = q t := fun t ht => by rw [m4 13 (by decide) (by decide)]; exact hQ t ht
  refine rr_iast (n := 600) 13 hx dX4_renew_399 rfl hR rfl (by omega) (by omega) (fun S hR => ?_)
  refine vv_iload_n hx dX4_renew_400 rfl ?_
  refine vv_iconst (v := nI 1) hx dX4_renew_401 (by decide) ?_
  refine vv_iaddN hx dX4_renew_402 ?_
  refine vv_istore (lv' := [(0, .ref r), (1, .int (nI (X.1 10))), (2, .int (nI (X.1 15))), (3, .int (nI (bestq X W q))), (4, .int (nI (lw))), (5, .int (nI ((bestq X W q) + 1)))]) hx dX4_renew_403 (by decide) rfl rfl ?_
  refine l_X4_renew_s (q := q) (lw := lw) hx he hH hnw hq hl hbq (2 - bestq X W q) (bestq X W q + 1) S _ hR ⟨hF2.a13 (by omega) (by omega), by show X2.1 6 = _; rw [m2, f6], by show X2.1 9 = _; rw [m3, f9], hN2.o (by decide) (by decide) (by decide), m8.o (by decide) (by decide) (by decide), by rw [xA_o (by decide)]; exact h42⟩ (fun t ht => ?_) (by omega) (by omega)
  by_cases et : t = bestq X W q
  · rw [et, xA_s, if_pos (by omega), f6]
    unfold tgt
    rw [if_neg (by omega), if_pos rfl]
  · rw [xA_j (by omega), hQ2 t ht]
    by_cases e2 : t < bestq X W q + 1
    · rw [if_pos e2]
      unfold tgt
      rw [if_pos (by omega)]
    · rw [if_neg e2]
