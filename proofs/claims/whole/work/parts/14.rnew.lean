set_option maxRecDepth 100000 in
set_option maxHeartbeats 4000000 in
theorem l_X4_renew_1 {r : Nat} {ad : Nat → Nat} {X : xx_X} {W : Nat → Nat → Nat} {x : vv_X} (hx : vv_C x cX4_renew RX4 2 52 7) (hH : rH X W) (cont : ∀ (S : mm_H) (Y : xx_X), xx_R S r ad Y → rF X Y → Y.1 6 = X.1 6 → Y.1 9 = X.1 9 → lstK X W Y (X.2.1 12 (X.1 15)) → vv_V x 0 0 112 [(0, .ref r), (1, .int (nI (X.1 10))), (2, .int (nI (X.1 15)))] [] S) : ∀ d i (S : mm_H) (Y : xx_X), xx_R S r ad Y → rF X Y → Y.1 6 = X.1 6 → Y.1 9 = X.1 9 → lstK X W Y i → i + d = X.2.1 12 (X.1 15) → vv_V x 0 0 44 [(0, .ref r), (1, .int (nI (X.1 10))), (2, .int (nI (X.1 15))), (3, .int (nI (i)))] [] S := by
  obtain ⟨hk, hbd, hv150, h9c, hseg, hdj⟩ := id hH
  obtain ⟨k0, k1, k2, k3, k4, k5, k6, k7, k8, k9, k10, k11, k12, k13⟩ := id hk
  have hm3 := k12 (X.1 15)
  intro d
  induction d with
  | zero =>
    intro i S Y hR hF e6 e9 hL hi
    have e12 : Y.2.1 12 (X.1 15) = X.2.1 12 (X.1 15) := (hF.2.2.2.2.2.1 _ (by omega)).2.1
    have ei : i = X.2.1 12 (X.1 15) := by omega
    refine vv_iload_n hx dX4_renew_44 rfl ?_
    refine vv_aload_n hx dX4_renew_45 rfl ?_
    refine rr_getr 12 hx dX4_renew_46 kf_X4_35 (by decide) rfl rfl hR ?_
    refine vv_iload_n hx dX4_renew_49 rfl ?_
    refine rr_iald (e0 := Y.2.1 12 (X.1 15)) (n := 150) 12 hx dX4_renew_50 rfl hR rfl (by omega) (by first | rfl | simp [xA, xI, xE, xW]) ?_
    have b_50 : Y.2.1 12 (X.1 15) < 2 ^ 31 := by have h9 := hR.lt 12 (X.1 15); first | exact h9 | simpa [xA, xI, xE, xW] using h9
    refine vv_icmp_geN (tgt := 112) hx dX4_renew_51 (by decide) (by omega) (by omega) (fun c_51 => ?_) (fun c_51 => ?_)
    · exact vv_sub [0, 1, 2] rfl (cont S Y hR hF e6 e9 (by rw [← ei]; exact hL))
    · exfalso; omega
  | succ d ih =>
    intro i S Y hR hF e6 e9 hL hi
    have e12 : Y.2.1 12 (X.1 15) = X.2.1 12 (X.1 15) := (hF.2.2.2.2.2.1 _ (by omega)).2.1
    have e13 : Y.2.1 13 (4 * X.1 15 + i) = X.2.1 13 (4 * X.1 15 + i) := hF.2.2.2.2.2.2.1 _ (by omega)
    have e0 : Y.1 0 = X.1 0 := hF.1 0 (by decide) (by decide)
    obtain ⟨hs1, hs2, -⟩ := hseg i (by omega)
    have hbY : xx_bd Y := hF.2.2.2.2.2.2.2.2.2.2
    have hlv : liveN Y (Y.2.1 13 (4 * X.1 15 + i)) (Y.1 0) = lvW (X.2.1 1) (W (X.2.1 13 (4 * X.1 15 + i))) (X.1 0) := by
      rw [e13, e0, lvW_of (hs2.rF hF hs1), hF.2.1]
    have hl16 := lvW_le (X.2.1 1) (W (X.2.1 13 (4 * X.1 15 + i))) (X.1 0)
    have hc3 := cntN_le (keepB X W) i
    have hmv := hL.1
    refine vv_iload_n hx dX4_renew_44 rfl ?_
    refine vv_aload_n hx dX4_renew_45 rfl ?_
    refine rr_getr 12 hx dX4_renew_46 kf_X4_35 (by decide) rfl rfl hR ?_
    refine vv_iload_n hx dX4_renew_49 rfl ?_
    refine rr_iald (e0 := Y.2.1 12 (X.1 15)) (n := 150) 12 hx dX4_renew_50 rfl hR rfl (by omega) (by first | rfl | simp [xA, xI, xE, xW]) ?_
    have b_50 : Y.2.1 12 (X.1 15) < 2 ^ 31 := by have h9 := hR.lt 12 (X.1 15); first | exact h9 | simpa [xA, xI, xE, xW] using h9
    refine vv_icmp_geN (tgt := 112) hx dX4_renew_51 (by decide) (by omega) (by omega) (fun c_51 => ?_) (fun c_51 => ?_)
    · exfalso; omega
    · refine vv_aload_n hx dX4_renew_54 rfl ?_
      refine rr_getr 13 hx dX4_renew_55 kf_X4_38 (by decide) rfl rfl hR ?_
      refine vv_iconst (v := nI 4) hx dX4_renew_58 (by decide) ?_
      refine vv_iload_n hx dX4_renew_59 rfl ?_
      refine vv_imulN hx dX4_renew_60 ?_
      refine vv_iload_n hx dX4_renew_61 rfl ?_
      refine vv_iaddN hx dX4_renew_62 ?_
      refine rr_iald (e0 := Y.2.1 13 ((4 * (X.1 15)) + i)) (n := 600) 13 hx dX4_renew_63 rfl hR rfl (by omega) (by first | rfl | simp [xA, xI, xE, xW]) ?_
      have b_63 : Y.2.1 13 ((4 * (X.1 15)) + i) < 2 ^ 31 := by have h9 := hR.lt 13 ((4 * (X.1 15)) + i); first | exact h9 | simpa [xA, xI, xE, xW] using h9
      refine vv_istore (lv' := [(0, .ref r), (1, .int (nI (X.1 10))), (2, .int (nI (X.1 15))), (3, .int (nI (i))), (4, .int (nI (Y.2.1 13 ((4 * (X.1 15)) + i))))]) hx dX4_renew_64 (by decide) rfl rfl ?_
      refine vv_aload_n hx dX4_renew_66 rfl ?_
      refine vv_iload hx dX4_renew_67 rfl ?_
      refine vv_aload_n hx dX4_renew_69 rfl ?_
      refine rr_geti (e0 := Y.1 0) 0 hx dX4_renew_70 kf_X4_58 (by decide) rfl rfl hR rfl ?_
      have b_70 : Y.1 0 < 2 ^ 31 := hR.li 0
      refine vv_callV (As := [.int (nI (Y.2.1 13 ((4 * (X.1 15)) + i))), .int (nI (Y.1 0))]) hx dX4_renew_73 km_X4_92 kq_X4_live ki_X4_live ks_X4_live kl_4 hR.1 (c_X4_live hR hbY.k9 hbY.k10 hbY.k7 (by omega) (by omega)) rfl rfl (Nat.le_of_ble_eq_true rfl) (by decide) (by decide) rfl rfl (vv_cd ?_)
      refine vv_if_leN (tgt := 106) hx dX4_renew_76 (by decide) (by omega) (fun c_76 => ?_) (fun c_76 => ?_)
      · refine vv_iinc (u := (nI (i + 1))) (lv' := [(0, .ref r), (1, .int (nI (X.1 10))), (2, .int (nI (X.1 15))), (3, .int (nI (i + 1))), (4, .int (nI (Y.2.1 13 ((4 * (X.1 15)) + i))))]) hx dX4_renew_106 rfl (nI_1 _) (by decide) rfl rfl ?_
        refine vv_goto (tgt := 44) hx dX4_renew_109 (by decide) ?_
        refine vv_sub [0, 1, 2, 3] rfl (ih (i + 1) S Y hR hF e6 e9 (hL.skip (decide_eq_false (by omega))) (by omega))
      · refine vv_aload_n hx dX4_renew_79 rfl ?_
        refine rr_getr 13 hx dX4_renew_80 kf_X4_38 (by decide) rfl rfl hR ?_
        refine vv_iconst (v := nI 4) hx dX4_renew_83 (by decide) ?_
        refine vv_iload_n hx dX4_renew_84 rfl ?_
        refine vv_imulN hx dX4_renew_85 ?_
        refine vv_aload_n hx dX4_renew_86 rfl ?_
        refine rr_getr 12 hx dX4_renew_87 kf_X4_35 (by decide) rfl rfl hR ?_
        refine vv_iload_n hx dX4_renew_90 rfl ?_
        refine rr_iald (e0 := Y.2.1 12 (X.1 10)) (n := 150) 12 hx dX4_renew_91 rfl hR rfl (by omega) (by first | rfl | simp [xA, xI, xE, xW]) ?_
        have b_91 : Y.2.1 12 (X.1 10) < 2 ^ 31 := by have h9 := hR.lt 12 (X.1 10); first | exact h9 | simpa [xA, xI, xE, xW] using h9
        refine vv_iaddN hx dX4_renew_92 ?_
        refine vv_iload hx dX4_renew_93 rfl ?_
        refine rr_iast (n := 600) 13 hx dX4_renew_95 rfl hR rfl (by omega) (by omega) (fun S hR => ?_)
        refine vv_aload_n hx dX4_renew_96 rfl ?_
        refine rr_getr 12 hx dX4_renew_97 kf_X4_35 (by decide) rfl rfl hR ?_
        refine vv_iload_n hx dX4_renew_100 rfl ?_
        refine vv_dup2 hx dX4_renew_101 rfl rfl ?_
        refine rr_iald (e0 := Y.2.1 12 (X.1 10)) (n := 150) 12 hx dX4_renew_102 rfl hR rfl (by omega) (by first | rfl | simp [xA, xI, xE, xW]) ?_
        have b_102 : Y.2.1 12 (X.1 10) < 2 ^ 31 := by have h9 := hR.lt 12 (X.1 10); first | exact h9 | simpa [xA, xI, xE, xW] using h9
        refine vv_iconst (v := nI 1) hx dX4_renew_103 (by decide) ?_
        refine vv_iaddN hx dX4_renew_104 ?_
        refine rr_iast (n := 150) 12 hx dX4_renew_105 rfl hR rfl (by omega) (by omega) (fun S hR => ?_)
        refine vv_iinc (u := (nI (i + 1))) (lv' := [(0, .ref r), (1, .int (nI (X.1 10))), (2, .int (nI (X.1 15))), (3, .int (nI (i + 1))), (4, .int (nI (Y.2.1 13 ((4 * (X.1 15)) + i))))]) hx dX4_renew_106 rfl (nI_1 _) (by decide) rfl rfl ?_
        refine vv_goto (tgt := 44) hx dX4_renew_109 (by decide) ?_
        refine vv_sub [0, 1, 2, 3] rfl (ih (i + 1) S _ hR ((hF.a13 (by omega) (by omega)).a12 (by omega)) e6 e9 (hL.put (decide_eq_true (by omega)) e13) (by omega))
set_option maxRecDepth 100000 in
set_option maxHeartbeats 4000000 in
theorem l_X4_renew_2 {r : Nat} {ad : Nat → Nat} {X : xx_X} {W : Nat → Nat → Nat} {x : vv_X} (hx : vv_C x cX4_renew RX4 2 52 7) (hH : rH X W) (cont : ∀ (S : mm_H) (Y : xx_X), xx_R S r ad Y → rF X Y → Y.1 6 = X.1 6 → Y.1 9 = X.1 9 → lstK X W Y (X.2.1 12 (X.1 15)) → rkO Y (X.1 6) (newW X) 16 → vv_V x 0 0 195 [(0, .ref r), (1, .int (nI (X.1 10))), (2, .int (nI (X.1 15)))] [] S) : ∀ d K (S : mm_H) (Y : xx_X), xx_R S r ad Y → rF X Y → Y.1 6 = X.1 6 → Y.1 9 = X.1 9 → lstK X W Y (X.2.1 12 (X.1 15)) → rkO Y (X.1 6) (newW X) K → K + d = 16 → vv_V x 0 0 124 [(0, .ref r), (1, .int (nI (X.1 10))), (2, .int (nI (X.1 15))), (3, .int (nI (K)))] [] S := by
  obtain ⟨hk, hbd, hv150, h9c, hseg, hdj⟩ := id hH
  obtain ⟨k0, k1, k2, k3, k4, k5, k6, k7, k8, k9, k10, k11, k12, k13⟩ := id hk
  intro d
  induction d with
  | zero =>
    intro K S Y hR hF e6 e9 hL hP hd
    have eK : K = 16 := by omega
    subst eK
    refine vv_iload_n hx dX4_renew_124 rfl ?_
    refine vv_bipush (v := nI 16) hx dX4_renew_125 (by decide) ?_
    refine vv_icmp_geN (tgt := 195) hx dX4_renew_127 (by decide) (by omega) (by omega) (fun c_127 => ?_) (fun c_127 => ?_)
    · exact vv_sub [0, 1, 2] rfl (cont S Y hR hF e6 e9 hL hP)
    · exfalso; omega
  | succ d ih =>
    intro K S Y hR hF e6 e9 hL hP hd
    have e11 : Y.2.1 11 (X.1 15) = X.2.1 11 (X.1 15) := (hF.2.2.2.2.2.1 _ (by omega)).1
    have e0 : Y.1 0 = X.1 0 := hF.1 0 (by decide) (by decide)
    have ewr : wr Y K (Y.1 0) = wr X K (X.1 0) := by unfold wr; rw [hF.2.1, hF.2.2.1, e0]
    have hwl := wr_le X K (X.1 0)
    have hcK := cntN_le (nz (newW X)) K
    have h7 := hP.1
    have h7b : Y.2.1 7 (Y.1 6) ≤ K := by rw [e6]; omega
    refine vv_iload_n hx dX4_renew_124 rfl ?_
    refine vv_bipush (v := nI 16) hx dX4_renew_125 (by decide) ?_
    refine vv_icmp_geN (tgt := 195) hx dX4_renew_127 (by decide) (by omega) (by omega) (fun c_127 => ?_) (fun c_127 => ?_)
    · exfalso; omega
    · refine vv_aload_n hx dX4_renew_130 rfl ?_
      refine vv_iload_n hx dX4_renew_131 rfl ?_
      refine vv_aload_n hx dX4_renew_132 rfl ?_
      refine rr_geti (e0 := Y.1 0) 0 hx dX4_renew_133 kf_X4_58 (by decide) rfl rfl hR rfl ?_
      have b_133 : Y.1 0 < 2 ^ 31 := hR.li 0
      refine vv_callV (As := [.int (nI (K)), .int (nI (Y.1 0))]) hx dX4_renew_136 km_X4_61 kq_X4_written ki_X4_written ks_X4_written kl_4 hR.1 (c_X4_written hR (by omega) (by omega)) rfl rfl (Nat.le_of_ble_eq_true rfl) (by decide) (by decide) rfl rfl (vv_cd ?_)
      refine vv_istore (lv' := [(0, .ref r), (1, .int (nI (X.1 10))), (2, .int (nI (X.1 15))), (3, .int (nI (K))), (4, .int (nI (wr Y K (Y.1 0))))]) hx dX4_renew_139 (by decide) rfl rfl ?_
      refine vv_iload hx dX4_renew_141 rfl ?_
      refine vv_aload_n hx dX4_renew_143 rfl ?_
      refine rr_getr 11 hx dX4_renew_144 kf_X4_32 (by decide) rfl rfl hR ?_
      refine vv_iload_n hx dX4_renew_147 rfl ?_
      refine rr_iald (e0 := Y.2.1 11 (X.1 15)) (n := 150) 11 hx dX4_renew_148 rfl hR rfl (by omega) (by first | rfl | simp [xA, xI, xE, xW]) ?_
      have b_148 : Y.2.1 11 (X.1 15) < 2 ^ 31 := by have h9 := hR.lt 11 (X.1 15); first | exact h9 | simpa [xA, xI, xE, xW] using h9
      refine vv_icmp_leN (tgt := 189) hx dX4_renew_149 (by decide) (by omega) (by omega) (fun c_149 => ?_) (fun c_149 => ?_)
      · refine vv_iinc (u := (nI (K + 1))) (lv' := [(0, .ref r), (1, .int (nI (X.1 10))), (2, .int (nI (X.1 15))), (3, .int (nI (K + 1))), (4, .int (nI (wr Y K (Y.1 0))))]) hx dX4_renew_189 rfl (nI_1 _) (by decide) rfl rfl ?_
        refine vv_goto (tgt := 124) hx dX4_renew_192 (by decide) ?_
        refine vv_sub [0, 1, 2, 3] rfl (ih (K + 1) S Y hR hF e6 e9 hL (hP.skip (by unfold newW; rw [if_neg (by omega)])) (by omega))
      · refine vv_aload_n hx dX4_renew_152 rfl ?_
        refine rr_getr 8 hx dX4_renew_153 kf_X4_26 (by decide) rfl rfl hR ?_
        refine vv_bipush (v := nI 16) hx dX4_renew_156 (by decide) ?_
        refine vv_aload_n hx dX4_renew_158 rfl ?_
        refine rr_geti (e0 := Y.1 6) 6 hx dX4_renew_159 kf_X4_82 (by decide) rfl rfl hR rfl ?_
        have b_159 : Y.1 6 < 2 ^ 31 := hR.li 6
        refine vv_imulN hx dX4_renew_162 ?_
        refine vv_aload_n hx dX4_renew_163 rfl ?_
        refine rr_getr 7 hx dX4_renew_164 kf_X4_23 (by decide) rfl rfl hR ?_
        refine vv_aload_n hx dX4_renew_167 rfl ?_
        refine rr_geti (e0 := Y.1 6) 6 hx dX4_renew_168 kf_X4_82 (by decide) rfl rfl hR rfl ?_
        have b_168 : Y.1 6 < 2 ^ 31 := hR.li 6
        refine rr_iald (e0 := Y.2.1 7 (Y.1 6)) (n := 320) 7 hx dX4_renew_171 rfl hR rfl (by omega) (by first | rfl | simp [xA, xI, xE, xW]) ?_
        have b_171 : Y.2.1 7 (Y.1 6) < 2 ^ 31 := by have h9 := hR.lt 7 (Y.1 6); first | exact h9 | simpa [xA, xI, xE, xW] using h9
        refine vv_iaddN hx dX4_renew_172 ?_
        refine vv_iload hx dX4_renew_173 rfl ?_
        refine rr_iast (n := 5120) 8 hx dX4_renew_175 rfl hR rfl (by omega) (by omega) (fun S hR => ?_)
        refine vv_aload_n hx dX4_renew_176 rfl ?_
        refine rr_getr 7 hx dX4_renew_177 kf_X4_23 (by decide) rfl rfl hR ?_
        refine vv_aload_n hx dX4_renew_180 rfl ?_
        refine rr_geti (e0 := Y.1 6) 6 hx dX4_renew_181 kf_X4_82 (by decide) rfl rfl hR rfl ?_
        have b_181 : Y.1 6 < 2 ^ 31 := hR.li 6
        refine vv_dup2 hx dX4_renew_184 rfl rfl ?_
        refine rr_iald (e0 := Y.2.1 7 (Y.1 6)) (n := 320) 7 hx dX4_renew_185 rfl hR rfl (by omega) (by first | rfl | simp [xA, xI, xE, xW]) ?_
        have b_185 : Y.2.1 7 (Y.1 6) < 2 ^ 31 := by have h9 := hR.lt 7 (Y.1 6); first | exact h9 | simpa [xA, xI, xE, xW] using h9
        refine vv_iconst (v := nI 1) hx dX4_renew_186 (by decide) ?_
        refine vv_iaddN hx dX4_renew_187 ?_
        refine rr_iast (n := 320) 7 hx dX4_renew_188 rfl hR rfl (by omega) (by omega) (fun S hR => ?_)
        refine vv_iinc (u := (nI (K + 1))) (lv' := [(0, .ref r), (1, .int (nI (X.1 10))), (2, .int (nI (X.1 15))), (3, .int (nI (K + 1))), (4, .int (nI (wr Y K (Y.1 0))))]) hx dX4_renew_189 rfl (nI_1 _) (by decide) rfl rfl ?_
        refine vv_goto (tgt := 124) hx dX4_renew_192 (by decide) ?_
        have enw : newW X K = wr Y K (Y.1 0) := by unfold newW; rw [if_pos (by omega), ewr]
        rw [e6] at hR
        refine vv_sub [0, 1, 2, 3] rfl (ih (K + 1) S _ hR ((hF.a8 (by omega) (by omega)).a7 (by omega) (by omega)) e6 e9 ?_ (hP.put enw (by omega)) (by omega))
        refine ⟨?_, fun j hj hj2 => ?_⟩
        · rw [xA_o (by decide), xA_o (by decide)]; exact hL.1
        · rw [xA_o (by decide), xA_o (by decide)]; exact hL.2 j hj hj2
