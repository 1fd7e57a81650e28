set_option maxRecDepth 100000 in
set_option maxHeartbeats 4000000 in
theorem l_X4_merged_in {r : Nat} {ad : Nat → Nat} {X : xx_X} {mw w : Nat → Nat} {x : vv_X} {one oth n s K side fm : Nat} (hx : vv_C x cX4_merged RX4 1 23 10) (hs : s < 310) (hn : n ≤ 600) (hK : K < 16) (hck : ∀ i, X.2.1 1 i < 16) (hX8 : ∀ i, i < 16 * s → X.2.1 8 i ≤ 600) (hfm : fm < s) (hw : sgR X fm w) (done : Bool) (hd : (nz w K && decide (cg (X.2.1 1) K n = w K)) = true → done = false ∧ mw K = cg (X.2.1 1) K n) (cont : ∀ (S : mm_H) (Y : xx_X) (i : Nat), xx_R S r ad Y → mF X Y s → (bif done || (nz w K && decide (cg (X.2.1 1) K n = w K)) then rkO Y s mw (K + 1) else rkO Y s mw K) → vv_V x 0 0 146 [(0, .ref r), (1, .int (nI (one))), (2, .int (nI (oth))), (3, .int (nI (n))), (4, .int (nI (s))), (5, .int (nI (K))), (6, .int (nI (side))), (7, .int (nI (fm))), (8, .int (nI (i)))] [] S) :
    ∀ d i (S : mm_H) (Y : xx_X), xx_R S r ad Y → mF X Y s → (bif done || ((nz w K && decide (cg (X.2.1 1) K n = w K)) && decide (cntN (nz w) K < i)) then rkO Y s mw (K + 1) else rkO Y s mw K) → i + d = X.2.1 7 fm → vv_V x 0 0 58 [(0, .ref r), (1, .int (nI (one))), (2, .int (nI (oth))), (3, .int (nI (n))), (4, .int (nI (s))), (5, .int (nI (K))), (6, .int (nI (side))), (7, .int (nI (fm))), (8, .int (nI (i)))] [] S := by
  have hc16 := cntN_le (nz w) 16
  have hcmw := fun k => cntN_le (nz mw) k
  intro d
  induction d with
  | zero =>
    intro i S Y hR hF hP hi
    have e7 : Y.2.1 7 fm = X.2.1 7 fm := hF.2.2.1 fm (by omega)
    have h7 := hw.1
    refine vv_iload hx dX4_merged_58 rfl ?_
    refine vv_aload_n hx dX4_merged_60 rfl ?_
    refine rr_getr 7 hx dX4_merged_61 kf_X4_23 (by decide) rfl rfl hR ?_
    refine vv_iload hx dX4_merged_64 rfl ?_
    refine rr_iald (e0 := Y.2.1 7 (fm)) (n := 320) 7 hx dX4_merged_66 rfl hR rfl (by omega) (by first | rfl | simp [xA, xI, xE, xW]) ?_
    have b_66 : Y.2.1 7 (fm) < 2 ^ 31 := by have h9 := hR.lt 7 (fm); first | exact h9 | simpa [xA, xI, xE, xW] using h9
    refine vv_icmp_geN (tgt := 146) hx dX4_merged_67 (by decide) (by omega) (by omega) (fun c_67 => ?_) (fun c_67 => ?_)
    · refine cont S Y i hR hF ?_
      cases ha : (nz w K && decide (cg (X.2.1 1) K n = w K)) with
      | false => rw [ha, Bool.false_and] at hP; exact hP
      | true =>
        rw [ha, decide_eq_true (by have := cnt_lt hK (Bool.and_eq_true_iff.mp ha).1; omega)] at hP
        exact hP
    · exfalso; omega
  | succ d ih =>
    intro i S Y hR hF hP hi
    have e7 : Y.2.1 7 fm = X.2.1 7 fm := hF.2.2.1 fm (by omega)
    have h7 := hw.1
    obtain ⟨k', hk', hnz, hpos⟩ := cnt_surj (f := nz w) (N := 16) (i := i) (by omega)
    obtain ⟨hr1, hr2⟩ := hw.2 k' hk' (nz_t.mp hnz)
    have e8 : Y.2.1 8 (16 * fm + i) = w k' := by rw [hF.2.2.2.1 _ (by omega), ← hpos]; exact hr1
    have e1 : Y.2.1 1 (w k') = k' := by rw [hF.2.1 1 (by decide) (by decide)]; exact hr2
    have ecg : cg (Y.2.1 1) = cg (X.2.1 1) := by rw [hF.2.1 1 (by decide) (by decide)]
    have hw6 : w k' ≤ 600 := by rw [← hr1]; exact hX8 _ (by omega)
    have h7s : Y.2.1 7 s ≤ 16 := by
      cases hb : (done || ((nz w K && decide (cg (X.2.1 1) K n = w K)) && decide (cntN (nz w) K < i))) with
      | true => rw [hb] at hP; have := hcmw (K + 1); rw [hP.1]; omega
      | false => rw [hb] at hP; have := hcmw K; rw [hP.1]; omega
    refine vv_iload hx dX4_merged_58 rfl ?_
    refine vv_aload_n hx dX4_merged_60 rfl ?_
    refine rr_getr 7 hx dX4_merged_61 kf_X4_23 (by decide) rfl rfl hR ?_
    refine vv_iload hx dX4_merged_64 rfl ?_
    refine rr_iald (e0 := Y.2.1 7 (fm)) (n := 320) 7 hx dX4_merged_66 rfl hR rfl (by omega) (by first | rfl | simp [xA, xI, xE, xW]) ?_
    have b_66 : Y.2.1 7 (fm) < 2 ^ 31 := by have h9 := hR.lt 7 (fm); first | exact h9 | simpa [xA, xI, xE, xW] using h9
    refine vv_icmp_geN (tgt := 146) hx dX4_merged_67 (by decide) (by omega) (by omega) (fun c_67 => ?_) (fun c_67 => ?_)
    · exfalso; omega
    · refine vv_aload_n hx dX4_merged_70 rfl ?_
      refine rr_getr 8 hx dX4_merged_71 kf_X4_26 (by decide) rfl rfl hR ?_
      refine vv_bipush (v := nI 16) hx dX4_merged_74 (by decide) ?_
      refine vv_iload hx dX4_merged_76 rfl ?_
      refine vv_imulN hx dX4_merged_78 ?_
      refine vv_iload hx dX4_merged_79 rfl ?_
      refine vv_iaddN hx dX4_merged_81 ?_
      refine rr_iald (e0 := Y.2.1 8 ((16 * fm) + i)) (n := 5120) 8 hx dX4_merged_82 rfl hR rfl (by omega) (by first | rfl | simp [xA, xI, xE, xW]) ?_
      have b_82 : Y.2.1 8 ((16 * fm) + i) < 2 ^ 31 := by have h9 := hR.lt 8 ((16 * fm) + i); first | exact h9 | simpa [xA, xI, xE, xW] using h9
      refine vv_istore (lv' := [(0, .ref r), (1, .int (nI (one))), (2, .int (nI (oth))), (3, .int (nI (n))), (4, .int (nI (s))), (5, .int (nI (K))), (6, .int (nI (side))), (7, .int (nI (fm))), (8, .int (nI (i))), (9, .int (nI (Y.2.1 8 ((16 * fm) + i))))]) hx dX4_merged_83 (by decide) rfl rfl ?_
      refine vv_aload_n hx dX4_merged_85 rfl ?_
      refine rr_getr 1 hx dX4_merged_86 kf_X4_7 (by decide) rfl rfl hR ?_
      refine vv_iload hx dX4_merged_89 rfl ?_
      refine rr_iald (e0 := Y.2.1 1 (Y.2.1 8 ((16 * fm) + i))) (n := 601) 1 hx dX4_merged_91 rfl hR rfl (by omega) (by first | rfl | simp [xA, xI, xE, xW]) ?_
      have b_91 : Y.2.1 1 (Y.2.1 8 ((16 * fm) + i)) < 2 ^ 31 := by have h9 := hR.lt 1 (Y.2.1 8 ((16 * fm) + i)); first | exact h9 | simpa [xA, xI, xE, xW] using h9
      refine vv_iload hx dX4_merged_92 rfl ?_
      refine vv_icmp_neN (tgt := 140) hx dX4_merged_94 (by decide) (by omega) (by omega) (fun c_94 => ?_) (fun c_94 => ?_)
      · refine vv_iinc (u := (nI (i + 1))) (lv' := [(0, .ref r), (1, .int (nI (one))), (2, .int (nI (oth))), (3, .int (nI (n))), (4, .int (nI (s))), (5, .int (nI (K))), (6, .int (nI (side))), (7, .int (nI (fm))), (8, .int (nI (i + 1))), (9, .int (nI (Y.2.1 8 ((16 * fm) + i))))]) hx dX4_merged_140 rfl (nI_1 _) (by decide) rfl rfl ?_
        refine vv_goto (tgt := 58) hx dX4_merged_143 (by decide) ?_
        refine vv_sub [0, 1, 2, 3, 4, 5, 6, 7, 8] rfl (ih (i + 1) S Y hR hF ?_ (by omega))
        have hno : ((nz w K && decide (cg (X.2.1 1) K n = w K)) && decide (cntN (nz w) K < i + 1)) = ((nz w K && decide (cg (X.2.1 1) K n = w K)) && decide (cntN (nz w) K < i)) := by
          cases ha : (nz w K && decide (cg (X.2.1 1) K n = w K)) with
          | false => rfl
          | true =>
            rw [Bool.true_and, Bool.true_and]
            refine decide_eq_decide.mpr ⟨fun q => ?_, fun q => by omega⟩
            by_cases q2 : cntN (nz w) K = i
            · exfalso
              have ekk := cnt_inj hnz (Bool.and_eq_true_iff.mp ha).1 (hpos.trans q2.symm)
              subst ekk
              exact c_94 (by rw [e8, e1])
            · omega
        rw [hno]
        exact hP
      · refine vv_aload_n hx dX4_merged_97 rfl ?_
        refine vv_iload hx dX4_merged_98 rfl ?_
        refine vv_iload_n hx dX4_merged_100 rfl ?_
        refine vv_callV (As := [.int (nI (K)), .int (nI (n))]) hx dX4_merged_101 km_X4_54 kq_X4_change ki_X4_change ks_X4_change kl_4 hR.1 (c_X4_change hR (by omega) hn) rfl rfl (Nat.le_of_ble_eq_true rfl) (by decide) (by decide) rfl rfl (vv_cd ?_)
        have hcl := cg_le (Y.2.1 1) K n
        refine vv_iload hx dX4_merged_104 rfl ?_
        refine vv_icmp_neN (tgt := 140) hx dX4_merged_106 (by decide) (by omega) (by omega) (fun c_106 => ?_) (fun c_106 => ?_)
        · refine vv_iinc (u := (nI (i + 1))) (lv' := [(0, .ref r), (1, .int (nI (one))), (2, .int (nI (oth))), (3, .int (nI (n))), (4, .int (nI (s))), (5, .int (nI (K))), (6, .int (nI (side))), (7, .int (nI (fm))), (8, .int (nI (i + 1))), (9, .int (nI (Y.2.1 8 ((16 * fm) + i))))]) hx dX4_merged_140 rfl (nI_1 _) (by decide) rfl rfl ?_
          refine vv_goto (tgt := 58) hx dX4_merged_143 (by decide) ?_
          refine vv_sub [0, 1, 2, 3, 4, 5, 6, 7, 8] rfl (ih (i + 1) S Y hR hF ?_ (by omega))
          have hno : ((nz w K && decide (cg (X.2.1 1) K n = w K)) && decide (cntN (nz w) K < i + 1)) = ((nz w K && decide (cg (X.2.1 1) K n = w K)) && decide (cntN (nz w) K < i)) := by
            cases ha : (nz w K && decide (cg (X.2.1 1) K n = w K)) with
            | false => rfl
            | true =>
              rw [Bool.true_and, Bool.true_and]
              refine decide_eq_decide.mpr ⟨fun q => ?_, fun q => by omega⟩
              by_cases q2 : cntN (nz w) K = i
              · exfalso
                have ekk := cnt_inj hnz (Bool.and_eq_true_iff.mp ha).1 (hpos.trans q2.symm)
                subst ekk
                exact c_106 (by rw [ecg, e8]; exact of_decide_eq_true (Bool.and_eq_true_iff.mp ha).2)
              · omega
          rw [hno]
          exact hP
        · refine vv_aload_n hx dX4_merged_109 rfl ?_
          refine rr_getr 8 hx dX4_merged_110 kf_X4_26 (by decide) rfl rfl hR ?_
          refine vv_bipush (v := nI 16) hx dX4_merged_113 (by decide) ?_
          refine vv_iload hx dX4_merged_115 rfl ?_
          refine vv_imulN hx dX4_merged_117 ?_
          refine vv_aload_n hx dX4_merged_118 rfl ?_
          refine rr_getr 7 hx dX4_merged_119 kf_X4_23 (by decide) rfl rfl hR ?_
          refine vv_iload hx dX4_merged_122 rfl ?_
          refine rr_iald (e0 := Y.2.1 7 (s)) (n := 320) 7 hx dX4_merged_124 rfl hR rfl (by omega) (by first | rfl | simp [xA, xI, xE, xW]) ?_
          have b_124 : Y.2.1 7 (s) < 2 ^ 31 := by have h9 := hR.lt 7 (s); first | exact h9 | simpa [xA, xI, xE, xW] using h9
          refine vv_iaddN hx dX4_merged_125 ?_
          refine vv_iload hx dX4_merged_126 rfl ?_
          refine rr_iast (n := 5120) 8 hx dX4_merged_128 rfl hR rfl (by omega) (by omega) (fun S hR => ?_)
          refine vv_aload_n hx dX4_merged_129 rfl ?_
          refine rr_getr 7 hx dX4_merged_130 kf_X4_23 (by decide) rfl rfl hR ?_
          refine vv_iload hx dX4_merged_133 rfl ?_
          refine vv_dup2 hx dX4_merged_135 rfl rfl ?_
          refine rr_iald (e0 := Y.2.1 7 (s)) (n := 320) 7 hx dX4_merged_136 rfl hR rfl (by omega) (by first | rfl | simp [xA, xI, xE, xW]) ?_
          have b_136 : Y.2.1 7 (s) < 2 ^ 31 := by have h9 := hR.lt 7 (s); first | exact h9 | simpa [xA, xI, xE, xW] using h9
          refine vv_iconst (v := nI 1) hx dX4_merged_137 (by decide) ?_
          refine vv_iaddN hx dX4_merged_138 ?_
          refine rr_iast (n := 320) 7 hx dX4_merged_139 rfl hR rfl (by omega) (by omega) (fun S hR => ?_)
          refine vv_iinc (u := (nI (i + 1))) (lv' := [(0, .ref r), (1, .int (nI (one))), (2, .int (nI (oth))), (3, .int (nI (n))), (4, .int (nI (s))), (5, .int (nI (K))), (6, .int (nI (side))), (7, .int (nI (fm))), (8, .int (nI (i + 1))), (9, .int (nI (Y.2.1 8 ((16 * fm) + i))))]) hx dX4_merged_140 rfl (nI_1 _) (by decide) rfl rfl ?_
          refine vv_goto (tgt := 58) hx dX4_merged_143 (by decide) ?_
          have ekk : k' = K := by rw [e8, e1] at c_94; exact c_94
          subst ekk
          have ewk : cg (X.2.1 1) k' n = w k' := by rw [← ecg, c_106, e8]
          have ha : (nz w k' && decide (cg (X.2.1 1) k' n = w k')) = true := by rw [hnz, decide_eq_true ewk]; rfl
          obtain ⟨hdn, hmw⟩ := hd ha
          rw [ha, hdn, hpos, decide_eq_false (by omega)] at hP
          refine vv_sub [0, 1, 2, 3, 4, 5, 6, 7, 8] rfl (ih (i + 1) S _ hR (hF.put) ?_ (by omega))
          rw [ha, hdn, hpos, decide_eq_true (by omega)]
          exact rkO.put hP (by rw [hmw, ewk, e8]) (by rw [e8]; exact nz_t.mp hnz)
