set_option maxRecDepth 100000 in
set_option maxHeartbeats 4000000 in
theorem l_X4_merged_in {r : Nat} {ad : Nat → Nat} {X : xx_X} {mw w : Nat → Nat} {x : vv_X} {one oth n s K side fm : Nat} (hx : vv_C x cX4_merged RX4 1 23 10) (hs : s < 310) (hn : n ≤ 600) (hK : K < 16) (hck : ∀ i, X.2.1 1 i < 16) (hX8 : ∀ i, i < 16 * s → X.2.1 8 i ≤ 600) (hfm : fm < s) (hw : sgR X fm w) (done : Bool) (hd : (nz w K && decide (cg (X.2.1 1) K n = w K)) = true → done = false ∧ mw K = cg (X.2.1 1) K n) (cont : ∀ (S : mm_H) (Y : xx_X) (i : Nat), xx_R S r ad Y → mF X Y s → (bif done || (nz w K && decide (cg (X.2.1 1) K n = w K)) then rkO Y s mw (K + 1) else rkO Y s mw K) → vv_V x 0 0 146 [(0, .ref r), (1, .int (nI (one))), (2, .int (nI (oth))), (3, .int (nI (n))), (4, .int (nI (s))), (5, .int (nI (K))), (6, .int (nI (side))), (7, .int (nI (fm))), (8, .int (nI (i)))] [] S) :
    ∀ d i (S : mm_H) (Y : xx_X), xx_R S r ad Y → mF X Y s → (bif done || ((nz w K && decide (cg (X.2.1 1) K n = w K)) && decide (cntN (nz w) K < i)) then rkO Y s mw (K + 1) else rkO Y s mw K) → i + d = X.2.1 7 fm → vv_V x 0 0 58 [(0, .ref r), (1, .int (nI (one))), (2, .int (nI (oth))), (3, .int (nI (n))), (4, .int (nI (s))), (5, .int (nI (K))), (6, .int (nI (side))), (7, .int (nI (fm))), (8, .int (nI (i)))] [] S := by
  have hc16 := cntN_le (nz w) 16
  have hcmw := fun k => cntN_le (nz mw) k
  intro d
  induction d with
  | zero =>
    intro i S Y hR hF hP hi
    have e7 : Y.2.1 7 fm = X.2.1 7 fm := hF.2.2.1 fm (by omega)
    have h7 := hw.1
    refine vv_iload hx dX4_merged_58 rfl ?_
    refine vv_aload_n hx dX4_merged_60 rfl ?_
    refine rr_getr 7 hx dX4_merged_61 kf_X4_23 (by decide) rfl rfl hR ?_
    refine vv_iload hx dX4_merged_64 rfl ?_
    refine rr_iald (e0 := Y.2.1 7 (fm)) (n := 320) 7 hx dX4_merged_66 rfl hR rfl (by omega) (by first | rfl | simp [xA, xI, xE, xW]) ?_
    have b_66 : Y.2.1 7 (fm) < 2 ^ 31 := by have h9 := hR.lt 7 (fm); first | exact h9 | simpa [xA, xI, xE, xW] using h9
    refine vv_icmp_geN (tgt := 146) hx dX4_merged_67 (by decide) (by omega) (by omega) (fun c_67 => ?_) (fun c_67 => ?_)
    · refine cont S Y i hR hF ?_
      cases ha : (nz w K && decide (cg (X.2.1 1) K n = w K)) with
      | false => rw [ha, Bool.false_and] at hP; exact hP
      | true =>
        rw [ha, decide_eq_true (by have := cnt_lt hK (Bool.and_eq_true_iff.mp ha).1; omega)] at hP
        exact hP
    · exfalso; omega
  | succ d ih =>
    intro i S Y hR hF hP hi
    have e7 : Y.2.1 7 fm = X.2.1 7 fm := hF.2.2.1 fm (by omega)
    have h7 := hw.1
    obtain ⟨k', hk', hnz, hpos⟩ := cnt_surj (f := nz w) (N := 16) (i := i) (by omega)
    obtain ⟨hr1, hr2⟩ := hw.2 k' hk' (nz_t.mp hnz)
    have e8 : Y.2.1 8 (16 * fm + i) = w k' := by rw [hF.2.2.2.1 _ (by omega), ← hpos]; exact hr1
    have e1 : Y.2.1 1 (w k') = k' := by rw [hF.2.1 1 (by decide) (by decide)]; exact hr2
    have ecg : cg (Y.2.1 1) = cg (X.2.1 1) := by rw [hF.2.1 1 (by decide) (by decide)]
    have hw6 : w k' ≤ 600 := by rw [← hr1]; exact hX8 _ (by omega)
    have h7s : Y.2.1 7 s ≤ 16 := by
      cases hb : (done || ((nz w K && decide (cg (X.2.1 1) K n = w K)) && decide (cntN (nz w) K < i))) with
      | true => rw [hb] at hP; have := hcmw (K + 1); rw [hP.1]; omega
      | false => rw [hb] at hP; have := hcmw K; rw [hP.1]; omega
    refine vv_iload hx dX4_merged_58 rfl ?_
    refine vv_aload_n hx dX4_merged_60 rfl ?_
    refine rr_getr 7 hx dX4_merged_61 kf_X4_23 (by decide) rfl rfl hR ?_
    refine vv_iload hx dX4_merged_64 rfl ?_
    refine rr_iald (e0 := Y.2.1 7 (fm)) (n := 320) 7 hx dX4_merged_66 rfl hR rfl (by omega) (by first | rfl | simp [xA, xI, xE, xW]) ?_
    have b_66 : Y.2.1 7 (fm) < 2 ^ 31 := by have h9 := hR.lt 7 (fm); first | exact h9 | simpa [xA, xI, xE, xW] using h9
    refine vv_icmp_geN (tgt := 146) hx dX4_merged_67 (by decide) (by omega) (by omega) (fun c_67 => ?_) (fun c_67 => ?_)
    · exfalso; omega
    · refine vv_aload_n hx dX4_merged_70 rfl ?_
      refine rr_getr 8 hx dX4_merged_71 kf_X4_26 (by decide) rfl rfl hR ?_
      refine vv_bipush (v := nI 16) hx dX4_merged_74 (by decide) ?_
      refine vv_iload hx dX4_merged_76 rfl ?_
      refine vv_imulN hx dX4_merged_78 ?_
      refine vv_iload hx dX4_merged_79 rfl ?_
      refine vv_iaddN hx dX4_merged_81 ?_
      refine rr_iald (e0 := Y.2.1 8 ((16 * fm) + i)) (n := 5120) 8 hx dX4_merged_82 rfl hR rfl (by omega) (by first | rfl | simp [xA, xI, xE, xW]) ?_
      have b_82 : Y.2.1 8 ((16 * fm) + i) < 2 ^ 31 := by have h9 := hR.lt 8 ((16 * fm) + i); first | exact h9 | simpa [xA, xI, xE, xW] using h9
      refine vv_istore (lv' := [(0, .ref r), (1, .int (nI (one))), (2, .int (nI (oth))), (3, .int (nI (n))), (4, .int (nI (s))), (5, .int (nI (K))), (6, .int (nI (side))), (7, .int (nI (fm))), (8, .int (nI (i))), (9, .int (nI (Y.2.1 8 ((16 * fm) + i))))]) hx dX4_merged_83 (by decide) rfl rfl ?_
      refine vv_aload_n hx dX4_merged_85 rfl ?_
      refine rr_getr 1 hx dX4_merged_86 kf_X4_7 (by decide) rfl rfl hR ?_
      refine vv_iload hx dX4_merged_89 rfl ?_
      refine rr_iald (e0 := Y.2.1 1 (Y.2.1 8 ((16 * fm) + i))) (n := 601) 1 hx dX4_merged_91 rfl hR rfl (by omega) (by first | rfl | simp [xA, xI, xE, xW]) ?_
      have b_91 : Y.2.1 1 (Y.2.1 8 ((16 * fm) + i)) < 2 ^ 31 := by have h9 := hR.lt 1 (Y.2.1 8 ((16 * fm) + i)); first | exact h9 | simpa [xA, xI, xE, xW] using h9
      refine vv_iload hx dX4_merged_92 rfl ?_
      refine vv_icmp_neN (tgt := 140) hx dX4_merged_94 (by decide) (by omega) (by omega) (fun c_94 => ?_) (fun c_94 => ?_)
      · refine vv_iinc (u := (nI (i + 1))) (lv' := [(0, .ref r), (1, .int (nI (one))), (2, .int (nI (oth))), (3, .int (nI (n))), (4, .int (nI (s))), (5, .int (nI (K))), (6, .int (nI (side))), (7, .int (nI (fm))), (8, .int (nI (i + 1))), (9, .int (nI (Y.2.1 8 ((16 * fm) + i))))]) hx dX4_merged_140 rfl (nI_1 _) (by decide) rfl rfl ?_
        refine vv_goto (tgt := 58) hx dX4_merged_143 (by decide) ?_
        refine vv_sub [0, 1, 2, 3, 4, 5, 6, 7, 8] rfl (ih (i + 1) S Y hR hF ?_ (by omega))
        have hno : ((nz w K && decide (cg (X.2.1 1) K n = w K)) && decide (cntN (nz w) K < i + 1)) = ((nz w K && decide (cg (X.2.1 1) K n = w K)) && decide (cntN (nz w) K < i)) := by
          cases ha : (nz w K && decide (cg (X.2.1 1) K n = w K)) with
          | false => rfl
          | true =>
            rw [Bool.true_and, Bool.true_and]
            refine decide_eq_decide.mpr ⟨fun q => ?_, fun q => by omega⟩
            by_cases q2 : cntN (nz w) K = i
            · exfalso
              have ekk := cnt_inj hnz (Bool.and_eq_true_iff.mp ha).1 (hpos.trans q2.symm)
              subst ekk
              exact c_94 (by rw [e8, e1])
            · omega
        rw [hno]
        exact hP
      · refine vv_aload_n hx dX4_merged_97 rfl ?_
        refine vv_iload hx dX4_merged_98 rfl ?_
        refine vv_iload_n hx dX4_merged_100 rfl ?_
        refine vv_callV (As := [.int (nI (K)), .int (nI (n))]) hx dX4_merged_101 km_X4_54 kq_X4_change ki_X4_change ks_X4_change kl_4 hR.1 (c_X4_change hR (by omega) hn) rfl rfl (Nat.le_of_ble_eq_true rfl) (by decide) (by decide) rfl rfl (vv_cd ?_)
        have hcl := cg_le (Y.2.1 1) K n
        refine vv_iload hx dX4_merged_104 rfl ?_
        refine vv_icmp_neN (tgt := 140) hx dX4_merged_106 (by decide) (by omega) (by omega) (fun c_106 => ?_) (fun c_106 => ?_)
        · refine vv_iinc (u := (nI (i + 1))) (lv' := [(0, .ref r), (1, .int (nI (one))), (2, .int (nI (oth))), (3, .int (nI (n))), (4, .int (nI (s))), (5, .int (nI (K))), (6, .int (nI (side))), (7, .int (nI (fm))), (8, .int (nI (i + 1))), (9, .int (nI (Y.2.1 8 ((16 * fm) + i))))]) hx dX4_merged_140 rfl (nI_1 _) (by decide) rfl rfl ?_
          refine vv_goto (tgt := 58) hx dX4_merged_143 (by decide) ?_
          refine vv_sub [0, 1, 2, 3, 4, 5, 6, 7, 8] rfl (ih (i + 1) S Y hR hF ?_ (by omega))
          have hno : ((nz w K && decide (cg (X.2.1 1) K n = w K)) && decide (cntN (nz w) K < i + 1)) = ((nz w K && decide (cg (X.2.1 1) K n = w K)) && decide (cntN (nz w) K < i)) := by
            cases ha : (nz w K && decide (cg (X.2.1 1) K n = w K)) with
            | false => rfl
            | true =>
              rw [Bool.true_and, Bool.true_and]
              refine decide_eq_decide.mpr ⟨fun q => ?_, fun q => by omega⟩
              by_cases q2 : cntN (nz w) K = i
              · exfalso
                have ekk := cnt_inj hnz (Bool.and_eq_true_iff.mp ha).1 (hpos.trans q2.symm)
                subst ekk
                exact c_106 (by rw [ecg, e8]; exact of_decide_eq_true (Bool.and_eq_true_iff.mp ha).2)
              · omega
          rw [hno]
          exact hP
        · refine vv_aload_n hx dX4_merged_109 rfl ?_
          refine rr_getr 8 hx dX4_merged_110 kf_X4_26 (by decide) rfl rfl hR ?_
          refine vv_bipush (v := nI 16) hx dX4_merged_113 (by decide) ?_
          refine vv_iload hx dX4_merged_115 rfl ?_
          refine vv_imulN hx dX4_merged_117 ?_
          refine vv_aload_n hx dX4_merged_118 rfl ?_
          refine rr_getr 7 hx dX4_merged_119 kf_X4_23 (by decide) rfl rfl hR ?_
          refine vv_iload hx dX4_merged_122 rfl ?_
          refine rr_iald (e0 := Y.2.1 7 (s)) (n := 320) 7 hx dX4_merged_124 rfl hR rfl (by omega) (by first | rfl | simp [xA, xI, xE, xW]) ?_
          have b_124 : Y.2.1 7 (s) < 2 ^ 31 := by have h9 := hR.lt 7 (s); first | exact h9 | simpa [xA, xI, xE, xW] using h9
          refine vv_iaddN hx dX4_merged_125 ?_
          refine vv_iload hx dX4_merged_126 rfl ?_
          refine rr_iast (n := 5120) 8 hx dX4_merged_128 rfl hR rfl (by omega) (by omega) (fun S hR => ?_)
          refine vv_aload_n hx dX4_merged_129 rfl ?_
          refine rr_getr 7 hx dX4_merged_130 kf_X4_23 (by decide) rfl rfl hR ?_
          refine vv_iload hx dX4_merged_133 rfl ?_
          refine vv_dup2 hx dX4_merged_135 rfl rfl ?_
          refine rr_iald (e0 := Y.2.1 7 (s)) (n := 320) 7 hx dX4_merged_136 rfl hR rfl (by omega) (by first | rfl | simp [xA, xI, xE, xW]) ?_
          have b_136 : Y.2.1 7 (s) < 2 ^ 31 := by have h9 := hR.lt 7 (s); first | exact h9 | simpa [xA, xI, xE, xW] using h9
          refine vv_iconst (v := nI 1) hx dX4_merged_137 (by decide) ?_
          refine vv_iaddN hx dX4_merged_138 ?_
          refine rr_iast (n := 320) 7 hx dX4_merged_139 rfl hR rfl (by omega) (by omega) (fun S hR => ?_)
          refine vv_iinc (u := (nI (i + 1))) (lv' := [(0, .ref r), (1, .int (nI (one))), (2, .int (nI (oth))), (3, .int (nI (n))), (4, .int (nI (s))), (5, .int (nI (K))), (6, .int (nI (side))), (7, .int (nI (fm))), (8, .int (nI (i + 1))), (9, .int (nI (Y.2.1 8 ((16 * fm) + i))))]) hx dX4_merged_140 rfl (nI_1 _) (by decide) rfl rfl ?_
          refine vv_goto (tgt := 58) hx dX4_merged_143 (by decide) ?_
          have ekk : k' = K := by rw [e8, e1] at c_94; exact c_94
          subst ekk
          have ewk : cg (X.2.1 1) k' n = w k' := by rw [← ecg, c_106, e8]
          have ha : (nz w k' && decide (cg (X.2.1 1) k' n = w k')) = true := by rw [hnz, decide_eq_true ewk]; rfl
          obtain ⟨hdn, hmw⟩ := hd ha
          rw [ha, hdn, hpos, decide_eq_false (by omega)] at hP
          have hc7 := hcmw k'
          have h7e := hP.1
          refine vv_sub [0, 1, 2, 3, 4, 5, 6, 7, 8] rfl (ih (i + 1) S _ hR (hF.put (by omega) (by omega)) ?_ (by omega))
          rw [ha, hdn, hpos, decide_eq_true (by omega)]
          exact rkO.put hP (by rw [hmw, ewk, e8]) (by rw [e8]; exact nz_t.mp hnz)
set_option maxRecDepth 100000 in
set_option maxHeartbeats 4000000 in
theorem l_X4_merged_key {r : Nat} {ad : Nat → Nat} {X : xx_X} {w1 w2 : Nat → Nat} {x : vv_X} {one oth n s K : Nat} (hx : vv_C x cX4_merged RX4 1 23 10) (hs : s < 310) (hn : n ≤ 600) (hck : ∀ i, X.2.1 1 i < 16) (hX8 : ∀ i, i < 16 * s → X.2.1 8 i ≤ 600) (hK : K < 16) (h1 : one < s) (h2 : oth < s) (hw1 : sgR X one w1) (hw2 : sgR X oth w2) (hdj : ∀ k, k < 16 → 0 < w1 k → 0 < w2 k → cg (X.2.1 1) k n = w1 k → cg (X.2.1 1) k n = w2 k → False) (cont : ∀ (S : mm_H) (Y : xx_X), xx_R S r ad Y → mF X Y s → rkO Y s (mwW (X.2.1 1) n w1 w2) (K + 1) → vv_V x 0 0 152 [(0, .ref r), (1, .int (nI (one))), (2, .int (nI (oth))), (3, .int (nI (n))), (4, .int (nI (s))), (5, .int (nI (K)))] [] S) (S : mm_H) (Y : xx_X) (hR : xx_R S r ad Y) (hF : mF X Y s) (hP : rkO Y s (mwW (X.2.1 1) n w1 w2) K) : vv_V x 0 0 37 [(0, .ref r), (1, .int (nI (one))), (2, .int (nI (oth))), (3, .int (nI (n))), (4, .int (nI (s))), (5, .int (nI (K))), (6, .int (nI (0)))] [] S := by
  have d1 : (nz w1 K && decide (cg (X.2.1 1) K n = w1 K)) = true → false = false ∧ mwW (X.2.1 1) n w1 w2 K = cg (X.2.1 1) K n := fun ha => ⟨rfl, by unfold mwW; rw [ha]; rfl⟩
  have d2 : (nz w2 K && decide (cg (X.2.1 1) K n = w2 K)) = true → (nz w1 K && decide (cg (X.2.1 1) K n = w1 K)) = false ∧ mwW (X.2.1 1) n w1 w2 K = cg (X.2.1 1) K n := fun ha => ⟨by
      cases hb : (nz w1 K && decide (cg (X.2.1 1) K n = w1 K)) with
      | false => rfl
      | true =>
        have e1 := Bool.and_eq_true_iff.mp hb
        have e2 := Bool.and_eq_true_iff.mp ha
        exact (hdj K hK (nz_t.mp e1.1) (nz_t.mp e2.1) (of_decide_eq_true e1.2) (of_decide_eq_true e2.2)).elim, by unfold mwW; rw [ha, Bool.or_true]; rfl⟩
  refine vv_iload hx dX4_merged_37 rfl ?_
  refine vv_iconst (v := nI 2) hx dX4_merged_39 (by decide) ?_
  refine vv_icmp_geN (tgt := 152) hx dX4_merged_40 (by decide) (by omega) (by omega) (fun c_40 => ?_) (fun c_40 => ?_)
  · exfalso; omega
  · refine vv_iload hx dX4_merged_43 rfl ?_
    refine vv_if_neN (tgt := 52) hx dX4_merged_45 (by decide) (by omega) (fun c_45 => ?_) (fun c_45 => ?_)
    · exfalso; omega
    · refine vv_iload_n hx dX4_merged_48 rfl ?_
      refine vv_goto (tgt := 53) hx dX4_merged_49 (by decide) ?_
      refine vv_istore (lv' := [(0, .ref r), (1, .int (nI (one))), (2, .int (nI (oth))), (3, .int (nI (n))), (4, .int (nI (s))), (5, .int (nI (K))), (6, .int (nI (0))), (7, .int (nI (one)))]) hx dX4_merged_53 (by decide) rfl rfl ?_
      refine vv_iconst (v := nI 0) hx dX4_merged_55 (by decide) ?_
      refine vv_istore (lv' := [(0, .ref r), (1, .int (nI (one))), (2, .int (nI (oth))), (3, .int (nI (n))), (4, .int (nI (s))), (5, .int (nI (K))), (6, .int (nI (0))), (7, .int (nI (one))), (8, .int (nI (0)))]) hx dX4_merged_56 (by decide) rfl rfl ?_
      refine l_X4_merged_in hx hs hn hK hck hX8 h1 hw1 false d1 (fun S Y i hR hF hP => ?_) (X.2.1 7 one) 0 S Y hR hF (by rw [show decide (cntN (nz w1) K < 0) = false from decide_eq_false (by omega), Bool.and_false]; exact hP) (by omega)
      refine vv_iinc (u := (nI (0 + 1))) (lv' := [(0, .ref r), (1, .int (nI (one))), (2, .int (nI (oth))), (3, .int (nI (n))), (4, .int (nI (s))), (5, .int (nI (K))), (6, .int (nI (0 + 1))), (7, .int (nI (one))), (8, .int (nI (i)))]) hx dX4_merged_146 rfl (nI_1 _) (by decide) rfl rfl ?_
      refine vv_goto (tgt := 37) hx dX4_merged_149 (by decide) ?_
      refine vv_sub [0, 1, 2, 3, 4, 5, 6] rfl ?_
      show vv_V x 0 0 37 [(0, .ref r), (1, .int (nI (one))), (2, .int (nI (oth))), (3, .int (nI (n))), (4, .int (nI (s))), (5, .int (nI (K))), (6, .int (nI (1)))] [] S
      rw [Bool.false_or] at hP
      refine vv_iload hx dX4_merged_37 rfl ?_
      refine vv_iconst (v := nI 2) hx dX4_merged_39 (by decide) ?_
      refine vv_icmp_geN (tgt := 152) hx dX4_merged_40 (by decide) (by omega) (by omega) (fun c_40 => ?_) (fun c_40 => ?_)
      · exfalso; omega
      · refine vv_iload hx dX4_merged_43 rfl ?_
        refine vv_if_neN (tgt := 52) hx dX4_merged_45 (by decide) (by omega) (fun c_45 => ?_) (fun c_45 => ?_)
        · refine vv_iload_n hx dX4_merged_52 rfl ?_
          refine vv_istore (lv' := [(0, .ref r), (1, .int (nI (one))), (2, .int (nI (oth))), (3, .int (nI (n))), (4, .int (nI (s))), (5, .int (nI (K))), (6, .int (nI (1))), (7, .int (nI (oth)))]) hx dX4_merged_53 (by decide) rfl rfl ?_
          refine vv_iconst (v := nI 0) hx dX4_merged_55 (by decide) ?_
          refine vv_istore (lv' := [(0, .ref r), (1, .int (nI (one))), (2, .int (nI (oth))), (3, .int (nI (n))), (4, .int (nI (s))), (5, .int (nI (K))), (6, .int (nI (1))), (7, .int (nI (oth))), (8, .int (nI (0)))]) hx dX4_merged_56 (by decide) rfl rfl ?_
          refine l_X4_merged_in hx hs hn hK hck hX8 h2 hw2 (nz w1 K && decide (cg (X.2.1 1) K n = w1 K)) d2 (fun S Y i hR hF hP => ?_) (X.2.1 7 oth) 0 S Y hR hF (by rw [show decide (cntN (nz w2) K < 0) = false from decide_eq_false (by omega), Bool.and_false, Bool.or_false]; exact hP) (by omega)
          refine vv_iinc (u := (nI (1 + 1))) (lv' := [(0, .ref r), (1, .int (nI (one))), (2, .int (nI (oth))), (3, .int (nI (n))), (4, .int (nI (s))), (5, .int (nI (K))), (6, .int (nI (1 + 1))), (7, .int (nI (oth))), (8, .int (nI (i)))]) hx dX4_merged_146 rfl (nI_1 _) (by decide) rfl rfl ?_
          refine vv_goto (tgt := 37) hx dX4_merged_149 (by decide) ?_
          refine vv_sub [0, 1, 2, 3, 4, 5, 6] rfl ?_
          show vv_V x 0 0 37 [(0, .ref r), (1, .int (nI (one))), (2, .int (nI (oth))), (3, .int (nI (n))), (4, .int (nI (s))), (5, .int (nI (K))), (6, .int (nI (2)))] [] S
          refine vv_iload hx dX4_merged_37 rfl ?_
          refine vv_iconst (v := nI 2) hx dX4_merged_39 (by decide) ?_
          refine vv_icmp_geN (tgt := 152) hx dX4_merged_40 (by decide) (by omega) (by omega) (fun c_40 => ?_) (fun c_40 => ?_)
          · refine vv_sub [0, 1, 2, 3, 4, 5] rfl (cont S Y hR hF ?_)
            cases hb : ((nz w1 K && decide (cg (X.2.1 1) K n = w1 K)) || (nz w2 K && decide (cg (X.2.1 1) K n = w2 K))) with
            | true => rw [hb] at hP; exact hP
            | false => rw [hb] at hP; exact rkO.skip hP (by unfold mwW; rw [hb]; rfl)
          · exfalso; omega
        · exfalso; omega
set_option maxRecDepth 100000 in
set_option maxHeartbeats 4000000 in
theorem l_X4_merged {r : Nat} {ad : Nat → Nat} {X : xx_X} {w1 w2 : Nat → Nat} {x : vv_X} {one oth n s : Nat} {post : Option Value → mm_H → Prop} (hx : vv_C x cX4_merged RX4 1 23 10) (he : vv_E x (some .int) post) (hs : s < 310) (hn : n ≤ 600) (hck : ∀ i, X.2.1 1 i < 16) (hX8 : ∀ i, i < 16 * s → X.2.1 8 i ≤ 600) (h1 : one < s) (h2 : oth < s) (hw1 : sgR X one w1) (hw2 : sgR X oth w2) (hdj : ∀ k, k < 16 → 0 < w1 k → 0 < w2 k → cg (X.2.1 1) k n = w1 k → cg (X.2.1 1) k n = w2 k → False) (hcp : X.1 9 < 2 ^ 30) (hp : ∀ (S : mm_H) (Y : xx_X), xx_R S r ad (xI Y 9 (X.1 9 + cntN (nz (mwW (X.2.1 1) n w1 w2)) 16)) → mF X Y s → rkO Y s (mwW (X.2.1 1) n w1 w2) 16 → post (some (.int (nI s))) S) : ∀ d K (S : mm_H) (Y : xx_X), xx_R S r ad Y → mF X Y s → rkO Y s (mwW (X.2.1 1) n w1 w2) K → K + d = 16 → vv_V x 0 0 27 [(0, .ref r), (1, .int (nI (one))), (2, .int (nI (oth))), (3, .int (nI (n))), (4, .int (nI (s))), (5, .int (nI (K)))] [] S := by
  have hc16 := cntN_le (nz (mwW (X.2.1 1) n w1 w2)) 16
  intro d
  induction d with
  | zero =>
    intro K S Y hR hF hP hd
    have eK : K = 16 := by omega
    subst eK
    have e9 : Y.1 9 = X.1 9 := by rw [hF.1]
    have e7 := hP.1
    refine vv_iload hx dX4_merged_27 rfl ?_
    refine vv_bipush (v := nI 16) hx dX4_merged_29 (by decide) ?_
    refine vv_icmp_geN (tgt := 158) hx dX4_merged_31 (by decide) (by omega) (by omega) (fun c_31 => ?_) (fun c_31 => ?_)
    · refine vv_aload_n hx dX4_merged_158 rfl ?_
      refine vv_dup hx dX4_merged_159 rfl ?_
      refine rr_geti (e0 := Y.1 9) 9 hx dX4_merged_160 kf_X4_85 (by decide) rfl rfl hR rfl ?_
      have b_160 : Y.1 9 < 2 ^ 31 := hR.li 9
      refine vv_aload_n hx dX4_merged_163 rfl ?_
      refine rr_getr 7 hx dX4_merged_164 kf_X4_23 (by decide) rfl rfl hR ?_
      refine vv_iload hx dX4_merged_167 rfl ?_
      refine rr_iald (e0 := Y.2.1 7 (s)) (n := 320) 7 hx dX4_merged_169 rfl hR rfl (by omega) (by first | rfl | simp [xA, xI, xE, xW]) ?_
      have b_169 : Y.2.1 7 (s) < 2 ^ 31 := by have h9 := hR.lt 7 (s); first | exact h9 | simpa [xA, xI, xE, xW] using h9
      refine vv_iaddN hx dX4_merged_170 ?_
      refine rr_puti 9 hx dX4_merged_171 kf_X4_85 (by decide) rfl rfl rfl rfl hR (by omega) (fun S hR => ?_)
      refine vv_iload hx dX4_merged_174 rfl ?_
      exact vv_iret hx he dX4_merged_176 (hp S Y (by rw [e9, e7] at hR; exact hR) hF hP)
    · exfalso; omega
  | succ d ih =>
    intro K S Y hR hF hP hd
    refine vv_iload hx dX4_merged_27 rfl ?_
    refine vv_bipush (v := nI 16) hx dX4_merged_29 (by decide) ?_
    refine vv_icmp_geN (tgt := 158) hx dX4_merged_31 (by decide) (by omega) (by omega) (fun c_31 => ?_) (fun c_31 => ?_)
    · exfalso; omega
    · refine vv_iconst (v := nI 0) hx dX4_merged_34 (by decide) ?_
      refine vv_istore (lv' := [(0, .ref r), (1, .int (nI (one))), (2, .int (nI (oth))), (3, .int (nI (n))), (4, .int (nI (s))), (5, .int (nI (K))), (6, .int (nI (0)))]) hx dX4_merged_35 (by decide) rfl rfl ?_
      refine l_X4_merged_key hx hs hn hck hX8 (by omega) h1 h2 hw1 hw2 hdj (fun S Y hR hF hP => ?_) S Y hR hF hP
      refine vv_iinc (u := (nI (K + 1))) (lv' := [(0, .ref r), (1, .int (nI (one))), (2, .int (nI (oth))), (3, .int (nI (n))), (4, .int (nI (s))), (5, .int (nI (K + 1)))]) hx dX4_merged_152 rfl (nI_1 _) (by decide) rfl rfl ?_
      refine vv_goto (tgt := 27) hx dX4_merged_155 (by decide) ?_
      exact ih (K + 1) S Y hR hF hP (by omega)
set_option maxRecDepth 100000 in
set_option maxHeartbeats 4000000 in
theorem c_X4_merged {S : mm_H} {r : Nat} {ad : Nat → Nat} {X : xx_X} (hR : xx_R S r ad X) {one oth n : Nat} {w1 w2 : Nat → Nat} (hs : X.1 6 < 310) (hn : n ≤ 600) (hck : ∀ i, X.2.1 1 i < 16) (hX8 : ∀ i, i < 16 * X.1 6 → X.2.1 8 i ≤ 600) (h1 : one < X.1 6) (h2 : oth < X.1 6) (hw1 : sgR X one w1) (hw2 : sgR X oth w2) (hdj : ∀ k, k < 16 → 0 < w1 k → 0 < w2 k → cg (X.2.1 1) k n = w1 k → cg (X.2.1 1) k n = w2 k → False) (hcp : X.1 9 < 2 ^ 30) : MI yX4_merged cX4_merged 10 1 23 0 0 [.ref r, .int (nI (one)), .int (nI (oth)), .int (nI (n))] S (fun z S' => z = nI (X.1 6) ∧ ∃ X', xx_R S' r ad X' ∧ mgR X X' (mwW (X.2.1 1) n w1 w2)) := by
  refine MA.of (by decide) (Nat.le_of_ble_eq_true rfl) ?_
  intro x hx he hini
  have hx : vv_C x cX4_merged RX4 1 23 10 := hx
  show vv_V x 0 0 0 [(0, .ref r), (1, .int (nI (one))), (2, .int (nI (oth))), (3, .int (nI (n)))] [] S
  have e1 : ((xA (xI X 6 (X.1 6 + 1)) 7 (X.1 6) 0)).2.1 1 = X.2.1 1 := rfl
  have sg1 : ∀ t w, t < X.1 6 → sgR X t w → sgR (xA (xI X 6 (X.1 6 + 1)) 7 (X.1 6) 0) t w := fun t w ht h => by
    refine ⟨?_, fun k hk hw => ?_⟩
    · show (if 7 = 7 ∧ t = X.1 6 then 0 else X.2.1 7 t) = _
      rw [if_neg (fun q => by omega)]; exact h.1
    · exact h.2 k hk hw
  refine vv_aload_n hx dX4_merged_0 rfl ?_
  refine rr_geti (e0 := X.1 6) 6 hx dX4_merged_1 kf_X4_82 (by decide) rfl rfl hR rfl ?_
  have b_1 : X.1 6 < 2 ^ 31 := hR.li 6
  refine vv_istore (lv' := [(0, .ref r), (1, .int (nI (one))), (2, .int (nI (oth))), (3, .int (nI (n))), (4, .int (nI (X.1 6)))]) hx dX4_merged_4 (by decide) rfl rfl ?_
  refine vv_aload_n hx dX4_merged_6 rfl ?_
  refine vv_dup hx dX4_merged_7 rfl ?_
  refine rr_geti (e0 := X.1 6) 6 hx dX4_merged_8 kf_X4_82 (by decide) rfl rfl hR rfl ?_
  have b_8 : X.1 6 < 2 ^ 31 := hR.li 6
  refine vv_iconst (v := nI 1) hx dX4_merged_11 (by decide) ?_
  refine vv_iaddN hx dX4_merged_12 ?_
  refine rr_puti 6 hx dX4_merged_13 kf_X4_82 (by decide) rfl rfl rfl rfl hR (by omega) (fun S hR => ?_)
  refine vv_aload_n hx dX4_merged_16 rfl ?_
  refine rr_getr 7 hx dX4_merged_17 kf_X4_23 (by decide) rfl rfl hR ?_
  refine vv_iload hx dX4_merged_20 rfl ?_
  refine vv_iconst (v := nI 0) hx dX4_merged_22 (by decide) ?_
  refine rr_iast (n := 320) 7 hx dX4_merged_23 rfl hR rfl (by omega) (by omega) (fun S hR => ?_)
  refine vv_iconst (v := nI 0) hx dX4_merged_24 (by decide) ?_
  refine vv_istore (lv' := [(0, .ref r), (1, .int (nI (one))), (2, .int (nI (oth))), (3, .int (nI (n))), (4, .int (nI (X.1 6))), (5, .int (nI (0)))]) hx dX4_merged_25 (by decide) rfl rfl ?_
  refine l_X4_merged (X := (xA (xI X 6 (X.1 6 + 1)) 7 (X.1 6) 0)) (w1 := w1) (w2 := w2) hx he hs hn hck hX8 h1 h2 (sg1 one w1 h1 hw1) (sg1 oth w2 h2 hw2) hdj hcp (fun S Y hR hF hP => ⟨_, rfl, rfl, _, hR, ?_⟩) 16 0 S _ hR (mF.refl _ _) ⟨?_, fun k hk => by omega⟩ rfl
  · obtain ⟨g1, g2, g3, g4, g5, g6⟩ := hF
    refine ⟨fun f f6 f9 => ?_, ?_, ?_, fun f f7 f8 => (g2 f f7 f8).trans (by funext j; show (if f = 7 ∧ j = X.1 6 then 0 else X.2.1 f j) = _; rw [if_neg (fun q => f7 q.1)]), fun t ht => ?_, g4, g5, ⟨hP.1, fun k hk hm => ⟨hP.2 k hk hm, ?_⟩⟩, fun hb => g6 ((hb.setI (f := 6)).set (Nat.zero_le _))⟩
    · show (if f = 9 then _ else Y.1 f) = X.1 f
      rw [if_neg f9, g1]
      show (if f = 6 then _ else X.1 f) = _
      rw [if_neg f6]
    · show Y.1 6 = _
      rw [g1]
      rfl
    · rfl
    · show Y.2.1 7 t = _
      rw [g3 t ht]
      show (if 7 = 7 ∧ t = X.1 6 then 0 else X.2.1 7 t) = _
      rw [if_neg (fun q => ht q.2)]
    · obtain ⟨q1, q2⟩ := mwW_pos hm
      show Y.2.1 1 (mwW (X.2.1 1) n w1 w2 k) = k
      rw [show mwW (X.2.1 1) n w1 w2 k = cg (X.2.1 1) k n from q1, g2 1 (by decide) (by decide)]
      exact cg_key _ _ _ q2
  · show (if 7 = 7 ∧ X.1 6 = X.1 6 then 0 else _) = _
    rw [if_pos ⟨rfl, rfl⟩]
    rfl
