set_option maxRecDepth 100000 in
set_option maxHeartbeats 4000000 in
theorem c_X3_isUnchanged {S : mm_H} {o nw a n n1 : Nat} {ch wd ch1 wd1 : Nat → Nat} (hoK : mm_K S o = 4) (hoP0 : mm_P S o 0 = some nw) (hnw : stA S nw n1 ch1 wd1) (hst : stA S a n ch wd) {k : Nat} (q : Int32) (hk : k < 16) : MZ yX3_isUnchanged cX3_isUnchanged 4 2 43 0 0 [.ref o, .ref a, .int (nI (k)), .int (q)] S (fun z S' => z = bI (fitB wd q k && decide (ch k = ch1 k)) ∧ S' = S) := by
  refine MA.of (by decide) (Nat.le_of_ble_eq_true rfl) ?_
  intro x hx he hini
  have hx : vv_C x cX3_isUnchanged RX3 2 43 4 := hx
  show vv_V x 0 0 0 [(0, .ref o), (1, .ref a), (2, .int (nI (k))), (3, .int (q))] [] S
  obtain ⟨hsK, hsI, sc, sw, hsP1, hsP2, hsKc, hsLc, hsKw, hsLw, hsC, hsW, hsn, hsch, hswd⟩ := id hst
  obtain ⟨hmK, hmI, mc, mw, hmP1, hmP2, hmKc, hmLc, hmKw, hmLw, hmC, hmW, hmn, hmch, hmwd⟩ := id hnw
  have hb1 := hsch k
  have hb2 := hmch k
  refine vv_aload_n hx dX3_isUnchanged_0 rfl ?_
  refine vv_iload_n hx dX3_isUnchanged_1 rfl ?_
  refine vv_iload_n hx dX3_isUnchanged_2 rfl ?_
  refine vv_callVN (As := [.int (nI (k)), .int (q)]) hx dX3_isUnchanged_3 km_X3_124 kq_X1_fits ki_X1_fits ks_X1_fits kl_1 hsK (c_X1_fits hst q hk) rfl rfl (Nat.le_of_ble_eq_true rfl) (by decide) (by decide) rfl rfl (vv_cd ?_)
  refine vv_if_eqB (tgt := 31) hx dX3_isUnchanged_6 (by decide) (fun c_6 => ?_) (fun c_6 => ?_)
  · refine vv_iconst (v := nI 0) hx dX3_isUnchanged_31 (by decide) ?_
    exact vv_zret hx he dX3_isUnchanged_32 (by first | exact bI_01 _ | exact Or.inl rfl | exact Or.inr rfl) ⟨_, rfl, bI_f (by first | (simp only [c_6, Bool.false_and]; done) | (simp only [c_6, Bool.true_and]; first | exact decide_eq_true c_24 | exact decide_eq_false c_24)), rfl⟩
  · refine vv_aload_n hx dX3_isUnchanged_9 rfl ?_
    refine vv_getrN (b := sc) 1 hx dX3_isUnchanged_10 kf_X3_121 kl_1 (by decide) rfl hsK hsP1 ?_
    refine vv_iload_n hx dX3_isUnchanged_13 rfl ?_
    refine cc_iald (e0 := nI (ch (k))) (n := 16) hx dX3_isUnchanged_14 hsKc hsLc (by omega) (by decide) (hsC (k) (by omega)) ?_
    refine vv_aload_n hx dX3_isUnchanged_15 rfl ?_
    refine vv_getr (b := nw) 0 hx dX3_isUnchanged_16 kf_X3_10 kl_3 (by decide) rfl hoK hoP0 ?_
    refine vv_getrN (b := mc) 1 hx dX3_isUnchanged_19 kf_X3_121 kl_1 (by decide) rfl hmK hmP1 ?_
    refine vv_iload_n hx dX3_isUnchanged_22 rfl ?_
    refine cc_iald (e0 := nI (ch1 (k))) (n := 16) hx dX3_isUnchanged_23 hmKc hmLc (by omega) (by decide) (hmC (k) (by omega)) ?_
    refine vv_icmp_neN (tgt := 31) hx dX3_isUnchanged_24 (by decide) (by omega) (by omega) (fun c_24 => ?_) (fun c_24 => ?_)
    · refine vv_iconst (v := nI 0) hx dX3_isUnchanged_31 (by decide) ?_
      exact vv_zret hx he dX3_isUnchanged_32 (by first | exact bI_01 _ | exact Or.inl rfl | exact Or.inr rfl) ⟨_, rfl, bI_f (by first | (simp only [c_6, Bool.false_and]; done) | (simp only [c_6, Bool.true_and]; first | exact decide_eq_true c_24 | exact decide_eq_false c_24)), rfl⟩
    · refine vv_iconst (v := nI 1) hx dX3_isUnchanged_27 (by decide) ?_
      refine vv_goto (tgt := 32) hx dX3_isUnchanged_28 (by decide) ?_
      exact vv_zret hx he dX3_isUnchanged_32 (by first | exact bI_01 _ | exact Or.inl rfl | exact Or.inr rfl) ⟨_, rfl, bI_t (by first | (simp only [c_6, Bool.false_and]; done) | (simp only [c_6, Bool.true_and]; first | exact decide_eq_true c_24 | exact decide_eq_false c_24)), rfl⟩
set_option maxRecDepth 100000 in
set_option maxHeartbeats 4000000 in
theorem l_X3_countUnchanged {S : mm_H} {o nw a n n1 : Nat} {ch wd ch1 wd1 : Nat → Nat} (hoK : mm_K S o = 4) (hoP0 : mm_P S o 0 = some nw) (hnw : stA S nw n1 ch1 wd1) (hst : stA S a n ch wd) {x : vv_X} {q : Int32} (hx : vv_C x cX3_countUnchanged RX3 3 66 5) (he : vv_E x (some .int) (fun zz S' => ∃ r0 : Int32, zz = some (.int r0) ∧ (fun z S' => z = nI (cntN (fun k => fitB wd q k && decide (ch k = ch1 k)) 16) ∧ S' = S) r0 S')) : ∀ d k, k + d = 16 → vv_V x 0 0 5 [(0, .ref o), (1, .ref a), (2, .int (q)), (3, .int (nI (cntN (fun k => fitB wd q k && decide (ch k = ch1 k)) k))), (4, .int (nI (k)))] [] S := by
  intro d
  induction d with
  | zero =>
    intro k hd
    have hcn := cntN_le (fun k => fitB wd q k && decide (ch k = ch1 k)) k
    refine vv_iload hx dX3_countUnchanged_5 rfl ?_
    refine vv_bipush (v := nI 16) hx dX3_countUnchanged_7 (by decide) ?_
    refine vv_icmp_geN (tgt := 32) hx dX3_countUnchanged_9 (by decide) (by omega) (by omega) (fun c_9 => ?_) (fun c_9 => ?_)
    · refine vv_iload_n hx dX3_countUnchanged_32 rfl ?_
      exact vv_iret hx he dX3_countUnchanged_33 ⟨_, rfl, by rw [show k = 16 by omega], rfl⟩
    · exfalso; omega
  | succ d ih =>
    intro k hd
    have hcn := cntN_le (fun k => fitB wd q k && decide (ch k = ch1 k)) k
    refine vv_iload hx dX3_countUnchanged_5 rfl ?_
    refine vv_bipush (v := nI 16) hx dX3_countUnchanged_7 (by decide) ?_
    refine vv_icmp_geN (tgt := 32) hx dX3_countUnchanged_9 (by decide) (by omega) (by omega) (fun c_9 => ?_) (fun c_9 => ?_)
    · exfalso; omega
    · refine vv_aload_n hx dX3_countUnchanged_12 rfl ?_
      refine vv_aload_n hx dX3_countUnchanged_13 rfl ?_
      refine vv_iload hx dX3_countUnchanged_14 rfl ?_
      refine vv_iload_n hx dX3_countUnchanged_16 rfl ?_
      refine vv_callV (As := [.ref a, .int (nI (k)), .int (q)]) hx dX3_countUnchanged_17 km_X3_87 kq_X3_isUnchanged ki_X3_isUnchanged ks_X3_isUnchanged kl_3 hoK (c_X3_isUnchanged hoK hoP0 hnw hst q (by omega)) rfl rfl (Nat.le_of_ble_eq_true rfl) (by decide) (by decide) rfl rfl (vv_cd ?_)
      refine vv_if_eqB (tgt := 26) hx dX3_countUnchanged_20 (by decide) (fun c_20 => ?_) (fun c_20 => ?_)
      · refine vv_iinc (u := (nI (k + 1))) (lv' := [(0, .ref o), (1, .ref a), (2, .int (q)), (3, .int (nI (cntN (fun k => fitB wd q k && decide (ch k = ch1 k)) k))), (4, .int (nI (k + 1)))]) hx dX3_countUnchanged_26 rfl (nI_1 _) (by decide) rfl rfl ?_
        refine vv_goto (tgt := 5) hx dX3_countUnchanged_29 (by decide) ?_
        have h9 := ih (k + 1) (by omega)
        rw [cntN_f0 (f := (fun k => fitB wd q k && decide (ch k = ch1 k))) (n := k) (by exact c_20)] at h9
        exact vv_sub [0, 1, 2, 3, 4] rfl h9
      · refine vv_iinc (u := (nI (cntN (fun k => fitB wd q k && decide (ch k = ch1 k)) k + 1))) (lv' := [(0, .ref o), (1, .ref a), (2, .int (q)), (3, .int (nI (cntN (fun k => fitB wd q k && decide (ch k = ch1 k)) k + 1))), (4, .int (nI (k)))]) hx dX3_countUnchanged_23 rfl (nI_1 _) (by decide) rfl rfl ?_
        refine vv_iinc (u := (nI (k + 1))) (lv' := [(0, .ref o), (1, .ref a), (2, .int (q)), (3, .int (nI (cntN (fun k => fitB wd q k && decide (ch k = ch1 k)) k + 1))), (4, .int (nI (k + 1)))]) hx dX3_countUnchanged_26 rfl (nI_1 _) (by decide) rfl rfl ?_
        refine vv_goto (tgt := 5) hx dX3_countUnchanged_29 (by decide) ?_
        have h9 := ih (k + 1) (by omega)
        rw [cntN_t (f := (fun k => fitB wd q k && decide (ch k = ch1 k))) (n := k) (by exact c_20)] at h9
        exact vv_sub [0, 1, 2, 3, 4] rfl h9
set_option maxRecDepth 100000 in
set_option maxHeartbeats 4000000 in
theorem c_X3_countUnchanged {S : mm_H} {o nw a n n1 : Nat} {ch wd ch1 wd1 : Nat → Nat} (hoK : mm_K S o = 4) (hoP0 : mm_P S o 0 = some nw) (hnw : stA S nw n1 ch1 wd1) (hst : stA S a n ch wd) (q : Int32) : MI yX3_countUnchanged cX3_countUnchanged 5 3 66 0 0 [.ref o, .ref a, .int (q)] S (fun z S' => z = nI (cntN (fun k => fitB wd q k && decide (ch k = ch1 k)) 16) ∧ S' = S) := by
  refine MA.of (by decide) (Nat.le_of_ble_eq_true rfl) ?_
  intro x hx he hini
  have hx : vv_C x cX3_countUnchanged RX3 3 66 5 := hx
  show vv_V x 0 0 0 [(0, .ref o), (1, .ref a), (2, .int (q))] [] S
  refine vv_iconst (v := nI 0) hx dX3_countUnchanged_0 (by decide) ?_
  refine vv_istore_n (lv' := [(0, .ref o), (1, .ref a), (2, .int (q)), (3, .int (nI (0)))]) hx dX3_countUnchanged_1 (by decide) rfl rfl ?_
  refine vv_iconst (v := nI 0) hx dX3_countUnchanged_2 (by decide) ?_
  refine vv_istore (lv' := [(0, .ref o), (1, .ref a), (2, .int (q)), (3, .int (nI (0))), (4, .int (nI (0)))]) hx dX3_countUnchanged_3 (by decide) rfl rfl ?_
  exact l_X3_countUnchanged hoK hoP0 hnw hst hx he 16 0 rfl
set_option maxRecDepth 100000 in
set_option maxHeartbeats 4000000 in
theorem l_X3_drop {X : xx_X} {W : Nat → Nat → Nat} {o nw sf vs cn j c1 c2 : Nat} {va ga : Nat → Nat} {q : Int32} {x : vv_X} (hx : vv_C x cX3_drop RX3 4 90 7) (hj : j < X.1 10) (hh : heldN X j = true) (hja : X.2.1 11 j ≤ X.1 0) (hwX : X.2.1 2 0 = 0) (hroom : X.1 0 + cntN (stillB X j q) 16 ≤ 600) (cont : ∀ S, Rel S (dropX X j q 16) W o nw sf vs cn va ga → vv_V x 0 0 104 [(0, .ref o), (1, .int (nI (j))), (2, .int (q)), (3, .ref (va j)), (4, .int (nI (c1))), (5, .int (nI (c2)))] [] S) : ∀ d k S, Rel S (dropX X j q k) W o nw sf vs cn va ga → k + d = 16 → vv_V x 0 0 66 [(0, .ref o), (1, .int (nI (j))), (2, .int (q)), (3, .ref (va j)), (4, .int (nI (c1))), (5, .int (nI (c2))), (6, .int (nI (k)))] [] S := by
  intro d
  induction d with
  | zero =>
    intro k S hL hd
    have ek : k = 16 := by omega
    subst ek
    refine vv_iload hx dX3_drop_66 rfl ?_
    refine vv_bipush (v := nI 16) hx dX3_drop_68 (by decide) ?_
    refine vv_icmp_geN (tgt := 104) hx dX3_drop_70 (by decide) (by omega) (by omega) (fun c_70 => ?_) (fun c_70 => ?_)
    · exact vv_sub [0, 1, 2, 3, 4, 5] rfl (cont S hL)
    · exfalso; omega
  | succ d ih =>
    intro k S hL hd
    obtain ⟨g1, g2, g3, g4, g5⟩ := dropX_fr X j q k
    have hcm := cnt_mono (f := stillB X j q) (show k + 1 ≤ 16 by omega)
    have hpc := drop_pic X j q k k (Nat.le_refl _)
    have hp0 := drop_pic0 X j q k (X.2.1 11 j) hja
    have hstep : dropX X j q (k + 1) = bif stillB X j q k then addX (dropX X j q k) k 0 else dropX X j q k := rfl
    generalize dropX X j q k = Y at hL g1 g2 g3 g4 g5 hpc hp0 hstep
    have h11 : Y.2.1 11 = X.2.1 11 := g3 11 (by decide) (by decide)
    have hhY : heldN Y = heldN X := heldN_of (g2 15 (by decide)) (g2 16 (by decide)) (g3 14 (by decide) (by decide))
    obtain ⟨⟨hoK, hoP0, hoP1, hoP2, hoI3, hoP4, hoP5, hoI6, hoI7, hoI8, hoI9, hoI10, hoI11⟩, hns, hnw, hsf, hvK, hvL, hvs, hview, hsegs, hUQ, hXI⟩ := id hL
    obtain ⟨hk, hbd, hw0, hc9, hm3, hcs, hheld⟩ := id hXI
    obtain ⟨k0, k1, k2, k3, k4, k5, k6, k7, k8, k9, k10, k11, k12, k13⟩ := id hk
    have hjY : j < Y.1 10 := by rw [g2 10 (by decide)]; exact hj
    obtain ⟨hvVK, hvV0, hvV3, ust, upr, hvP1, hvP2, hvn, hvf, hust, hprK, hprL, hprE⟩ := hview j hjY (by rw [hhY]; exact hh)
    rw [h11, hp0.1, hp0.2] at hust
    obtain ⟨hmK, hmI, mc, mw, hmP1, hmP2, hmKc, hmLc, hmKw, hmLw, hmC, hmW, hmn, hmch, hmwd⟩ := id hnw
    have huc : (fitB (picW X (X.2.1 11 j)) q k && decide (picC X (X.2.1 11 j) k = picC Y (Y.1 0) k)) = stillB X j q k := by rw [hpc, still_fit hwX]
    refine vv_iload hx dX3_drop_66 rfl ?_
    refine vv_bipush (v := nI 16) hx dX3_drop_68 (by decide) ?_
    refine vv_icmp_geN (tgt := 104) hx dX3_drop_70 (by decide) (by omega) (by omega) (fun c_70 => ?_) (fun c_70 => ?_)
    · exfalso; omega
    · refine vv_aload_n hx dX3_drop_73 rfl ?_
      refine vv_aload_n hx dX3_drop_74 rfl ?_
      refine vv_getrN (b := ust) 1 hx dX3_drop_75 kf_X3_74 kl_2 (by decide) rfl hvVK hvP1 ?_
      refine vv_iload hx dX3_drop_78 rfl ?_
      refine vv_iload_n hx dX3_drop_80 rfl ?_
      refine vv_callV (As := [.ref ust, .int (nI (k)), .int (q)]) hx dX3_drop_81 km_X3_87 kq_X3_isUnchanged ki_X3_isUnchanged ks_X3_isUnchanged kl_3 hoK ((by have h9 := c_X3_isUnchanged hoK hoP0 hnw hust q (k := k) (by omega); rw [huc] at h9; exact h9)) rfl rfl (Nat.le_of_ble_eq_true rfl) (by decide) (by decide) rfl rfl (vv_cd ?_)
      refine vv_if_eqB (tgt := 98) hx dX3_drop_84 (by decide) (fun c_84 => ?_) (fun c_84 => ?_)
      · refine vv_iinc (u := (nI (k + 1))) (lv' := [(0, .ref o), (1, .int (nI (j))), (2, .int (q)), (3, .ref (va j)), (4, .int (nI (c1))), (5, .int (nI (c2))), (6, .int (nI (k + 1)))]) hx dX3_drop_98 rfl (nI_1 _) (by decide) rfl rfl ?_
        refine vv_goto (tgt := 66) hx dX3_drop_101 (by decide) ?_
        refine ih (k + 1) S ?_ (by omega)
        rw [hstep, c_84]
        exact hL
      · refine vv_aload_n hx dX3_drop_87 rfl ?_
        refine vv_getr (b := nw) 0 hx dX3_drop_88 kf_X3_10 kl_3 (by decide) rfl hoK hoP0 ?_
        refine vv_iload hx dX3_drop_91 rfl ?_
        refine vv_iconst (v := nI 0) hx dX3_drop_93 (by decide) ?_
        rw [cntN_t c_84] at hcm
        refine vv_callVN (As := [.int (nI (k)), .int (nI (0))]) hx dX3_drop_94 km_X3_91 kq_X1_change ki_X1_change ks_X1_change kl_1 hmK (c_X1_change hmK hmI hmP1 hmP2 hmKc hmLc hmKw hmLw (by omega)) rfl rfl (Nat.le_of_ble_eq_true rfl) (by decide) (by decide) rfl rfl (vv_cd ?_)
        refine vv_pop hx dX3_drop_97 rfl ?_
        refine vv_iinc (u := (nI (k + 1))) (lv' := [(0, .ref o), (1, .int (nI (j))), (2, .int (q)), (3, .ref (va j)), (4, .int (nI (c1))), (5, .int (nI (c2))), (6, .int (nI (k + 1)))]) hx dX3_drop_98 rfl (nI_1 _) (by decide) rfl rfl ?_
        refine vv_goto (tgt := 66) hx dX3_drop_101 (by decide) ?_
        have hch := hL.chg hmP1 hmP2 (k := k) (wd := 0) (by omega) (by omega) (by omega)
        refine ih (k + 1) _ ?_ (by omega)
        rw [hstep, c_84]
        exact hch
set_option maxRecDepth 100000 in
set_option maxHeartbeats 4000000 in
theorem c_X3_drop {S : mm_H} {X : xx_X} {W : Nat → Nat → Nat} {o nw sf vs cn : Nat} {va ga : Nat → Nat} (hL : Rel S X W o nw sf vs cn va ga) (v q : Int32) : MI yX3_drop cX3_drop 7 4 90 0 0 [.ref o, .int (v), .int (q)] S (fun z S' => z = (sp_drop X v q).1 ∧ Rel S' (sp_drop X v q).2 W o nw sf vs cn va ga) := by
  refine MA.of (by decide) (Nat.le_of_ble_eq_true rfl) ?_
  intro x hx he hini
  have hx : vv_C x cX3_drop RX3 4 90 7 := hx
  show vv_V x 0 0 0 [(0, .ref o), (1, .int (v)), (2, .int (q))] [] S
  obtain ⟨⟨hoK, hoP0, hoP1, hoP2, hoI3, hoP4, hoP5, hoI6, hoI7, hoI8, hoI9, hoI10, hoI11⟩, hns, hnw, hsf, hvK, hvL, hvs, hview, hsegs, hUQ, hXI⟩ := id hL
  obtain ⟨hk, hbd, hw0, hc9, hm3, hcs, hheld⟩ := id hXI
  obtain ⟨k0, k1, k2, k3, k4, k5, k6, k7, k8, k9, k10, k11, k12, k13⟩ := id hk
  obtain ⟨hmK, hmI, mc, mw, hmP1, hmP2, hmKc, hmLc, hmKw, hmLw, hmC, hmW, hmn, hmch, hmwd⟩ := id hnw
  refine vv_aload_n hx dX3_drop_0 rfl ?_
  refine vv_iload_n hx dX3_drop_1 rfl ?_
  refine vv_callV (As := [.int (v)]) hx dX3_drop_2 km_X3_67 kq_X3_heldView ki_X3_heldView ks_X3_heldView kl_3 hoK (c_X3_heldView hL _) rfl rfl (Nat.le_of_ble_eq_true rfl) (by decide) (by decide) rfl rfl (vv_cdr ?_)
  cases hB : heldB X v with
  | false =>
    show vv_V x 0 0 _ _ (.null :: _) S
    refine vv_astore_nN (lv' := [(0, .ref o), (1, .int (v)), (2, .int (q)), (3, .null)]) hx dX3_drop_5 (by decide) rfl rfl ?_
    refine vv_aload_nN hx dX3_drop_6 rfl ?_
    refine vv_ifnonnullN hx dX3_drop_7 ?_
    refine vv_bipush (v := -2) hx dX3_drop_10 (by decide) ?_
    exact vv_iret hx he dX3_drop_12 ⟨_, rfl, by rw [show sp_drop X v q = (-2, X) from by simp [sp_drop, hB]]; exact ⟨rfl, hL⟩⟩
  | true =>
    obtain ⟨j, hj, rfl, hh⟩ := heldB_true hB k1 k2
    have hjc : (nI j).toNatClampNeg = j := nI_clamp (by omega)
    obtain ⟨hvVK, hvV0, hvV3, ust, upr, hvP1, hvP2, hvn, hvf, hust, hprK, hprL, hprE⟩ := hview j hj hh
    obtain ⟨huK, huI, uc, uw, huP1, huP2, huKc, huLc, huKw, huLw, huC, huW, hun, huch, huwd⟩ := id hust
    show vv_V x 0 0 _ _ (.ref (va (nI j).toNatClampNeg) :: _) S
    rw [hjc]
    refine vv_astore_n (lv' := [(0, .ref o), (1, .int (nI (j))), (2, .int (q)), (3, .ref (va j))]) hx dX3_drop_5 (by decide) rfl rfl ?_
    refine vv_aload_n hx dX3_drop_6 rfl ?_
    refine vv_ifnonnull (tgt := 13) hx dX3_drop_7 (by decide) ?_
    refine vv_iload_n hx dX3_drop_13 rfl ?_
    refine vv_callS (As := [.int (q)]) hx dX3_drop_14 km_X3_71 kq_X3_isQuery kt_X3_isQuery (c_X3_isQuery S _) rfl rfl (Nat.le_of_ble_eq_true rfl) (by decide) (by decide) rfl rfl (vv_cd ?_)
    refine vv_if_neB (tgt := 23) hx dX3_drop_17 (by decide) (fun c_17 => ?_) (fun c_17 => ?_)
    · refine vv_aload_n hx dX3_drop_23 rfl ?_
      refine vv_getrN (b := ust) 1 hx dX3_drop_24 kf_X3_74 kl_2 (by decide) rfl hvVK hvP1 ?_
      refine vv_iload_n hx dX3_drop_27 rfl ?_
      refine vv_callS (As := [.ref ust, .int (q)]) hx dX3_drop_28 km_X3_77 kq_X3_countFitting kt_X3_countFitting (c_X3_countFitting hust q) rfl rfl (Nat.le_of_ble_eq_true rfl) (by decide) (by decide) rfl rfl (vv_cd ?_)
      have hc1 := cntN_le (fitB (picW X (X.2.1 11 j)) q) 16
      have hc2 := cntN_le (stillB X j q) 16
      have hsu : cntN (fitB (picW X (X.2.1 11 j)) q) 16 = cntN (stillB X j q) 16 + cntN (fun k => hasB X j k q && !(stillB X j q k)) 16 := by
        have h9 := cnt_sub (fitB (picW X (X.2.1 11 j)) q) (fun k => decide (picC X (X.2.1 11 j) k = picC X (X.1 0) k)) 16
        rw [h9]
        congr 1
        · exact cntN_congr (fun k _ => (still_fit hw0 j q k).symm)
        · exact cntN_congr (fun k _ => by rw [still_fit hw0 j q k, hasB_fit hw0])
      have hms : cntN (fun k => hasB X j k q && !(stillB X j q k)) 16 = cntN (fitB (picW X (X.2.1 11 j)) q) 16 - cntN (stillB X j q) 16 := by omega
      refine vv_istore (lv' := [(0, .ref o), (1, .int (nI (j))), (2, .int (q)), (3, .ref (va j)), (4, .int (nI (cntN (fitB (picW X (X.2.1 11 j)) q) 16)))]) hx dX3_drop_31 (by decide) rfl rfl ?_
      refine vv_aload_n hx dX3_drop_33 rfl ?_
      refine vv_aload_n hx dX3_drop_34 rfl ?_
      refine vv_getrN (b := ust) 1 hx dX3_drop_35 kf_X3_74 kl_2 (by decide) rfl hvVK hvP1 ?_
      refine vv_iload_n hx dX3_drop_38 rfl ?_
      refine vv_callV (As := [.ref ust, .int (q)]) hx dX3_drop_39 km_X3_81 kq_X3_countUnchanged ki_X3_countUnchanged ks_X3_countUnchanged kl_3 hoK ((by have h9 := c_X3_countUnchanged hoK hoP0 hnw hust q; rw [show cntN (fun k => fitB (picW X (X.2.1 11 j)) q k && decide (picC X (X.2.1 11 j) k = picC X (X.1 0) k)) 16 = cntN (stillB X j q) 16 from cntN_congr (fun k _ => (still_fit hw0 j q k).symm)] at h9; exact h9)) rfl rfl (Nat.le_of_ble_eq_true rfl) (by decide) (by decide) rfl rfl (vv_cd ?_)
      refine vv_istore (lv' := [(0, .ref o), (1, .int (nI (j))), (2, .int (q)), (3, .ref (va j)), (4, .int (nI (cntN (fitB (picW X (X.2.1 11 j)) q) 16))), (5, .int (nI (cntN (stillB X j q) 16)))]) hx dX3_drop_42 (by decide) rfl rfl ?_
      refine vv_aload_n hx dX3_drop_44 rfl ?_
      refine vv_getr (b := nw) 0 hx dX3_drop_45 kf_X3_10 kl_3 (by decide) rfl hoK hoP0 ?_
      refine cc_getiN (e0 := nI (X.1 0)) 0 hx dX3_drop_48 kf_X3_84 kl_1 (by decide) rfl hmK hmI ?_
      refine vv_iload hx dX3_drop_51 rfl ?_
      refine vv_iaddN hx dX3_drop_53 ?_
      refine vv_sipush (v := nI 600) hx dX3_drop_54 (by decide) ?_
      refine vv_icmp_leN (tgt := 63) hx dX3_drop_57 (by decide) (by omega) (by omega) (fun c_57 => ?_) (fun c_57 => ?_)
      · refine vv_iconst (v := nI 0) hx dX3_drop_63 (by decide) ?_
        refine vv_istore (lv' := [(0, .ref o), (1, .int (nI (j))), (2, .int (q)), (3, .ref (va j)), (4, .int (nI (cntN (fitB (picW X (X.2.1 11 j)) q) 16))), (5, .int (nI (cntN (stillB X j q) 16))), (6, .int (nI (0)))]) hx dX3_drop_64 (by decide) rfl rfl ?_
        refine vv_sub [0, 1, 2, 3, 4, 5, 6] rfl (l_X3_drop hx hj hh (hheld j hj hh).1 hw0 (by omega) (fun S hL => ?_) 16 0 S hL rfl)
        have hoK := hL.1.1
        refine vv_aload_n hx dX3_drop_104 rfl ?_
        refine vv_iload hx dX3_drop_105 rfl ?_
        refine vv_iload hx dX3_drop_107 rfl ?_
        refine vv_isubN hx dX3_drop_109 (by omega) ?_
        refine vv_puti 8 hx dX3_drop_110 kf_X3_35 kl_3 (by decide) rfl rfl rfl hoK ?_
        refine vv_iload hx dX3_drop_113 rfl ?_
        exact vv_iret hx he dX3_drop_115 ⟨_, rfl, by rw [show sp_drop X (nI j) q = (nI (cntN (stillB X j q) 16), xI (dropX X j q 16) 3 (cntN (fitB (picW X (X.2.1 11 j)) q) 16 - cntN (stillB X j q) 16)) from by simp [sp_drop, hB, c_17, hjc, show X.1 0 + cntN (stillB X j q) 16 ≤ 600 from by omega, hms]]; exact ⟨rfl, hL.obj rfl (fun g hg => xI_o hg) (hL.2.2.2.2.2.2.2.2.2.2.ofc rfl (fun g hg => xI_o hg) (by rw [xI_s]; omega)) (hL.1.setM _)⟩⟩
      · refine vv_bipush (v := -5) hx dX3_drop_60 (by decide) ?_
        exact vv_iret hx he dX3_drop_62 ⟨_, rfl, by rw [show sp_drop X (nI j) q = (-5, X) from by simp [sp_drop, hB, c_17, hjc, show ¬ (X.1 0 + cntN (stillB X j q) 16 ≤ 600) from by omega]]; exact ⟨rfl, hL⟩⟩
    · refine vv_bipush (v := -3) hx dX3_drop_20 (by decide) ?_
      exact vv_iret hx he dX3_drop_22 ⟨_, rfl, by rw [show sp_drop X (nI j) q = (-3, X) from by simp [sp_drop, hB, c_17]]; exact ⟨rfl, hL⟩⟩
set_option maxRecDepth 100000 in
set_option maxHeartbeats 4000000 in
theorem c_X3_sync {S : mm_H} {X : xx_X} {W : Nat → Nat → Nat} {o nw sf vs cn : Nat} {va ga : Nat → Nat} (hL : Rel S X W o nw sf vs cn va ga) : MI yX3_sync cX3_sync 2 2 61 0 0 [.ref o] S (fun z S' => z = (sp_sync X).1 ∧ Rel S' (sp_sync X).2 W o nw sf vs cn va ga) := by
  refine MA.of (by decide) (Nat.le_of_ble_eq_true rfl) ?_
  intro x hx he hini
  have hx : vv_C x cX3_sync RX3 2 61 2 := hx
  show vv_V x 0 0 0 [(0, .ref o)] [] S
  obtain ⟨⟨hoK, hoP0, hoP1, hoP2, hoI3, hoP4, hoP5, hoI6, hoI7, hoI8, hoI9, hoI10, hoI11⟩, hns, hnw, hsf, hvK, hvL, hvs, hview, hsegs, hUQ, hXI⟩ := id hL
  obtain ⟨hk, hbd, hw0, hc9, hm3, hcs, hheld⟩ := id hXI
  obtain ⟨k0, k1, k2, k3, k4, k5, k6, k7, k8, k9, k10, k11, k12, k13⟩ := id hk
  obtain ⟨hmK, hmI, mc, mw, hmP1, hmP2, hmKc, hmLc, hmKw, hmLw, hmC, hmW, hmn, hmch, hmwd⟩ := id hnw
  obtain ⟨hfK, hfI, fc, fw, hfP1, hfP2, hfKc, hfLc, hfKw, hfLw, hfC, hfW, hfn, hfch, hfwd⟩ := id hsf
  have hcp := stA.cp hUQ hnw (Ne.symm hns) hfK hfP1 hfP2 hmP1 hmP2 hfKc hfLc hfKw hfLw rfl rfl
  have hfin := hL.stF (X' := xI X 17 (X.1 0)) (Or.inr rfl) hfK hfP1 hfP2 hfKc hfKw hcp.2.1 hcp.2.2.1 hcp.2.2.2 (by
    rw [xI_o (by decide)]
    refine hnw.fr hcp.2.1 (fun q => ?_) (fun i c hc h6 q => ?_)
    · rcases q with (q | q) | q
      · exact hns q
      · rw [q] at hmK; omega
      · rw [q] at hmK; omega
    · rcases q with (q | q) | q
      · rw [q] at h6; omega
      · exact hns (hUQ.1 nw sf i 1 c (Or.inr hmK) (Or.inr hfK) hc (by rw [hfP1, q]) h6).1
      · exact hns (hUQ.1 nw sf i 2 c (Or.inr hmK) (Or.inr hfK) hc (by rw [hfP2, q]) h6).1) (by rw [xI_s]; exact hcp.1) (fun f h0 h17 => xI_o h17) rfl hXI.safe
  refine vv_aload_n hx dX3_sync_0 rfl ?_
  refine vv_getr (b := nw) 0 hx dX3_sync_1 kf_X3_10 kl_3 (by decide) rfl hoK hoP0 ?_
  refine cc_getiN (e0 := nI (X.1 0)) 0 hx dX3_sync_4 kf_X3_84 kl_1 (by decide) rfl hmK hmI ?_
  refine vv_aload_n hx dX3_sync_7 rfl ?_
  refine vv_getr (b := sf) 1 hx dX3_sync_8 kf_X3_16 kl_3 (by decide) rfl hoK hoP1 ?_
  refine cc_getiN (e0 := nI (X.1 17)) 0 hx dX3_sync_11 kf_X3_84 kl_1 (by decide) rfl hfK hfI ?_
  refine vv_isubN hx dX3_sync_14 (by omega) ?_
  refine vv_istore_n (lv' := [(0, .ref o), (1, .int (nI ((X.1 0) - (X.1 17))))]) hx dX3_sync_15 (by decide) rfl rfl ?_
  refine vv_aload_n hx dX3_sync_16 rfl ?_
  refine vv_getr (b := sf) 1 hx dX3_sync_17 kf_X3_16 kl_3 (by decide) rfl hoK hoP1 ?_
  refine vv_aload_n hx dX3_sync_20 rfl ?_
  refine vv_getr (b := nw) 0 hx dX3_sync_21 kf_X3_10 kl_3 (by decide) rfl hoK hoP0 ?_
  refine vv_callVN (As := [.ref nw]) hx dX3_sync_24 km_X3_107 kq_X1_copyFrom ki_X1_copyFrom ks_X1_copyFrom kl_1 hfK (c_X1_copyFrom hfK hmK hmI hfP1 hfP2 hmP1 hmP2 hfKc hfLc hfKw hfLw hmKc hmLc hmKw hmLw) rfl rfl (Nat.le_of_ble_eq_true rfl) (by decide) (by decide) rfl rfl (vv_cdv ?_)
  refine vv_iload_n hx dX3_sync_27 rfl ?_
  exact vv_iret hx he dX3_sync_28 ⟨_, rfl, rfl, hfin⟩
