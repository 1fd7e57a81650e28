set_option maxRecDepth 100000 in
set_option maxHeartbeats 4000000 in
theorem c_X3_change {S : mm_H} {X : xx_X} {W : Nat → Nat → Nat} {o nw sf vs cn : Nat} {va ga : Nat → Nat} (hL : Rel S X W o nw sf vs cn va ga) {k w : Nat} (e : Int32) (hkk : k < 16) (hw : w ≤ 255) : MI yX3_change cX3_change 5 2 42 0 0 [.ref o, .int (nI (k)), .int (nI (w)), .int (e)] S (fun z S' => z = (sp_told3 X k w e).1 ∧ Rel S' (sp_told3 X k w e).2 W o nw sf vs cn va ga) := by
  refine MA.of (by decide) (Nat.le_of_ble_eq_true rfl) ?_
  intro x hx he hini
  have hx : vv_C x cX3_change RX3 2 42 5 := hx
  show vv_V x 0 0 0 [(0, .ref o), (1, .int (nI (k))), (2, .int (nI (w))), (3, .int (e))] [] S
  obtain ⟨⟨hoK, hoP0, hoP1, hoP2, hoI3, hoP4, hoP5, hoI6, hoI7, hoI8, hoI9, hoI10, hoI11⟩, hns, hnw, hsf, hvK, hvL, hvs, hview, hsegs, hUQ, hXI⟩ := id hL
  obtain ⟨hk, hbd, hw0, hc9, hm3, hcs, hheld⟩ := id hXI
  obtain ⟨k0, k1, k2, k3, k4, k5, k6, k7, k8, k9, k10, k11, k12, k13⟩ := id hk
  obtain ⟨hmK, hmI, mc, mw, hmP1, hmP2, hmKc, hmLc, hmKw, hmLw, hmC, hmW, hmn, hmch, hmwd⟩ := id hnw
  refine vv_aload_n hx dX3_change_0 rfl ?_
  refine vv_getr (b := nw) 0 hx dX3_change_1 kf_X3_10 kl_3 (by decide) rfl hoK hoP0 ?_
  refine vv_iload_n hx dX3_change_4 rfl ?_
  refine vv_callVN (As := [.int (nI (k))]) hx dX3_change_5 km_X3_158 kq_X1_writtenAs ki_X1_writtenAs ks_X1_writtenAs kl_1 hmK ((by have h9 := c_X1_writtenAs hnw (k := k) hkk; rw [← wr_wa hw0] at h9; exact h9)) rfl rfl (Nat.le_of_ble_eq_true rfl) (by decide) (by decide) rfl rfl (vv_cd ?_)
  have hwl := wr_le X k (X.1 0)
  refine vv_istore (lv' := [(0, .ref o), (1, .int (nI (k))), (2, .int (nI (w))), (3, .int (e)), (4, .int (nI (wr X k (X.1 0))))]) hx dX3_change_8 (by decide) rfl rfl ?_
  refine vv_iload_n hx dX3_change_10 rfl ?_
  refine vv_iconst (v := -1) hx dX3_change_11 (by decide) ?_
  refine vv_icmp_eq (tgt := 35) hx dX3_change_12 (by decide) (fun c_12 => ?_) (fun c_12 => ?_)
  · refine vv_aload_n hx dX3_change_35 rfl ?_
    refine vv_getr (b := nw) 0 hx dX3_change_36 kf_X3_10 kl_3 (by decide) rfl hoK hoP0 ?_
    refine cc_getiN (e0 := nI (X.1 0)) 0 hx dX3_change_39 kf_X3_84 kl_1 (by decide) rfl hmK hmI ?_
    refine vv_sipush (v := nI 600) hx dX3_change_42 (by decide) ?_
    refine vv_icmp_ltN (tgt := 51) hx dX3_change_45 (by decide) (by omega) (by omega) (fun c_45 => ?_) (fun c_45 => ?_)
    · refine vv_aload_n hx dX3_change_51 rfl ?_
      refine vv_getr (b := nw) 0 hx dX3_change_52 kf_X3_10 kl_3 (by decide) rfl hoK hoP0 ?_
      refine vv_iload_n hx dX3_change_55 rfl ?_
      refine vv_iload_n hx dX3_change_56 rfl ?_
      refine vv_callVN (As := [.int (nI (k)), .int (nI (w))]) hx dX3_change_57 km_X3_91 kq_X1_change ki_X1_change ks_X1_change kl_1 hmK (c_X1_change hmK hmI hmP1 hmP2 hmKc hmLc hmKw hmLw hkk) rfl rfl (Nat.le_of_ble_eq_true rfl) (by decide) (by decide) rfl rfl (vv_cd ?_)
      exact vv_iret hx he dX3_change_60 ⟨_, rfl, by rw [show sp_told3 X k w e = (nI (X.1 0 + 1), addX X k w) from by simp [sp_told3, addX, c_12, show ¬ X.1 0 = 600 by omega]]; exact ⟨rfl, hL.chg hmP1 hmP2 hkk hw c_45⟩⟩
    · refine vv_bipush (v := -5) hx dX3_change_48 (by decide) ?_
      exact vv_iret hx he dX3_change_50 ⟨_, rfl, by rw [show sp_told3 X k w e = (-5, X) from by simp [sp_told3, c_12, show X.1 0 = 600 by omega]]; exact ⟨rfl, hL⟩⟩
  · refine vv_iload_n hx dX3_change_15 rfl ?_
    refine vv_iload hx dX3_change_16 rfl ?_
    refine vv_icmp_eq (tgt := 35) hx dX3_change_18 (by decide) (fun c_18 => ?_) (fun c_18 => ?_)
    · refine vv_aload_n hx dX3_change_35 rfl ?_
      refine vv_getr (b := nw) 0 hx dX3_change_36 kf_X3_10 kl_3 (by decide) rfl hoK hoP0 ?_
      refine cc_getiN (e0 := nI (X.1 0)) 0 hx dX3_change_39 kf_X3_84 kl_1 (by decide) rfl hmK hmI ?_
      refine vv_sipush (v := nI 600) hx dX3_change_42 (by decide) ?_
      refine vv_icmp_ltN (tgt := 51) hx dX3_change_45 (by decide) (by omega) (by omega) (fun c_45 => ?_) (fun c_45 => ?_)
      · refine vv_aload_n hx dX3_change_51 rfl ?_
        refine vv_getr (b := nw) 0 hx dX3_change_52 kf_X3_10 kl_3 (by decide) rfl hoK hoP0 ?_
        refine vv_iload_n hx dX3_change_55 rfl ?_
        refine vv_iload_n hx dX3_change_56 rfl ?_
        refine vv_callVN (As := [.int (nI (k)), .int (nI (w))]) hx dX3_change_57 km_X3_91 kq_X1_change ki_X1_change ks_X1_change kl_1 hmK (c_X1_change hmK hmI hmP1 hmP2 hmKc hmLc hmKw hmLw hkk) rfl rfl (Nat.le_of_ble_eq_true rfl) (by decide) (by decide) rfl rfl (vv_cd ?_)
        exact vv_iret hx he dX3_change_60 ⟨_, rfl, by rw [show sp_told3 X k w e = (nI (X.1 0 + 1), addX X k w) from by simp [sp_told3, addX, c_12, c_18, show ¬ X.1 0 = 600 by omega]]; exact ⟨rfl, hL.chg hmP1 hmP2 hkk hw c_45⟩⟩
      · refine vv_bipush (v := -5) hx dX3_change_48 (by decide) ?_
        exact vv_iret hx he dX3_change_50 ⟨_, rfl, by rw [show sp_told3 X k w e = (-5, X) from by simp [sp_told3, c_12, c_18, show X.1 0 = 600 by omega]]; exact ⟨rfl, hL⟩⟩
    · refine vv_aload_n hx dX3_change_21 rfl ?_
      refine vv_iload_n hx dX3_change_22 rfl ?_
      refine vv_puti 9 hx dX3_change_23 kf_X3_38 kl_3 (by decide) rfl rfl rfl hoK ?_
      refine vv_aload_n hx dX3_change_26 rfl ?_
      refine vv_iload hx dX3_change_27 rfl ?_
      refine vv_puti 10 hx dX3_change_29 kf_X3_41 kl_3 (by decide) rfl rfl rfl hoK ?_
      have hL1 : Rel (mm_sI S o 9 e) (xE X e) W o nw sf vs cn va ga := hL.obj rfl (fun _ _ => rfl) (hXI.ofc rfl (fun _ _ => rfl) hm3) (hL.1.setE e)
      have hL2 : Rel (mm_sI (mm_sI S o 9 e) o 10 (nI (wr X k (X.1 0)))) (xW (xE X e) (nI (wr X k (X.1 0)))) W o nw sf vs cn va ga := hL1.obj rfl (fun _ _ => rfl) (hXI.ofc rfl (fun _ _ => rfl) hm3) (hL1.1.setW _)
      refine vv_bipush (v := -4) hx dX3_change_32 (by decide) ?_
      exact vv_iret hx he dX3_change_34 ⟨_, rfl, by rw [show sp_told3 X k w e = (-4, xW (xE X e) (nI (wr X k (X.1 0)))) from by simp [sp_told3, c_12, c_18]]; exact ⟨rfl, hL2⟩⟩
set_option maxRecDepth 100000 in
set_option maxHeartbeats 4000000 in
theorem c_X3_write {S : mm_H} {X : xx_X} {W : Nat → Nat → Nat} {o nw sf vs cn : Nat} {va ga : Nat → Nat} (hL : Rel S X W o nw sf vs cn va ga) (key words e : Int32) : MI yX3_write cX3_write 4 3 66 0 0 [.ref o, .int (key), .int (words), .int (e)] S (fun z S' => z = (sp_write X key words e).1 ∧ Rel S' (sp_write X key words e).2 W o nw sf vs cn va ga) := by
  refine MA.of (by decide) (Nat.le_of_ble_eq_true rfl) ?_
  intro x hx he hini
  have hx : vv_C x cX3_write RX3 3 66 4 := hx
  show vv_V x 0 0 0 [(0, .ref o), (1, .int (key)), (2, .int (words)), (3, .int (e))] [] S
  obtain ⟨⟨hoK, hoP0, hoP1, hoP2, hoI3, hoP4, hoP5, hoI6, hoI7, hoI8, hoI9, hoI10, hoI11⟩, hns, hnw, hsf, hvK, hvL, hvs, hview, hsegs, hUQ, hXI⟩ := id hL
  obtain ⟨hk, hbd, hw0, hc9, hm3, hcs, hheld⟩ := id hXI
  obtain ⟨k0, k1, k2, k3, k4, k5, k6, k7, k8, k9, k10, k11, k12, k13⟩ := id hk
  refine vv_iload_n hx dX3_write_0 rfl ?_
  refine vv_callS (As := [.int (key)]) hx dX3_write_1 km_X3_59 kq_X3_isKey kt_X3_isKey (c_X3_isKey S _) rfl rfl (Nat.le_of_ble_eq_true rfl) (by decide) (by decide) rfl rfl (vv_cd ?_)
  refine vv_if_eqB (tgt := 24) hx dX3_write_4 (by decide) (fun c_4 => ?_) (fun c_4 => ?_)
  · refine vv_bipush (v := -3) hx dX3_write_24 (by decide) ?_
    exact vv_iret hx he dX3_write_26 ⟨_, rfl, by rw [show sp_write X key words e = (-3, X) from by unfold sp_write; rw [if_neg (fun q => by rw [q.1] at c_4; cases c_4)]]; exact ⟨rfl, hL⟩⟩
  · refine vv_iload_n hx dX3_write_7 rfl ?_
    refine vv_iconst (v := nI 1) hx dX3_write_8 (by decide) ?_
    refine vv_icmp_lt (tgt := 24) hx dX3_write_9 (by decide) (fun c_9 => ?_) (fun c_9 => ?_)
    · refine vv_bipush (v := -3) hx dX3_write_24 (by decide) ?_
      exact vv_iret hx he dX3_write_26 ⟨_, rfl, by rw [show sp_write X key words e = (-3, X) from by unfold sp_write; rw [if_neg (fun q => absurd (of_decide_eq_true (Bool.and_eq_true_iff.mp q.2.1).1) (Int32.not_le.mpr c_9))]]; exact ⟨rfl, hL⟩⟩
    · refine vv_iload_n hx dX3_write_12 rfl ?_
      refine vv_sipush (v := nI 255) hx dX3_write_13 (by decide) ?_
      refine vv_icmp_gt (tgt := 24) hx dX3_write_16 (by decide) (fun c_16 => ?_) (fun c_16 => ?_)
      · refine vv_bipush (v := -3) hx dX3_write_24 (by decide) ?_
        exact vv_iret hx he dX3_write_26 ⟨_, rfl, by rw [show sp_write X key words e = (-3, X) from by unfold sp_write; rw [if_neg (fun q => absurd (of_decide_eq_true (Bool.and_eq_true_iff.mp q.2.1).2) (Int32.not_le.mpr c_16))]]; exact ⟨rfl, hL⟩⟩
      · refine vv_iload_n hx dX3_write_19 rfl ?_
        refine vv_iconst (v := -1) hx dX3_write_20 (by decide) ?_
        refine vv_icmp_ge (tgt := 27) hx dX3_write_21 (by decide) (fun c_21 => ?_) (fun c_21 => ?_)
        · obtain ⟨k, -, hk1, rfl⟩ := inb_nI c_4 (by decide) (by decide)
          have hin : inb words (nI 1) (nI 255) = true := by simp only [inb, Bool.and_eq_true, decide_eq_true_eq]; exact ⟨Int32.not_lt.mp c_9, Int32.not_lt.mp c_16⟩
          obtain ⟨w, -, hw1, rfl⟩ := inb_nI hin (by decide) (by decide)
          have hkc : (nI k).toNatClampNeg = k := nI_clamp (by omega)
          have hwc : (nI w).toNatClampNeg = w := nI_clamp (by omega)
          refine vv_aload_n hx dX3_write_27 rfl ?_
          refine vv_iload_n hx dX3_write_28 rfl ?_
          refine vv_iload_n hx dX3_write_29 rfl ?_
          refine vv_iload_n hx dX3_write_30 rfl ?_
          refine vv_callV (As := [.int (nI (k)), .int (nI (w)), .int (e)]) hx dX3_write_31 km_X3_63 kq_X3_change ki_X3_change ks_X3_change kl_3 hoK (c_X3_change hL e (by omega) (by omega)) rfl rfl (Nat.le_of_ble_eq_true rfl) (by decide) (by decide) rfl rfl (vv_ci fun z S hz => ?_)
          exact vv_iret hx he dX3_write_34 ⟨_, rfl, by rw [show sp_write X (nI k) (nI w) e = sp_told3 X k w e from by unfold sp_write; rw [if_pos ⟨c_4, hin, c_21⟩, hkc, hwc]]; exact hz⟩
        · refine vv_bipush (v := -3) hx dX3_write_24 (by decide) ?_
          exact vv_iret hx he dX3_write_26 ⟨_, rfl, by rw [show sp_write X key words e = (-3, X) from by unfold sp_write; rw [if_neg (fun q => c_21 q.2.2)]]; exact ⟨rfl, hL⟩⟩
set_option maxRecDepth 100000 in
set_option maxHeartbeats 4000000 in
theorem c_X3_remove {S : mm_H} {X : xx_X} {W : Nat → Nat → Nat} {o nw sf vs cn : Nat} {va ga : Nat → Nat} (hL : Rel S X W o nw sf vs cn va ga) (key e : Int32) : MI yX3_remove cX3_remove 3 3 66 0 0 [.ref o, .int (key), .int (e)] S (fun z S' => z = (sp_remove X key e).1 ∧ Rel S' (sp_remove X key e).2 W o nw sf vs cn va ga) := by
  refine MA.of (by decide) (Nat.le_of_ble_eq_true rfl) ?_
  intro x hx he hini
  have hx : vv_C x cX3_remove RX3 3 66 3 := hx
  show vv_V x 0 0 0 [(0, .ref o), (1, .int (key)), (2, .int (e))] [] S
  obtain ⟨⟨hoK, hoP0, hoP1, hoP2, hoI3, hoP4, hoP5, hoI6, hoI7, hoI8, hoI9, hoI10, hoI11⟩, hns, hnw, hsf, hvK, hvL, hvs, hview, hsegs, hUQ, hXI⟩ := id hL
  obtain ⟨hk, hbd, hw0, hc9, hm3, hcs, hheld⟩ := id hXI
  obtain ⟨k0, k1, k2, k3, k4, k5, k6, k7, k8, k9, k10, k11, k12, k13⟩ := id hk
  refine vv_iload_n hx dX3_remove_0 rfl ?_
  refine vv_callS (As := [.int (key)]) hx dX3_remove_1 km_X3_59 kq_X3_isKey kt_X3_isKey (c_X3_isKey S _) rfl rfl (Nat.le_of_ble_eq_true rfl) (by decide) (by decide) rfl rfl (vv_cd ?_)
  refine vv_if_eqB (tgt := 12) hx dX3_remove_4 (by decide) (fun c_4 => ?_) (fun c_4 => ?_)
  · refine vv_bipush (v := -3) hx dX3_remove_12 (by decide) ?_
    exact vv_iret hx he dX3_remove_14 ⟨_, rfl, by rw [show sp_remove X key e = (-3, X) from by unfold sp_remove; rw [if_neg (fun q => by rw [q.1] at c_4; cases c_4)]]; exact ⟨rfl, hL⟩⟩
  · refine vv_iload_n hx dX3_remove_7 rfl ?_
    refine vv_iconst (v := -1) hx dX3_remove_8 (by decide) ?_
    refine vv_icmp_ge (tgt := 15) hx dX3_remove_9 (by decide) (fun c_9 => ?_) (fun c_9 => ?_)
    · obtain ⟨k, -, hk1, rfl⟩ := inb_nI c_4 (by decide) (by decide)
      have hkc : (nI k).toNatClampNeg = k := nI_clamp (by omega)
      refine vv_aload_n hx dX3_remove_15 rfl ?_
      refine vv_iload_n hx dX3_remove_16 rfl ?_
      refine vv_iconst (v := nI 0) hx dX3_remove_17 (by decide) ?_
      refine vv_iload_n hx dX3_remove_18 rfl ?_
      refine vv_callV (As := [.int (nI (k)), .int (nI (0)), .int (e)]) hx dX3_remove_19 km_X3_63 kq_X3_change ki_X3_change ks_X3_change kl_3 hoK (c_X3_change hL e (by omega) (by omega)) rfl rfl (Nat.le_of_ble_eq_true rfl) (by decide) (by decide) rfl rfl (vv_ci fun z S hz => ?_)
      exact vv_iret hx he dX3_remove_22 ⟨_, rfl, by rw [show sp_remove X (nI k) e = sp_told3 X k 0 e from by unfold sp_remove; rw [if_pos ⟨c_4, c_9⟩, hkc]]; exact hz⟩
    · refine vv_bipush (v := -3) hx dX3_remove_12 (by decide) ?_
      exact vv_iret hx he dX3_remove_14 ⟨_, rfl, by rw [show sp_remove X key e = (-3, X) from by unfold sp_remove; rw [if_neg (fun q => c_9 q.2)]]; exact ⟨rfl, hL⟩⟩
