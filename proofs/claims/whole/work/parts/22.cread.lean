theorem inb_lt {v : Int32} (h : v < 0) (b : Int32) : inb v (nI 0) b = false := by
  simp only [inb, Bool.and_eq_false_iff, decide_eq_false_iff_not]
  exact Or.inl (Int32.not_le.mpr h)
theorem le_pred {v : Int32} {m : Nat} (hm : m < 2 ^ 30) : v ≤ nI m ↔ ¬ nI (m + 1) ≤ v := by
  rw [Int32.not_le, Int32.le_iff_toInt_le, Int32.lt_iff_toInt_lt, nI_toInt (by omega), nI_toInt (by omega)]
  omega
theorem inb_ge {v : Int32} {m : Nat} (hm : m < 2 ^ 30) (h : nI (m + 1) ≤ v) : inb v (nI 0) (nI m) = false := by
  simp only [inb, Bool.and_eq_false_iff, decide_eq_false_iff_not]
  exact Or.inr (fun q => (le_pred hm).mp q h)
theorem inb_ok {v : Int32} {m : Nat} (hm : m < 2 ^ 30) (h0 : ¬ v < 0) (h : ¬ nI (m + 1) ≤ v) : inb v (nI 0) (nI m) = true := by
  simp only [inb, Bool.and_eq_true, decide_eq_true_eq]
  exact ⟨Int32.not_lt.mp h0, (le_pred hm).mpr h⟩
set_option maxRecDepth 100000 in
set_option maxHeartbeats 4000000 in
theorem c_X3_isKey (S : mm_H) (v : Int32) : MZ yX3_isKey cX3_isKey 1 0 0 0 0 [.int (v)] S (fun z S' => z = bI (inb v (nI 0) (nI 15)) ∧ S' = S) := by
  refine MA.of (by decide) (Nat.le_of_ble_eq_true rfl) ?_
  intro x hx he hini
  have hx : vv_C x cX3_isKey RX3 0 0 1 := hx
  show vv_V x 0 0 0 [(0, .int (v))] [] S
  refine vv_iload_n hx dX3_isKey_0 rfl ?_
  refine vv_if_lt (tgt := 14) hx dX3_isKey_1 (by decide) (fun c_1 => ?_) (fun c_1 => ?_)
  · refine vv_iconst (v := nI 0) hx dX3_isKey_14 (by decide) ?_
    exact vv_zret hx he dX3_isKey_15 (by first | exact bI_01 _ | exact Or.inl rfl | exact Or.inr rfl) ⟨_, rfl, bI_f (inb_lt c_1 _), rfl⟩
  · refine vv_iload_n hx dX3_isKey_4 rfl ?_
    refine vv_bipush (v := nI 16) hx dX3_isKey_5 (by decide) ?_
    refine vv_icmp_ge (tgt := 14) hx dX3_isKey_7 (by decide) (fun c_7 => ?_) (fun c_7 => ?_)
    · refine vv_iconst (v := nI 0) hx dX3_isKey_14 (by decide) ?_
      exact vv_zret hx he dX3_isKey_15 (by first | exact bI_01 _ | exact Or.inl rfl | exact Or.inr rfl) ⟨_, rfl, bI_f (inb_ge (by decide) c_7), rfl⟩
    · refine vv_iconst (v := nI 1) hx dX3_isKey_10 (by decide) ?_
      refine vv_goto (tgt := 15) hx dX3_isKey_11 (by decide) ?_
      exact vv_zret hx he dX3_isKey_15 (by first | exact bI_01 _ | exact Or.inl rfl | exact Or.inr rfl) ⟨_, rfl, bI_t (inb_ok (by decide) c_1 c_7), rfl⟩
set_option maxRecDepth 100000 in
set_option maxHeartbeats 4000000 in
theorem c_X3_isQuery (S : mm_H) (v : Int32) : MZ yX3_isQuery cX3_isQuery 1 0 0 0 0 [.int (v)] S (fun z S' => z = bI (inb v (nI 0) (nI 255)) ∧ S' = S) := by
  refine MA.of (by decide) (Nat.le_of_ble_eq_true rfl) ?_
  intro x hx he hini
  have hx : vv_C x cX3_isQuery RX3 0 0 1 := hx
  show vv_V x 0 0 0 [(0, .int (v))] [] S
  refine vv_iload_n hx dX3_isQuery_0 rfl ?_
  refine vv_if_lt (tgt := 15) hx dX3_isQuery_1 (by decide) (fun c_1 => ?_) (fun c_1 => ?_)
  · refine vv_iconst (v := nI 0) hx dX3_isQuery_15 (by decide) ?_
    exact vv_zret hx he dX3_isQuery_16 (by first | exact bI_01 _ | exact Or.inl rfl | exact Or.inr rfl) ⟨_, rfl, bI_f (inb_lt c_1 _), rfl⟩
  · refine vv_iload_n hx dX3_isQuery_4 rfl ?_
    refine vv_sipush (v := nI 255) hx dX3_isQuery_5 (by decide) ?_
    refine vv_icmp_gt (tgt := 15) hx dX3_isQuery_8 (by decide) (fun c_8 => ?_) (fun c_8 => ?_)
    · refine vv_iconst (v := nI 0) hx dX3_isQuery_15 (by decide) ?_
      exact vv_zret hx he dX3_isQuery_16 (by first | exact bI_01 _ | exact Or.inl rfl | exact Or.inr rfl) ⟨_, rfl, bI_f (by simp only [inb, Bool.and_eq_false_iff, decide_eq_false_iff_not]; exact Or.inr (Int32.not_le.mpr c_8)), rfl⟩
    · refine vv_iconst (v := nI 1) hx dX3_isQuery_11 (by decide) ?_
      refine vv_goto (tgt := 16) hx dX3_isQuery_12 (by decide) ?_
      exact vv_zret hx he dX3_isQuery_16 (by first | exact bI_01 _ | exact Or.inl rfl | exact Or.inr rfl) ⟨_, rfl, bI_t (by simp only [inb, Bool.and_eq_true, decide_eq_true_eq]; exact ⟨Int32.not_lt.mp c_1, Int32.not_lt.mp c_8⟩), rfl⟩
set_option maxRecDepth 100000 in
set_option maxHeartbeats 4000000 in
theorem c_X3_heldView {S : mm_H} {X : xx_X} {W : Nat → Nat → Nat} {o nw sf vs cn : Nat} {va ga : Nat → Nat} (hL : Rel S X W o nw sf vs cn va ga) (v : Int32) : MR yX3_heldView cX3_heldView 2 (.object "LiveViews$View") 0 0 0 0 [.ref o, .int (v)] S (fun z S' => z = (bif heldB X v then some (va v.toNatClampNeg) else none) ∧ S' = S) := by
  refine MA.of (by decide) (Nat.le_of_ble_eq_true rfl) ?_
  intro x hx he hini
  have hx : vv_C x cX3_heldView RX3 0 0 2 := hx
  show vv_V x 0 0 0 [(0, .ref o), (1, .int (v))] [] S
  obtain ⟨⟨hoK, hoP0, hoP1, hoP2, hoI3, hoP4, hoP5, hoI6, hoI7, hoI8, hoI9, hoI10, hoI11⟩, hns, hnw, hsf, hvK, hvL, hvs, hview, hsegs, hUQ, hXI⟩ := id hL
  obtain ⟨hk, hbd, hw0, hc9, hm3, hcs, hheld⟩ := id hXI
  obtain ⟨k0, k1, k2, k3, k4, k5, k6, k7, k8, k9, k10, k11, k12, k13⟩ := id hk
  refine vv_iload_n hx dX3_heldView_0 rfl ?_
  refine vv_if_lt (tgt := 20) hx dX3_heldView_1 (by decide) (fun c_1 => ?_) (fun c_1 => ?_)
  · refine vv_null hx dX3_heldView_20 ?_
    exact vv_aret (r := none) hx he (Or.inl ⟨_, rfl⟩) dX3_heldView_21 ⟨none, rfl, by
      have hB : heldB X v = false := by
        cases hB : heldB X v with
        | false => rfl
        | true =>
          obtain ⟨j, hj, rfl, -⟩ := heldB_true hB k1 k2
          exact absurd c_1 (nI_pos (by omega))
      rw [hB]; rfl, rfl⟩
  · refine vv_iload_n hx dX3_heldView_4 rfl ?_
    refine vv_sipush (v := nI 150) hx dX3_heldView_5 (by decide) ?_
    refine vv_icmp_ge (tgt := 20) hx dX3_heldView_8 (by decide) (fun c_8 => ?_) (fun c_8 => ?_)
    · refine vv_null hx dX3_heldView_20 ?_
      exact vv_aret (r := none) hx he (Or.inl ⟨_, rfl⟩) dX3_heldView_21 ⟨none, rfl, by
        have hB : heldB X v = false := by
          cases hB : heldB X v with
          | false => rfl
          | true =>
            obtain ⟨j, hj, rfl, -⟩ := heldB_true hB k1 k2
            exact absurd ((nI_leI (by decide) (by omega)).mp c_8) (by omega)
        rw [hB]; rfl, rfl⟩
    · obtain ⟨j, hj, rfl⟩ := nI_of c_1
      have hj150 : j < 150 := by have h9 : ¬ 150 ≤ j := fun q => c_8 ((nI_leI (by decide) hj).mpr q); omega
      refine vv_aload_n hx dX3_heldView_11 rfl ?_
      refine vv_getr (b := vs) 2 hx dX3_heldView_12 kf_X3_21 kl_3 (by decide) rfl hoK hoP2 ?_
      refine vv_iload_n hx dX3_heldView_15 rfl ?_
      refine vv_aald (j := 2) hx dX3_heldView_16 hvK (by decide) (fun _ => rfl) rfl (by rw [hvL]; exact hj150) (by rw [hvL]; decide) ?_
      refine vv_goto (tgt := 21) hx dX3_heldView_17 (by decide) ?_
      exact vv_aret (r := mm_P S vs j) hx he (Or.inl ⟨_, rfl⟩) dX3_heldView_21 ⟨_, rfl, by rw [hvs j hj150, heldB_nI (by omega) k1 k2, nI_clamp (by omega)], rfl⟩
set_option maxRecDepth 100000 in
set_option maxHeartbeats 4000000 in
theorem c_X3_get {S : mm_H} {X : xx_X} {W : Nat → Nat → Nat} {o nw sf vs cn : Nat} {va ga : Nat → Nat} (hL : Rel S X W o nw sf vs cn va ga) (key : Int32) : MI yX3_get cX3_get 2 1 20 0 0 [.ref o, .int (key)] S (fun z S' => z = sp_get X key ∧ S' = S) := by
  refine MA.of (by decide) (Nat.le_of_ble_eq_true rfl) ?_
  intro x hx he hini
  have hx : vv_C x cX3_get RX3 1 20 2 := hx
  show vv_V x 0 0 0 [(0, .ref o), (1, .int (key))] [] S
  obtain ⟨⟨hoK, hoP0, hoP1, hoP2, hoI3, hoP4, hoP5, hoI6, hoI7, hoI8, hoI9, hoI10, hoI11⟩, hns, hnw, hsf, hvK, hvL, hvs, hview, hsegs, hUQ, hXI⟩ := id hL
  obtain ⟨hk, hbd, hw0, hc9, hm3, hcs, hheld⟩ := id hXI
  obtain ⟨k0, k1, k2, k3, k4, k5, k6, k7, k8, k9, k10, k11, k12, k13⟩ := id hk
  obtain ⟨hmK, hmI, mc, mw, hmP1, hmP2, hmKc, hmLc, hmKw, hmLw, hmC, hmW, hmn, hmch, hmwd⟩ := id hnw
  refine vv_iload_n hx dX3_get_0 rfl ?_
  refine vv_callS (As := [.int (key)]) hx dX3_get_1 km_X3_59 kq_X3_isKey kt_X3_isKey (c_X3_isKey S _) rfl rfl (Nat.le_of_ble_eq_true rfl) (by decide) (by decide) rfl rfl (vv_cd ?_)
  refine vv_if_eqB (tgt := 19) hx dX3_get_4 (by decide) (fun c_4 => ?_) (fun c_4 => ?_)
  · refine vv_bipush (v := -3) hx dX3_get_19 (by decide) ?_
    exact vv_iret hx he dX3_get_21 ⟨_, rfl, by simp [sp_get, c_4, picW_wr hw0], rfl⟩
  · obtain ⟨k, -, hk1, rfl⟩ := inb_nI c_4 (by decide) (by decide)
    have hkc : (nI k).toNatClampNeg = k := nI_clamp (by omega)
    refine vv_aload_n hx dX3_get_7 rfl ?_
    refine vv_getr (b := nw) 0 hx dX3_get_8 kf_X3_10 kl_3 (by decide) rfl hoK hoP0 ?_
    refine vv_getrN (b := mw) 2 hx dX3_get_11 kf_X3_117 kl_1 (by decide) rfl hmK hmP2 ?_
    refine vv_iload_n hx dX3_get_14 rfl ?_
    refine cc_iald (e0 := nI (picW X (X.1 0) (k))) (n := 16) hx dX3_get_15 hmKw hmLw (by omega) (by decide) (hmW (k) (by omega)) ?_
    refine vv_goto (tgt := 21) hx dX3_get_16 (by decide) ?_
    exact vv_iret hx he dX3_get_21 ⟨_, rfl, by simp [sp_get, c_4, hkc, picW_wr hw0], rfl⟩
set_option maxRecDepth 100000 in
set_option maxHeartbeats 4000000 in
theorem c_X3_number {S : mm_H} {X : xx_X} {W : Nat → Nat → Nat} {o nw sf vs cn : Nat} {va ga : Nat → Nat} (hL : Rel S X W o nw sf vs cn va ga) (key : Int32) : MI yX3_number cX3_number 2 1 20 0 0 [.ref o, .int (key)] S (fun z S' => z = sp_number X key ∧ S' = S) := by
  refine MA.of (by decide) (Nat.le_of_ble_eq_true rfl) ?_
  intro x hx he hini
  have hx : vv_C x cX3_number RX3 1 20 2 := hx
  show vv_V x 0 0 0 [(0, .ref o), (1, .int (key))] [] S
  obtain ⟨⟨hoK, hoP0, hoP1, hoP2, hoI3, hoP4, hoP5, hoI6, hoI7, hoI8, hoI9, hoI10, hoI11⟩, hns, hnw, hsf, hvK, hvL, hvs, hview, hsegs, hUQ, hXI⟩ := id hL
  obtain ⟨hk, hbd, hw0, hc9, hm3, hcs, hheld⟩ := id hXI
  obtain ⟨k0, k1, k2, k3, k4, k5, k6, k7, k8, k9, k10, k11, k12, k13⟩ := id hk
  obtain ⟨hmK, hmI, mc, mw, hmP1, hmP2, hmKc, hmLc, hmKw, hmLw, hmC, hmW, hmn, hmch, hmwd⟩ := id hnw
  refine vv_iload_n hx dX3_number_0 rfl ?_
  refine vv_callS (As := [.int (key)]) hx dX3_number_1 km_X3_59 kq_X3_isKey kt_X3_isKey (c_X3_isKey S _) rfl rfl (Nat.le_of_ble_eq_true rfl) (by decide) (by decide) rfl rfl (vv_cd ?_)
  refine vv_if_eqB (tgt := 19) hx dX3_number_4 (by decide) (fun c_4 => ?_) (fun c_4 => ?_)
  · refine vv_bipush (v := -3) hx dX3_number_19 (by decide) ?_
    exact vv_iret hx he dX3_number_21 ⟨_, rfl, by simp [sp_number, c_4, picC], rfl⟩
  · obtain ⟨k, -, hk1, rfl⟩ := inb_nI c_4 (by decide) (by decide)
    have hkc : (nI k).toNatClampNeg = k := nI_clamp (by omega)
    refine vv_aload_n hx dX3_number_7 rfl ?_
    refine vv_getr (b := nw) 0 hx dX3_number_8 kf_X3_10 kl_3 (by decide) rfl hoK hoP0 ?_
    refine vv_getrN (b := mc) 1 hx dX3_number_11 kf_X3_121 kl_1 (by decide) rfl hmK hmP1 ?_
    refine vv_iload_n hx dX3_number_14 rfl ?_
    refine cc_iald (e0 := nI (picC X (X.1 0) (k))) (n := 16) hx dX3_number_15 hmKc hmLc (by omega) (by decide) (hmC (k) (by omega)) ?_
    refine vv_goto (tgt := 21) hx dX3_number_16 (by decide) ?_
    exact vv_iret hx he dX3_number_21 ⟨_, rfl, by simp [sp_number, c_4, hkc, picC], rfl⟩
set_option maxRecDepth 100000 in
set_option maxHeartbeats 4000000 in
theorem c_X3_at {S : mm_H} {X : xx_X} {W : Nat → Nat → Nat} {o nw sf vs cn : Nat} {va ga : Nat → Nat} (hL : Rel S X W o nw sf vs cn va ga) (v key : Int32) : MI yX3_at cX3_at 4 1 21 0 0 [.ref o, .int (v), .int (key)] S (fun z S' => z = sp_at X v key ∧ S' = S) := by
  refine MA.of (by decide) (Nat.le_of_ble_eq_true rfl) ?_
  intro x hx he hini
  have hx : vv_C x cX3_at RX3 1 21 4 := hx
  show vv_V x 0 0 0 [(0, .ref o), (1, .int (v)), (2, .int (key))] [] S
  obtain ⟨⟨hoK, hoP0, hoP1, hoP2, hoI3, hoP4, hoP5, hoI6, hoI7, hoI8, hoI9, hoI10, hoI11⟩, hns, hnw, hsf, hvK, hvL, hvs, hview, hsegs, hUQ, hXI⟩ := id hL
  obtain ⟨hk, hbd, hw0, hc9, hm3, hcs, hheld⟩ := id hXI
  obtain ⟨k0, k1, k2, k3, k4, k5, k6, k7, k8, k9, k10, k11, k12, k13⟩ := id hk
  refine vv_aload_n hx dX3_at_0 rfl ?_
  refine vv_iload_n hx dX3_at_1 rfl ?_
  refine vv_callV (As := [.int (v)]) hx dX3_at_2 km_X3_67 kq_X3_heldView ki_X3_heldView ks_X3_heldView kl_3 hoK (c_X3_heldView hL _) rfl rfl (Nat.le_of_ble_eq_true rfl) (by decide) (by decide) rfl rfl (vv_cdr ?_)
  cases hB : heldB X v with
  | false =>
    show vv_V x 0 0 _ _ (.null :: _) S
    refine vv_astore_nN (lv' := [(0, .ref o), (1, .int (v)), (2, .int (key)), (3, .null)]) hx dX3_at_5 (by decide) rfl rfl ?_
    refine vv_aload_nN hx dX3_at_6 rfl ?_
    refine vv_ifnonnullN hx dX3_at_7 ?_
    refine vv_bipush (v := -2) hx dX3_at_10 (by decide) ?_
    exact vv_iret hx he dX3_at_12 ⟨_, rfl, by simp [sp_at, hB, picW_wr hw0], rfl⟩
  | true =>
    obtain ⟨j, hj, rfl, hh⟩ := heldB_true hB k1 k2
    have hjc : (nI j).toNatClampNeg = j := nI_clamp (by omega)
    obtain ⟨hvVK, hvV0, hvV3, ust, upr, hvP1, hvP2, hvn, hvf, hust, hprK, hprL, hprE⟩ := hview j hj hh
    obtain ⟨huK, huI, uc, uw, huP1, huP2, huKc, huLc, huKw, huLw, huC, huW, hun, huch, huwd⟩ := id hust
    show vv_V x 0 0 _ _ (.ref (va (nI j).toNatClampNeg) :: _) S
    rw [hjc]
    refine vv_astore_n (lv' := [(0, .ref o), (1, .int (nI (j))), (2, .int (key)), (3, .ref (va j))]) hx dX3_at_5 (by decide) rfl rfl ?_
    refine vv_aload_n hx dX3_at_6 rfl ?_
    refine vv_ifnonnull (tgt := 13) hx dX3_at_7 (by decide) ?_
    refine vv_iload_n hx dX3_at_13 rfl ?_
    refine vv_callS (As := [.int (key)]) hx dX3_at_14 km_X3_59 kq_X3_isKey kt_X3_isKey (c_X3_isKey S _) rfl rfl (Nat.le_of_ble_eq_true rfl) (by decide) (by decide) rfl rfl (vv_cd ?_)
    refine vv_if_eqB (tgt := 32) hx dX3_at_17 (by decide) (fun c_17 => ?_) (fun c_17 => ?_)
    · refine vv_bipush (v := -3) hx dX3_at_32 (by decide) ?_
      exact vv_iret hx he dX3_at_34 ⟨_, rfl, by simp [sp_at, hB, c_17, hjc, picW_wr hw0], rfl⟩
    · obtain ⟨k, -, hk1, rfl⟩ := inb_nI c_17 (by decide) (by decide)
      have hkc : (nI k).toNatClampNeg = k := nI_clamp (by omega)
      refine vv_aload_n hx dX3_at_20 rfl ?_
      refine vv_getrN (b := ust) 1 hx dX3_at_21 kf_X3_74 kl_2 (by decide) rfl hvVK hvP1 ?_
      refine vv_getrN (b := uw) 2 hx dX3_at_24 kf_X3_117 kl_1 (by decide) rfl huK huP2 ?_
      refine vv_iload_n hx dX3_at_27 rfl ?_
      refine cc_iald (e0 := nI (picW X (X.2.1 11 j) (k))) (n := 16) hx dX3_at_28 huKw huLw (by omega) (by decide) (huW (k) (by omega)) ?_
      refine vv_goto (tgt := 34) hx dX3_at_29 (by decide) ?_
      exact vv_iret hx he dX3_at_34 ⟨_, rfl, by simp [sp_at, hB, c_17, hjc, hkc, picW_wr hw0], rfl⟩
set_option maxRecDepth 100000 in
set_option maxHeartbeats 4000000 in
theorem l_X3_countFitting {S : mm_H} {a n : Nat} {ch wd : Nat → Nat} (hst : stA S a n ch wd) {x : vv_X} {q : Int32} (hx : vv_C x cX3_countFitting RX3 2 43 4) (he : vv_E x (some .int) (fun zz S' => ∃ r0 : Int32, zz = some (.int r0) ∧ (fun z S' => z = nI (cntN (fitB wd q) 16) ∧ S' = S) r0 S')) : ∀ d k, k + d = 16 → vv_V x 0 0 4 [(0, .ref a), (1, .int (q)), (2, .int (nI (cntN (fitB wd q) k))), (3, .int (nI (k)))] [] S := by
  have hstK := hst.1
  intro d
  induction d with
  | zero =>
    intro k hd
    have hcn := cntN_le (fitB wd q) k
    refine vv_iload_n hx dX3_countFitting_4 rfl ?_
    refine vv_bipush (v := nI 16) hx dX3_countFitting_5 (by decide) ?_
    refine vv_icmp_geN (tgt := 28) hx dX3_countFitting_7 (by decide) (by omega) (by omega) (fun c_7 => ?_) (fun c_7 => ?_)
    · refine vv_iload_n hx dX3_countFitting_28 rfl ?_
      exact vv_iret hx he dX3_countFitting_29 ⟨_, rfl, by rw [show k = 16 by omega], rfl⟩
    · exfalso; omega
  | succ d ih =>
    intro k hd
    have hcn := cntN_le (fitB wd q) k
    refine vv_iload_n hx dX3_countFitting_4 rfl ?_
    refine vv_bipush (v := nI 16) hx dX3_countFitting_5 (by decide) ?_
    refine vv_icmp_geN (tgt := 28) hx dX3_countFitting_7 (by decide) (by omega) (by omega) (fun c_7 => ?_) (fun c_7 => ?_)
    · exfalso; omega
    · refine vv_aload_n hx dX3_countFitting_10 rfl ?_
      refine vv_iload_n hx dX3_countFitting_11 rfl ?_
      refine vv_iload_n hx dX3_countFitting_12 rfl ?_
      refine vv_callVN (As := [.int (nI (k)), .int (q)]) hx dX3_countFitting_13 km_X3_124 kq_X1_fits ki_X1_fits ks_X1_fits kl_1 hstK (c_X1_fits hst q (by omega)) rfl rfl (Nat.le_of_ble_eq_true rfl) (by decide) (by decide) rfl rfl (vv_cd ?_)
      refine vv_if_eqB (tgt := 22) hx dX3_countFitting_16 (by decide) (fun c_16 => ?_) (fun c_16 => ?_)
      · refine vv_iinc (u := (nI (k + 1))) (lv' := [(0, .ref a), (1, .int (q)), (2, .int (nI (cntN (fitB wd q) k))), (3, .int (nI (k + 1)))]) hx dX3_countFitting_22 rfl (nI_1 _) (by decide) rfl rfl ?_
        refine vv_goto (tgt := 4) hx dX3_countFitting_25 (by decide) ?_
        have h9 := ih (k + 1) (by omega)
        rw [cntN_f0 (f := (fitB wd q)) (n := k) (by simp [c_16])] at h9
        exact vv_sub [0, 1, 2, 3] rfl h9
      · refine vv_iinc (u := (nI (cntN (fitB wd q) k + 1))) (lv' := [(0, .ref a), (1, .int (q)), (2, .int (nI (cntN (fitB wd q) k + 1))), (3, .int (nI (k)))]) hx dX3_countFitting_19 rfl (nI_1 _) (by decide) rfl rfl ?_
        refine vv_iinc (u := (nI (k + 1))) (lv' := [(0, .ref a), (1, .int (q)), (2, .int (nI (cntN (fitB wd q) k + 1))), (3, .int (nI (k + 1)))]) hx dX3_countFitting_22 rfl (nI_1 _) (by decide) rfl rfl ?_
        refine vv_goto (tgt := 4) hx dX3_countFitting_25 (by decide) ?_
        have h9 := ih (k + 1) (by omega)
        rw [cntN_t (f := (fitB wd q)) (n := k) (by simp [c_16])] at h9
        exact vv_sub [0, 1, 2, 3] rfl h9
set_option maxRecDepth 100000 in
set_option maxHeartbeats 4000000 in
theorem c_X3_countFitting {S : mm_H} {a n : Nat} {ch wd : Nat → Nat} (hst : stA S a n ch wd) (q : Int32) : MI yX3_countFitting cX3_countFitting 4 2 43 0 0 [.ref a, .int (q)] S (fun z S' => z = nI (cntN (fitB wd q) 16) ∧ S' = S) := by
  refine MA.of (by decide) (Nat.le_of_ble_eq_true rfl) ?_
  intro x hx he hini
  have hx : vv_C x cX3_countFitting RX3 2 43 4 := hx
  show vv_V x 0 0 0 [(0, .ref a), (1, .int (q))] [] S
  refine vv_iconst (v := nI 0) hx dX3_countFitting_0 (by decide) ?_
  refine vv_istore_n (lv' := [(0, .ref a), (1, .int (q)), (2, .int (nI (0)))]) hx dX3_countFitting_1 (by decide) rfl rfl ?_
  refine vv_iconst (v := nI 0) hx dX3_countFitting_2 (by decide) ?_
  refine vv_istore_n (lv' := [(0, .ref a), (1, .int (q)), (2, .int (nI (0))), (3, .int (nI (0)))]) hx dX3_countFitting_3 (by decide) rfl rfl ?_
  exact l_X3_countFitting hst hx he 16 0 rfl
set_option maxRecDepth 100000 in
set_option maxHeartbeats 4000000 in
theorem c_X3_find {S : mm_H} {X : xx_X} {W : Nat → Nat → Nat} {o nw sf vs cn : Nat} {va ga : Nat → Nat} (hL : Rel S X W o nw sf vs cn va ga) (v q : Int32) : MI yX3_find cX3_find 4 3 66 0 0 [.ref o, .int (v), .int (q)] S (fun z S' => z = sp_find X v q ∧ S' = S) := by
  refine MA.of (by decide) (Nat.le_of_ble_eq_true rfl) ?_
  intro x hx he hini
  have hx : vv_C x cX3_find RX3 3 66 4 := hx
  show vv_V x 0 0 0 [(0, .ref o), (1, .int (v)), (2, .int (q))] [] S
  obtain ⟨⟨hoK, hoP0, hoP1, hoP2, hoI3, hoP4, hoP5, hoI6, hoI7, hoI8, hoI9, hoI10, hoI11⟩, hns, hnw, hsf, hvK, hvL, hvs, hview, hsegs, hUQ, hXI⟩ := id hL
  obtain ⟨hk, hbd, hw0, hc9, hm3, hcs, hheld⟩ := id hXI
  obtain ⟨k0, k1, k2, k3, k4, k5, k6, k7, k8, k9, k10, k11, k12, k13⟩ := id hk
  refine vv_aload_n hx dX3_find_0 rfl ?_
  refine vv_iload_n hx dX3_find_1 rfl ?_
  refine vv_callV (As := [.int (v)]) hx dX3_find_2 km_X3_67 kq_X3_heldView ki_X3_heldView ks_X3_heldView kl_3 hoK (c_X3_heldView hL _) rfl rfl (Nat.le_of_ble_eq_true rfl) (by decide) (by decide) rfl rfl (vv_cdr ?_)
  cases hB : heldB X v with
  | false =>
    show vv_V x 0 0 _ _ (.null :: _) S
    refine vv_astore_nN (lv' := [(0, .ref o), (1, .int (v)), (2, .int (q)), (3, .null)]) hx dX3_find_5 (by decide) rfl rfl ?_
    refine vv_aload_nN hx dX3_find_6 rfl ?_
    refine vv_ifnonnullN hx dX3_find_7 ?_
    refine vv_bipush (v := -2) hx dX3_find_10 (by decide) ?_
    exact vv_iret hx he dX3_find_12 ⟨_, rfl, by simp [sp_find, hB], rfl⟩
  | true =>
    obtain ⟨j, hj, rfl, hh⟩ := heldB_true hB k1 k2
    have hjc : (nI j).toNatClampNeg = j := nI_clamp (by omega)
    obtain ⟨hvVK, hvV0, hvV3, ust, upr, hvP1, hvP2, hvn, hvf, hust, hprK, hprL, hprE⟩ := hview j hj hh
    obtain ⟨huK, huI, uc, uw, huP1, huP2, huKc, huLc, huKw, huLw, huC, huW, hun, huch, huwd⟩ := id hust
    show vv_V x 0 0 _ _ (.ref (va (nI j).toNatClampNeg) :: _) S
    rw [hjc]
    refine vv_astore_n (lv' := [(0, .ref o), (1, .int (nI (j))), (2, .int (q)), (3, .ref (va j))]) hx dX3_find_5 (by decide) rfl rfl ?_
    refine vv_aload_n hx dX3_find_6 rfl ?_
    refine vv_ifnonnull (tgt := 13) hx dX3_find_7 (by decide) ?_
    refine vv_iload_n hx dX3_find_13 rfl ?_
    refine vv_callS (As := [.int (q)]) hx dX3_find_14 km_X3_71 kq_X3_isQuery kt_X3_isQuery (c_X3_isQuery S _) rfl rfl (Nat.le_of_ble_eq_true rfl) (by decide) (by decide) rfl rfl (vv_cd ?_)
    refine vv_if_eqB (tgt := 31) hx dX3_find_17 (by decide) (fun c_17 => ?_) (fun c_17 => ?_)
    · refine vv_bipush (v := -3) hx dX3_find_31 (by decide) ?_
      exact vv_iret hx he dX3_find_33 ⟨_, rfl, by simp [sp_find, hB, c_17, hjc], rfl⟩
    · refine vv_aload_n hx dX3_find_20 rfl ?_
      refine vv_getrN (b := ust) 1 hx dX3_find_21 kf_X3_74 kl_2 (by decide) rfl hvVK hvP1 ?_
      refine vv_iload_n hx dX3_find_24 rfl ?_
      refine vv_callS (As := [.ref ust, .int (q)]) hx dX3_find_25 km_X3_77 kq_X3_countFitting kt_X3_countFitting (c_X3_countFitting hust q) rfl rfl (Nat.le_of_ble_eq_true rfl) (by decide) (by decide) rfl rfl (vv_cd ?_)
      refine vv_goto (tgt := 33) hx dX3_find_28 (by decide) ?_
      exact vv_iret hx he dX3_find_33 ⟨_, rfl, by simp only [sp_find, hB, c_17, hjc, if_true]; exact congrArg nI (cntN_congr (fun k _ => (hasB_fit hw0 j k q).symm)), rfl⟩
set_option maxRecDepth 100000 in
set_option maxHeartbeats 4000000 in
theorem l_X3_match {S : mm_H} {X : xx_X} {x : vv_X} {o j ust : Nat} {va : Nat → Nat} {q w i : Int32} {post : Option Value → mm_H → Prop} (hx : vv_C x cX3_match RX3 3 68 8) (he : vv_E x (some .int) post) (hust : stA S ust (X.2.1 11 j) (picC X (X.2.1 11 j)) (picW X (X.2.1 11 j))) (hw0 : X.2.1 2 0 = 0) (k8 : ∀ i, X.2.1 2 i ≤ 255) (h11 : X.2.1 11 j ≤ 600) (hw : ∃ w', w = nI w') (hp : post (some (.int (firstN (fun k => hasB X j k q && decide (nI (aheadN X j q w k) = i)) 0 16))) S) : ∀ d k, k + d = 16 → firstN (fun k => hasB X j k q && decide (nI (aheadN X j q w k) = i)) 0 16 = firstN (fun k => hasB X j k q && decide (nI (aheadN X j q w k) = i)) k d → vv_V x 0 0 42 [(0, .ref o), (1, .int (nI (j))), (2, .int (q)), (3, .int (w)), (4, .int (i)), (5, .ref (va j)), (6, .ref ust), (7, .int (nI (k)))] [] S := by
  obtain ⟨w', rfl⟩ := hw
  have hustK := hust.1
  intro d
  induction d with
  | zero =>
    intro k hd hf
    refine vv_iload hx dX3_match_42 rfl ?_
    refine vv_bipush (v := nI 16) hx dX3_match_44 (by decide) ?_
    refine vv_icmp_geN (tgt := 83) hx dX3_match_46 (by decide) (by omega) (by omega) (fun c_46 => ?_) (fun c_46 => ?_)
    · refine vv_iconst (v := -1) hx dX3_match_83 (by decide) ?_
      exact vv_iret hx he dX3_match_84 (by rw [hf] at hp; exact hp)
    · exfalso; omega
  | succ d ih =>
    intro k hd hf
    refine vv_iload hx dX3_match_42 rfl ?_
    refine vv_bipush (v := nI 16) hx dX3_match_44 (by decide) ?_
    refine vv_icmp_geN (tgt := 83) hx dX3_match_46 (by decide) (by omega) (by omega) (fun c_46 => ?_) (fun c_46 => ?_)
    · exfalso; omega
    · refine vv_aload hx dX3_match_49 rfl ?_
      refine vv_iload hx dX3_match_51 rfl ?_
      refine vv_iload_n hx dX3_match_53 rfl ?_
      refine vv_callVN (As := [.int (nI (k)), .int (q)]) hx dX3_match_54 km_X3_124 kq_X1_fits ki_X1_fits ks_X1_fits kl_1 hustK (c_X1_fits hust q (by omega)) rfl rfl (Nat.le_of_ble_eq_true rfl) (by decide) (by decide) rfl rfl (vv_cd ?_)
      refine vv_if_eqB (tgt := 77) hx dX3_match_57 (by decide) (fun c_57 => ?_) (fun c_57 => ?_)
      · refine vv_iinc (u := (nI (k + 1))) (lv' := [(0, .ref o), (1, .int (nI (j))), (2, .int (q)), (3, .int (nI (w'))), (4, .int (i)), (5, .ref (va j)), (6, .ref ust), (7, .int (nI (k + 1)))]) hx dX3_match_77 rfl (nI_1 _) (by decide) rfl rfl ?_
        refine vv_goto (tgt := 42) hx dX3_match_80 (by decide) ?_
        exact ih (k + 1) (by omega) (hf.trans (firstN_f (by rw [hasB_fit hw0, c_57, Bool.false_and])))
      · refine vv_aload hx dX3_match_60 rfl ?_
        refine vv_iload hx dX3_match_62 rfl ?_
        refine vv_iload_n hx dX3_match_64 rfl ?_
        refine vv_iload_n hx dX3_match_65 rfl ?_
        refine vv_callVN (As := [.int (nI (k)), .int (q), .int (nI (w'))]) hx dX3_match_66 km_X3_128 kq_X1_countBefore ki_X1_countBefore ks_X1_countBefore kl_1 hustK (c_X1_countBefore hust q (nI w') (by omega)) rfl rfl (Nat.le_of_ble_eq_true rfl) (by decide) (by decide) rfl rfl (vv_cd ?_)
        refine vv_iload hx dX3_match_69 rfl ?_
        refine vv_icmp_ne (tgt := 77) hx dX3_match_71 (by decide) (fun c_71 => ?_) (fun c_71 => ?_)
        · refine vv_iinc (u := (nI (k + 1))) (lv' := [(0, .ref o), (1, .int (nI (j))), (2, .int (q)), (3, .int (nI (w'))), (4, .int (i)), (5, .ref (va j)), (6, .ref ust), (7, .int (nI (k + 1)))]) hx dX3_match_77 rfl (nI_1 _) (by decide) rfl rfl ?_
          refine vv_goto (tgt := 42) hx dX3_match_80 (by decide) ?_
          exact ih (k + 1) (by omega) (hf.trans (firstN_f (by rw [hasB_fit hw0, c_57, Bool.true_and]; exact decide_eq_false (fun e => c_71 (by rw [← ahead_bef hw0 k8 j h11 q w' k (by rw [hasB_fit hw0]; exact c_57)]; exact e)))))
        · refine vv_iload hx dX3_match_74 rfl ?_
          exact vv_iret hx he dX3_match_76 (by have h9 := hf.trans (firstN_t (by rw [hasB_fit hw0, c_57, Bool.true_and]; exact decide_eq_true (by rw [ahead_bef hw0 k8 j h11 q w' k (by rw [hasB_fit hw0]; exact c_57)]; exact c_71))); rw [h9] at hp; exact hp)
set_option maxRecDepth 100000 in
set_option maxHeartbeats 4000000 in
theorem c_X3_match {S : mm_H} {X : xx_X} {W : Nat → Nat → Nat} {o nw sf vs cn : Nat} {va ga : Nat → Nat} (hL : Rel S X W o nw sf vs cn va ga) (v q w i : Int32) : MI yX3_match cX3_match 8 3 68 0 0 [.ref o, .int (v), .int (q), .int (w), .int (i)] S (fun z S' => z = sp_match X v q w i ∧ S' = S) := by
  refine MA.of (by decide) (Nat.le_of_ble_eq_true rfl) ?_
  intro x hx he hini
  have hx : vv_C x cX3_match RX3 3 68 8 := hx
  show vv_V x 0 0 0 [(0, .ref o), (1, .int (v)), (2, .int (q)), (3, .int (w)), (4, .int (i))] [] S
  obtain ⟨⟨hoK, hoP0, hoP1, hoP2, hoI3, hoP4, hoP5, hoI6, hoI7, hoI8, hoI9, hoI10, hoI11⟩, hns, hnw, hsf, hvK, hvL, hvs, hview, hsegs, hUQ, hXI⟩ := id hL
  obtain ⟨hk, hbd, hw0, hc9, hm3, hcs, hheld⟩ := id hXI
  obtain ⟨k0, k1, k2, k3, k4, k5, k6, k7, k8, k9, k10, k11, k12, k13⟩ := id hk
  refine vv_aload_n hx dX3_match_0 rfl ?_
  refine vv_iload_n hx dX3_match_1 rfl ?_
  refine vv_callV (As := [.int (v)]) hx dX3_match_2 km_X3_67 kq_X3_heldView ki_X3_heldView ks_X3_heldView kl_3 hoK (c_X3_heldView hL _) rfl rfl (Nat.le_of_ble_eq_true rfl) (by decide) (by decide) rfl rfl (vv_cdr ?_)
  cases hB : heldB X v with
  | false =>
    show vv_V x 0 0 _ _ (.null :: _) S
    refine vv_astoreN (lv' := [(0, .ref o), (1, .int (v)), (2, .int (q)), (3, .int (w)), (4, .int (i)), (5, .null)]) hx dX3_match_5 (by decide) rfl rfl ?_
    refine vv_aloadN hx dX3_match_7 rfl ?_
    refine vv_ifnonnullN hx dX3_match_9 ?_
    refine vv_bipush (v := -2) hx dX3_match_12 (by decide) ?_
    exact vv_iret hx he dX3_match_14 ⟨_, rfl, by simp [sp_match, hB], rfl⟩
  | true =>
    obtain ⟨j, hj, rfl, hh⟩ := heldB_true hB k1 k2
    have hjc : (nI j).toNatClampNeg = j := nI_clamp (by omega)
    obtain ⟨hvVK, hvV0, hvV3, ust, upr, hvP1, hvP2, hvn, hvf, hust, hprK, hprL, hprE⟩ := hview j hj hh
    obtain ⟨huK, huI, uc, uw, huP1, huP2, huKc, huLc, huKw, huLw, huC, huW, hun, huch, huwd⟩ := id hust
    show vv_V x 0 0 _ _ (.ref (va (nI j).toNatClampNeg) :: _) S
    rw [hjc]
    refine vv_astore (lv' := [(0, .ref o), (1, .int (nI (j))), (2, .int (q)), (3, .int (w)), (4, .int (i)), (5, .ref (va j))]) hx dX3_match_5 (by decide) rfl rfl ?_
    refine vv_aload hx dX3_match_7 rfl ?_
    refine vv_ifnonnull (tgt := 15) hx dX3_match_9 (by decide) ?_
    refine vv_iload_n hx dX3_match_15 rfl ?_
    refine vv_callS (As := [.int (q)]) hx dX3_match_16 km_X3_71 kq_X3_isQuery kt_X3_isQuery (c_X3_isQuery S _) rfl rfl (Nat.le_of_ble_eq_true rfl) (by decide) (by decide) rfl rfl (vv_cd ?_)
    refine vv_if_eqB (tgt := 29) hx dX3_match_19 (by decide) (fun c_19 => ?_) (fun c_19 => ?_)
    · refine vv_bipush (v := -3) hx dX3_match_29 (by decide) ?_
      exact vv_iret hx he dX3_match_31 ⟨_, rfl, by simp [sp_match, hB, c_19, hjc], rfl⟩
    · refine vv_iload_n hx dX3_match_22 rfl ?_
      refine vv_callS (As := [.int (w)]) hx dX3_match_23 km_X3_71 kq_X3_isQuery kt_X3_isQuery (c_X3_isQuery S _) rfl rfl (Nat.le_of_ble_eq_true rfl) (by decide) (by decide) rfl rfl (vv_cd ?_)
      refine vv_if_neB (tgt := 32) hx dX3_match_26 (by decide) (fun c_26 => ?_) (fun c_26 => ?_)
      · refine vv_aload hx dX3_match_32 rfl ?_
        refine vv_getrN (b := ust) 1 hx dX3_match_34 kf_X3_74 kl_2 (by decide) rfl hvVK hvP1 ?_
        refine vv_astore (lv' := [(0, .ref o), (1, .int (nI (j))), (2, .int (q)), (3, .int (w)), (4, .int (i)), (5, .ref (va j)), (6, .ref ust)]) hx dX3_match_37 (by decide) rfl rfl ?_
        refine vv_iconst (v := nI 0) hx dX3_match_39 (by decide) ?_
        refine vv_istore (lv' := [(0, .ref o), (1, .int (nI (j))), (2, .int (q)), (3, .int (w)), (4, .int (i)), (5, .ref (va j)), (6, .ref ust), (7, .int (nI (0)))]) hx dX3_match_40 (by decide) rfl rfl ?_
        exact l_X3_match hx he hust hw0 k8 (k11 j) (by obtain ⟨w', -, -, e⟩ := inb_nI c_26 (by decide) (by decide); exact ⟨w', e⟩) ⟨_, rfl, by simp [sp_match, hB, c_19, c_26, hjc], rfl⟩ 16 0 rfl rfl
      · refine vv_bipush (v := -3) hx dX3_match_29 (by decide) ?_
        exact vv_iret hx he dX3_match_31 ⟨_, rfl, by simp [sp_match, hB, c_19, c_26, hjc], rfl⟩
set_option maxRecDepth 100000 in
set_option maxHeartbeats 4000000 in
theorem c_X3_segments {S : mm_H} {X : xx_X} {W : Nat → Nat → Nat} {o nw sf vs cn : Nat} {va ga : Nat → Nat} (hL : Rel S X W o nw sf vs cn va ga) (v : Int32) : MI yX3_segments cX3_segments 3 1 21 0 0 [.ref o, .int (v)] S (fun z S' => z = sp_segments X v ∧ S' = S) := by
  refine MA.of (by decide) (Nat.le_of_ble_eq_true rfl) ?_
  intro x hx he hini
  have hx : vv_C x cX3_segments RX3 1 21 3 := hx
  show vv_V x 0 0 0 [(0, .ref o), (1, .int (v))] [] S
  obtain ⟨⟨hoK, hoP0, hoP1, hoP2, hoI3, hoP4, hoP5, hoI6, hoI7, hoI8, hoI9, hoI10, hoI11⟩, hns, hnw, hsf, hvK, hvL, hvs, hview, hsegs, hUQ, hXI⟩ := id hL
  obtain ⟨hk, hbd, hw0, hc9, hm3, hcs, hheld⟩ := id hXI
  obtain ⟨k0, k1, k2, k3, k4, k5, k6, k7, k8, k9, k10, k11, k12, k13⟩ := id hk
  refine vv_aload_n hx dX3_segments_0 rfl ?_
  refine vv_iload_n hx dX3_segments_1 rfl ?_
  refine vv_callV (As := [.int (v)]) hx dX3_segments_2 km_X3_67 kq_X3_heldView ki_X3_heldView ks_X3_heldView kl_3 hoK (c_X3_heldView hL _) rfl rfl (Nat.le_of_ble_eq_true rfl) (by decide) (by decide) rfl rfl (vv_cdr ?_)
  cases hB : heldB X v with
  | false =>
    show vv_V x 0 0 _ _ (.null :: _) S
    refine vv_astore_nN (lv' := [(0, .ref o), (1, .int (v)), (2, .null)]) hx dX3_segments_5 (by decide) rfl rfl ?_
    refine vv_aload_nN hx dX3_segments_6 rfl ?_
    refine vv_ifnonnullN hx dX3_segments_7 ?_
    refine vv_bipush (v := -2) hx dX3_segments_10 (by decide) ?_
    refine vv_goto (tgt := 20) hx dX3_segments_12 (by decide) ?_
    exact vv_iret hx he dX3_segments_20 ⟨_, rfl, by simp [sp_segments, hB], rfl⟩
  | true =>
    obtain ⟨j, hj, rfl, hh⟩ := heldB_true hB k1 k2
    have hjc : (nI j).toNatClampNeg = j := nI_clamp (by omega)
    obtain ⟨hvVK, hvV0, hvV3, ust, upr, hvP1, hvP2, hvn, hvf, hust, hprK, hprL, hprE⟩ := hview j hj hh
    obtain ⟨huK, huI, uc, uw, huP1, huP2, huKc, huLc, huKw, huLw, huC, huW, hun, huch, huwd⟩ := id hust
    show vv_V x 0 0 _ _ (.ref (va (nI j).toNatClampNeg) :: _) S
    rw [hjc]
    refine vv_astore_n (lv' := [(0, .ref o), (1, .int (nI (j))), (2, .ref (va j))]) hx dX3_segments_5 (by decide) rfl rfl ?_
    refine vv_aload_n hx dX3_segments_6 rfl ?_
    refine vv_ifnonnull (tgt := 15) hx dX3_segments_7 (by decide) ?_
    refine vv_aload_n hx dX3_segments_15 rfl ?_
    refine vv_getrN (b := upr) 2 hx dX3_segments_16 kf_X3_131 kl_2 (by decide) rfl hvVK hvP2 ?_
    refine vv_alen (j := 1) hx dX3_segments_19 hprK (by decide) (fun _ => rfl) ?_
    rw [hprL]
    exact vv_iret hx he dX3_segments_20 ⟨_, rfl, by simp [sp_segments, hB, hjc], rfl⟩
set_option maxRecDepth 100000 in
set_option maxHeartbeats 4000000 in
theorem c_X3_conflict {S : mm_H} {X : xx_X} {W : Nat → Nat → Nat} {o nw sf vs cn : Nat} {va ga : Nat → Nat} (hL : Rel S X W o nw sf vs cn va ga) (a : Int32) : MI yX3_conflict cX3_conflict 2 0 0 0 0 [.ref o, .int (a)] S (fun z S' => z = sp_conflict X a ∧ S' = S) := by
  refine MA.of (by decide) (Nat.le_of_ble_eq_true rfl) ?_
  intro x hx he hini
  have hx : vv_C x cX3_conflict RX3 0 0 2 := hx
  show vv_V x 0 0 0 [(0, .ref o), (1, .int (a))] [] S
  obtain ⟨⟨hoK, hoP0, hoP1, hoP2, hoI3, hoP4, hoP5, hoI6, hoI7, hoI8, hoI9, hoI10, hoI11⟩, hns, hnw, hsf, hvK, hvL, hvs, hview, hsegs, hUQ, hXI⟩ := id hL
  obtain ⟨hk, hbd, hw0, hc9, hm3, hcs, hheld⟩ := id hXI
  obtain ⟨k0, k1, k2, k3, k4, k5, k6, k7, k8, k9, k10, k11, k12, k13⟩ := id hk
  refine vv_iload_n hx dX3_conflict_0 rfl ?_
  rcases sw_cases (n := 3) (a) (by decide) with c_1 | ⟨j, hj, c_1⟩
  · refine vv_tabOut (tgt := 43) hx dX3_conflict_1 (by first | exact c_1 | (have h9 := c_1; omega)) (by decide) ?_
    refine vv_bipush (v := -3) hx dX3_conflict_43 (by decide) ?_
    exact vv_iret hx he dX3_conflict_45 ⟨_, rfl, by unfold sp_conflict; first | (rw [toInt_nI c_1 (by decide)]; rfl) | (rw [if_neg (fun e => by rw [e] at c_1; exact absurd c_1 (by decide)), if_neg (fun e => by rw [e] at c_1; exact absurd c_1 (by decide)), if_neg (fun e => by rw [e] at c_1; exact absurd c_1 (by decide))]), rfl⟩
  · rcases (show j = 0 ∨ j = 1 ∨ j = 2 by omega) with rfl | rfl | rfl
    · refine vv_tabIn (off := 27) (tgt := 28) hx dX3_conflict_1 (by rw [c_1]; decide) (by rw [c_1]; decide) (by rw [c_1]; decide) (by decide) ?_
      refine vv_aload_n hx dX3_conflict_28 rfl ?_
      refine cc_geti (e0 := nI (X.1 3)) 8 hx dX3_conflict_29 kf_X3_35 kl_3 (by decide) rfl hoK hoI8 ?_
      exact vv_iret hx he dX3_conflict_32 ⟨_, rfl, by unfold sp_conflict; first | (rw [toInt_nI c_1 (by decide)]; rfl) | (rw [if_neg (fun e => by rw [e] at c_1; exact absurd c_1 (by decide)), if_neg (fun e => by rw [e] at c_1; exact absurd c_1 (by decide)), if_neg (fun e => by rw [e] at c_1; exact absurd c_1 (by decide))]), rfl⟩
    · refine vv_tabIn (off := 32) (tgt := 33) hx dX3_conflict_1 (by rw [c_1]; decide) (by rw [c_1]; decide) (by rw [c_1]; decide) (by decide) ?_
      refine vv_aload_n hx dX3_conflict_33 rfl ?_
      refine cc_geti (e0 := X.2.2.1) 9 hx dX3_conflict_34 kf_X3_38 kl_3 (by decide) rfl hoK hoI9 ?_
      exact vv_iret hx he dX3_conflict_37 ⟨_, rfl, by unfold sp_conflict; first | (rw [toInt_nI c_1 (by decide)]; rfl) | (rw [if_neg (fun e => by rw [e] at c_1; exact absurd c_1 (by decide)), if_neg (fun e => by rw [e] at c_1; exact absurd c_1 (by decide)), if_neg (fun e => by rw [e] at c_1; exact absurd c_1 (by decide))]), rfl⟩
    · refine vv_tabIn (off := 37) (tgt := 38) hx dX3_conflict_1 (by rw [c_1]; decide) (by rw [c_1]; decide) (by rw [c_1]; decide) (by decide) ?_
      refine vv_aload_n hx dX3_conflict_38 rfl ?_
      refine cc_geti (e0 := X.2.2.2) 10 hx dX3_conflict_39 kf_X3_41 kl_3 (by decide) rfl hoK hoI10 ?_
      exact vv_iret hx he dX3_conflict_42 ⟨_, rfl, by unfold sp_conflict; first | (rw [toInt_nI c_1 (by decide)]; rfl) | (rw [if_neg (fun e => by rw [e] at c_1; exact absurd c_1 (by decide)), if_neg (fun e => by rw [e] at c_1; exact absurd c_1 (by decide)), if_neg (fun e => by rw [e] at c_1; exact absurd c_1 (by decide))]), rfl⟩
