set_option maxRecDepth 100000 in
set_option maxHeartbeats 4000000 in
theorem l_X3_markSegments {S : mm_H} {X : xx_X} {W : Nat → Nat → Nat} {o nw sf vs cn : Nat} {va ga : Nat → Nat} (hL : Rel S X W o nw sf vs cn va ga) {j : Nat} (hj : j < X.1 10) (hh : heldN X j = true) (hcn : cn < 1000000) {x : vv_X} (hx : vv_C x cX3_markSegments RX3 0 0 5) (he : vv_E x (some .int) (fun zz S' => ∃ r0 : Int32, zz = some (.int r0) ∧ (fun z T' => ∃ c, z = nI c ∧ c + cntN (mkM X j 0) (X.1 6) = cntN (mkM X (j + 1) 0) (X.1 6) ∧ mkO (mm_sI S o 11 (nI (cn + 1))) T' X ga cn (mkM X (j + 1) 0)) r0 S')) : ∀ d i c T, i + d = X.2.1 12 j → mkO (mm_sI S o 11 (nI (cn + 1))) T X ga cn (mkM X j i) → c + cntN (mkM X j 0) (X.1 6) = cntN (mkM X j i) (X.1 6) → vv_V x 0 0 4 [(0, .ref o), (1, .ref (va j)), (2, .int (nI (c))), (3, .int (nI (i)))] [] T := by
  obtain ⟨⟨hoK, hoP0, hoP1, hoP2, hoI3, hoP4, hoP5, hoI6, hoI7, hoI8, hoI9, hoI10, hoI11⟩, hns, hnw, hsf, hvK, hvL, hvs, hview, hsegs, hUQ, hXI⟩ := id hL
  obtain ⟨hk, hbd, hw0, hc9, hm3, hcs, hheld⟩ := id hXI
  obtain ⟨k0, k1, k2, k3, k4, k5, k6, k7, k8, k9, k10, k11, k12, k13⟩ := id hk
  obtain ⟨hvVK, hvV0, hvV3, ust, upr, hvP1, hvP2, hvn, hvf, hust, hprK, hprL, hprE⟩ := hview j hj hh
  have hm9 := k12 j
  have inj : ∀ i, i < X.2.1 12 j → ∀ u, u < X.1 10 → heldN X u = true → ∀ t, t < X.2.1 12 u → ga (X.2.1 13 (4 * u + t)) = ga (X.2.1 13 (4 * j + i)) → X.2.1 13 (4 * u + t) = X.2.1 13 (4 * j + i) := fun i hi u hu hhu t ht e => by
    have q1 := (hsegs u hu hhu t ht).1.2.1
    have q2 := (hsegs j hj hh i hi).1.2.1
    rw [e, q2] at q1
    have b1 := k13 (4 * u + t)
    have b2 := k13 (4 * j + i)
    exact ((nI_eq (by omega) (by omega)).mp q1).symm
  intro d
  induction d with
  | zero =>
    intro i c T hd hO hc
    have hle := cntN_le (mkM X j i) (X.1 6)
    have hvVKT : mm_K T (va j) = 3 := (hO.1 _).trans hvVK
    have hvP2T : mm_P T (va j) 2 = some upr := (hO.2.1 _ 2).trans hvP2
    have hprKT : mm_K T upr = 7 := (hO.1 _).trans hprK
    have hprLT : mm_L T upr = X.2.1 12 j := (hO.2.2.1 _).trans hprL
    refine vv_iload_n hx dX3_markSegments_4 rfl ?_
    refine vv_aload_n hx dX3_markSegments_5 rfl ?_
    refine vv_getrN (b := upr) 2 hx dX3_markSegments_6 kf_X3_131 kl_2 (by decide) rfl hvVKT hvP2T ?_
    refine vv_alen (j := 1) hx dX3_markSegments_9 hprKT (by decide) (fun _ => rfl) ?_
    rw [hprLT]
    refine vv_icmp_geN (tgt := 51) hx dX3_markSegments_10 (by decide) (by omega) (by omega) (fun c_10 => ?_) (fun c_10 => ?_)
    · refine vv_iload_n hx dX3_markSegments_51 rfl ?_
      exact vv_iret hx he dX3_markSegments_52 ⟨_, rfl, c, rfl, by rw [hc, show i = X.2.1 12 j by omega, mkM_h hh], by rw [← mkM_h hh, show X.2.1 12 j = i by omega]; exact hO⟩
    · exfalso; omega
  | succ d ih =>
    intro i c T hd hO hc
    have hle := cntN_le (mkM X j i) (X.1 6)
    have hi : i < X.2.1 12 j := by omega
    have hvVKT : mm_K T (va j) = 3 := (hO.1 _).trans hvVK
    have hvP2T : mm_P T (va j) 2 = some upr := (hO.2.1 _ 2).trans hvP2
    have hprKT : mm_K T upr = 7 := (hO.1 _).trans hprK
    have hprLT : mm_L T upr = X.2.1 12 j := (hO.2.2.1 _).trans hprL
    have hprET : mm_P T upr i = some (ga (X.2.1 13 (4 * j + i))) := (hO.2.1 _ i).trans (hprE i hi)
    have hsgK := (hsegs j hj hh i hi).1.1
    have hsgKT : mm_K T (ga (X.2.1 13 (4 * j + i))) = 1 := (hO.1 _).trans hsgK
    have hoKT : mm_K T o = 4 := (hO.1 _).trans hoK
    have hoI11T : mm_I T o 11 = nI (cn + 1) := by rw [hO.2.2.2.1 o 11 (Or.inl (by show mm_K S o ≠ 1; omega)), mm_I_s]
    obtain ⟨lc, hlc, hl1, hl2⟩ := hO.2.2.2.2 j hj hh i hi
    have hlcb : lc ≤ cn + 1 := by
      cases hM : mkM X j i (X.2.1 13 (4 * j + i)) with
      | true => exact Nat.le_of_eq (hl1 hM)
      | false => exact Nat.le_succ_of_le (hl2 hM)
    have h6 := ((hheld j hj hh).2.1 i hi).1
    refine vv_iload_n hx dX3_markSegments_4 rfl ?_
    refine vv_aload_n hx dX3_markSegments_5 rfl ?_
    refine vv_getrN (b := upr) 2 hx dX3_markSegments_6 kf_X3_131 kl_2 (by decide) rfl hvVKT hvP2T ?_
    refine vv_alen (j := 1) hx dX3_markSegments_9 hprKT (by decide) (fun _ => rfl) ?_
    rw [hprLT]
    refine vv_icmp_geN (tgt := 51) hx dX3_markSegments_10 (by decide) (by omega) (by omega) (fun c_10 => ?_) (fun c_10 => ?_)
    · exfalso; omega
    · refine vv_aload_n hx dX3_markSegments_13 rfl ?_
      refine vv_getrN (b := upr) 2 hx dX3_markSegments_14 kf_X3_131 kl_2 (by decide) rfl hvVKT hvP2T ?_
      refine vv_iload_n hx dX3_markSegments_17 rfl ?_
      refine vv_aald (j := 1) hx dX3_markSegments_18 hprKT (by decide) (fun _ => rfl) rfl (by rw [hprLT]; exact hi) (by rw [hprLT]; omega) ?_
      rw [hprET]
      show vv_V x 0 0 _ _ (.ref (ga (X.2.1 13 (4 * j + i))) :: _) T
      refine vv_astore (lv' := [(0, .ref o), (1, .ref (va j)), (2, .int (nI (c))), (3, .int (nI (i))), (4, .ref (ga (X.2.1 13 (4 * j + i))))]) hx dX3_markSegments_19 (by decide) rfl rfl ?_
      refine vv_aload hx dX3_markSegments_21 rfl ?_
      refine cc_getiN (e0 := nI (lc)) 3 hx dX3_markSegments_23 kf_X3_210 kl_0 (by decide) rfl hsgKT hlc ?_
      refine vv_aload_n hx dX3_markSegments_26 rfl ?_
      refine cc_geti (e0 := nI (cn + 1)) 11 hx dX3_markSegments_27 kf_X3_44 kl_3 (by decide) rfl hoKT hoI11T ?_
      refine vv_icmp_eqN (tgt := 45) hx dX3_markSegments_30 (by decide) (by omega) (by omega) (fun c_30 => ?_) (fun c_30 => ?_)
      · refine vv_iinc (u := (nI (i + 1))) (lv' := [(0, .ref o), (1, .ref (va j)), (2, .int (nI (c))), (3, .int (nI (i + 1))), (4, .ref (ga (X.2.1 13 (4 * j + i))))]) hx dX3_markSegments_45 rfl (nI_1 _) (by decide) rfl rfl ?_
        refine vv_goto (tgt := 4) hx dX3_markSegments_48 (by decide) ?_
        have hM : mkM X j i (X.2.1 13 (4 * j + i)) = true := by
          cases hM : mkM X j i (X.2.1 13 (4 * j + i)) with
          | true => rfl
          | false => have := hl2 hM; omega
        exact vv_sub [0, 1, 2, 3] rfl (ih (i + 1) c T (by omega) (by rw [mkM_t hM]; exact hO) (by rw [mkM_t hM]; exact hc))
      · refine vv_aload hx dX3_markSegments_33 rfl ?_
        refine vv_aload_n hx dX3_markSegments_35 rfl ?_
        refine cc_geti (e0 := nI (cn + 1)) 11 hx dX3_markSegments_36 kf_X3_44 kl_3 (by decide) rfl hoKT hoI11T ?_
        refine vv_putiN 3 hx dX3_markSegments_39 kf_X3_210 kl_0 (by decide) rfl rfl rfl hsgKT ?_
        refine vv_iinc (u := (nI (c + 1))) (lv' := [(0, .ref o), (1, .ref (va j)), (2, .int (nI (c + 1))), (3, .int (nI (i))), (4, .ref (ga (X.2.1 13 (4 * j + i))))]) hx dX3_markSegments_42 rfl (nI_1 _) (by decide) rfl rfl ?_
        refine vv_iinc (u := (nI (i + 1))) (lv' := [(0, .ref o), (1, .ref (va j)), (2, .int (nI (c + 1))), (3, .int (nI (i + 1))), (4, .ref (ga (X.2.1 13 (4 * j + i))))]) hx dX3_markSegments_45 rfl (nI_1 _) (by decide) rfl rfl ?_
        refine vv_goto (tgt := 4) hx dX3_markSegments_48 (by decide) ?_
        have hM : mkM X j i (X.2.1 13 (4 * j + i)) = false := by
          cases hM : mkM X j i (X.2.1 13 (4 * j + i)) with
          | false => rfl
          | true => exact absurd (hl1 hM) c_30
        exact vv_sub [0, 1, 2, 3] rfl (ih (i + 1) (c + 1) _ (by omega) (hO.put hsgK (inj i hi)) (by rw [mkM_i, cnt_or1 h6 hM]; omega))
set_option maxRecDepth 100000 in
set_option maxHeartbeats 4000000 in
theorem c_X3_markSegments {S : mm_H} {X : xx_X} {W : Nat → Nat → Nat} {o nw sf vs cn : Nat} {va ga : Nat → Nat} (hL : Rel S X W o nw sf vs cn va ga) {j : Nat} {T : mm_H} (hj : j < X.1 10) (hh : heldN X j = true) (hcn : cn < 1000000) (hO : mkO (mm_sI S o 11 (nI (cn + 1))) T X ga cn (mkM X j 0)) : MI yX3_markSegments cX3_markSegments 5 0 0 0 0 [.ref o, .ref (va j)] T (fun z T' => ∃ c, z = nI c ∧ c + cntN (mkM X j 0) (X.1 6) = cntN (mkM X (j + 1) 0) (X.1 6) ∧ mkO (mm_sI S o 11 (nI (cn + 1))) T' X ga cn (mkM X (j + 1) 0)) := by
  refine MA.of (by decide) (Nat.le_of_ble_eq_true rfl) ?_
  intro x hx he hini
  have hx : vv_C x cX3_markSegments RX3 0 0 5 := hx
  show vv_V x 0 0 0 [(0, .ref o), (1, .ref (va j))] [] T
  refine vv_iconst (v := nI 0) hx dX3_markSegments_0 (by decide) ?_
  refine vv_istore_n (lv' := [(0, .ref o), (1, .ref (va j)), (2, .int (nI (0)))]) hx dX3_markSegments_1 (by decide) rfl rfl ?_
  refine vv_iconst (v := nI 0) hx dX3_markSegments_2 (by decide) ?_
  refine vv_istore_n (lv' := [(0, .ref o), (1, .ref (va j)), (2, .int (nI (0))), (3, .int (nI (0)))]) hx dX3_markSegments_3 (by decide) rfl rfl ?_
  exact l_X3_markSegments hL hj hh hcn hx he (X.2.1 12 j) 0 0 T (by omega) hO (by omega)
set_option maxRecDepth 100000 in
set_option maxHeartbeats 4000000 in
theorem l_X3_countSegmentsThere {S : mm_H} {X : xx_X} {W : Nat → Nat → Nat} {o nw sf vs cn : Nat} {va ga : Nat → Nat} (hL : Rel S X W o nw sf vs cn va ga) (hcn : cn < 1000000) {x : vv_X} (hx : vv_C x cX3_countSegmentsThere RX3 1 24 3) (he : vv_E x (some .int) (fun zz S' => ∃ r0 : Int32, zz = some (.int r0) ∧ (fun z T' => z = nI (cntN (thereB X) (X.1 6)) ∧ Rel T' X W o nw sf vs (cn + 1) va ga) r0 S')) : ∀ d k T, k + d = X.1 10 → mkO (mm_sI S o 11 (nI (cn + 1))) T X ga cn (mkM X k 0) → vv_V x 0 0 14 [(0, .ref o), (1, .int (nI (cntN (mkM X k 0) (X.1 6)))), (2, .int (nI (k)))] [] T := by
  obtain ⟨⟨hoK, hoP0, hoP1, hoP2, hoI3, hoP4, hoP5, hoI6, hoI7, hoI8, hoI9, hoI10, hoI11⟩, hns, hnw, hsf, hvK, hvL, hvs, hview, hsegs, hUQ, hXI⟩ := id hL
  obtain ⟨hk, hbd, hw0, hc9, hm3, hcs, hheld⟩ := id hXI
  obtain ⟨k0, k1, k2, k3, k4, k5, k6, k7, k8, k9, k10, k11, k12, k13⟩ := id hk
  have oI : ∀ {T M}, mkO (mm_sI S o 11 (nI (cn + 1))) T X ga cn M → ∀ f, f ≠ 11 → mm_I T o f = mm_I S o f := fun hO f hf => by rw [hO.2.2.2.1 o f (Or.inl (by show mm_K S o ≠ 1; omega)), mm_I_k hf]
  intro d
  induction d with
  | zero =>
    intro k T hd hO
    have hle := cntN_le (mkM X k 0) (X.1 6)
    have hoKT : mm_K T o = 4 := (hO.1 _).trans hoK
    have hoI3T : mm_I T o 3 = nI (X.1 10) := (oI hO 3 (by decide)).trans hoI3
    refine vv_iload_n hx dX3_countSegmentsThere_14 rfl ?_
    refine vv_aload_n hx dX3_countSegmentsThere_15 rfl ?_
    refine cc_geti (e0 := nI (X.1 10)) 3 hx dX3_countSegmentsThere_16 kf_X3_25 kl_3 (by decide) rfl hoKT hoI3T ?_
    refine vv_icmp_geN (tgt := 50) hx dX3_countSegmentsThere_19 (by decide) (by omega) (by omega) (fun c_19 => ?_) (fun c_19 => ?_)
    · refine vv_iload_n hx dX3_countSegmentsThere_50 rfl ?_
      exact vv_iret hx he dX3_countSegmentsThere_51 ⟨_, rfl, by rw [show k = X.1 10 by omega, mkM_e], hL.mk hO⟩
    · exfalso; omega
  | succ d ih =>
    intro k T hd hO
    have hle := cntN_le (mkM X k 0) (X.1 6)
    have hoKT : mm_K T o = 4 := (hO.1 _).trans hoK
    have hoI3T : mm_I T o 3 = nI (X.1 10) := (oI hO 3 (by decide)).trans hoI3
    have hoP2T : mm_P T o 2 = some vs := (hO.2.1 _ 2).trans hoP2
    have hvKT : mm_K T vs = 8 := (hO.1 _).trans hvK
    have hvLT : mm_L T vs = 150 := (hO.2.2.1 _).trans hvL
    have hvk : mm_P T vs k = bif heldN X k then some (va k) else none := by rw [hO.2.1 vs k]; show mm_P S vs k = _; rw [hvs k (by omega), decide_eq_true (show k < X.1 10 by omega), Bool.true_and]
    refine vv_iload_n hx dX3_countSegmentsThere_14 rfl ?_
    refine vv_aload_n hx dX3_countSegmentsThere_15 rfl ?_
    refine cc_geti (e0 := nI (X.1 10)) 3 hx dX3_countSegmentsThere_16 kf_X3_25 kl_3 (by decide) rfl hoKT hoI3T ?_
    refine vv_icmp_geN (tgt := 50) hx dX3_countSegmentsThere_19 (by decide) (by omega) (by omega) (fun c_19 => ?_) (fun c_19 => ?_)
    · exfalso; omega
    · refine vv_aload_n hx dX3_countSegmentsThere_22 rfl ?_
      refine vv_getr (b := vs) 2 hx dX3_countSegmentsThere_23 kf_X3_21 kl_3 (by decide) rfl hoKT hoP2T ?_
      refine vv_iload_n hx dX3_countSegmentsThere_26 rfl ?_
      refine vv_aald (j := 2) hx dX3_countSegmentsThere_27 hvKT (by decide) (fun _ => rfl) rfl (by rw [hvLT]; omega) (by rw [hvLT]; decide) ?_
      rw [hvk]
      cases hh : heldN X k with
      | false =>
        show vv_V x 0 0 _ _ (.null :: _) T
        refine vv_ifnullN (tgt := 44) hx dX3_countSegmentsThere_28 (by decide) ?_
        refine vv_iinc (u := (nI (k + 1))) (lv' := [(0, .ref o), (1, .int (nI (cntN (mkM X k 0) (X.1 6)))), (2, .int (nI (k + 1)))]) hx dX3_countSegmentsThere_44 rfl (nI_1 _) (by decide) rfl rfl ?_
        refine vv_goto (tgt := 14) hx dX3_countSegmentsThere_47 (by decide) ?_
        have h9 := ih (k + 1) T (by omega) (by rw [← mkM_n hh]; exact hO)
        rw [← mkM_n hh] at h9
        exact h9
      | true =>
        show vv_V x 0 0 _ _ (.ref (va k) :: _) T
        rw [hh] at hvk
        refine vv_ifnull hx dX3_countSegmentsThere_28 ?_
        refine vv_iload_n hx dX3_countSegmentsThere_31 rfl ?_
        refine vv_aload_n hx dX3_countSegmentsThere_32 rfl ?_
        refine vv_aload_n hx dX3_countSegmentsThere_33 rfl ?_
        refine vv_getr (b := vs) 2 hx dX3_countSegmentsThere_34 kf_X3_21 kl_3 (by decide) rfl hoKT hoP2T ?_
        refine vv_iload_n hx dX3_countSegmentsThere_37 rfl ?_
        refine vv_aald (j := 2) hx dX3_countSegmentsThere_38 hvKT (by decide) (fun _ => rfl) rfl (by rw [hvLT]; omega) (by rw [hvLT]; decide) ?_
        rw [hvk]
        show vv_V x 0 0 _ _ (.ref (va k) :: _) T
        refine vv_callV (As := [.ref (va k)]) hx dX3_countSegmentsThere_39 km_X3_206 kq_X3_markSegments ki_X3_markSegments ks_X3_markSegments kl_3 hoKT (c_X3_markSegments hL (by omega) hh hcn hO) rfl rfl (Nat.le_of_ble_eq_true rfl) (by decide) (by decide) rfl rfl (vv_ci fun z T' hz => ?_)
        obtain ⟨c, rfl, hc, hO⟩ := hz
        have hle := cntN_le (mkM X (k + 1) 0) (X.1 6)
        refine vv_iaddN hx dX3_countSegmentsThere_42 ?_
        refine vv_istore_n (lv' := [(0, .ref o), (1, .int (nI ((cntN (mkM X k 0) (X.1 6)) + c))), (2, .int (nI (k)))]) hx dX3_countSegmentsThere_43 (by decide) rfl rfl ?_
        refine vv_iinc (u := (nI (k + 1))) (lv' := [(0, .ref o), (1, .int (nI ((cntN (mkM X k 0) (X.1 6)) + c))), (2, .int (nI (k + 1)))]) hx dX3_countSegmentsThere_44 rfl (nI_1 _) (by decide) rfl rfl ?_
        refine vv_goto (tgt := 14) hx dX3_countSegmentsThere_47 (by decide) ?_
        have h9 := ih (k + 1) T' (by omega) hO
        rw [← hc, Nat.add_comm] at h9
        exact h9
theorem cnt_none {f : Nat → Bool} : ∀ {n : Nat}, (∀ i, i < n → f i = false) → cntN f n = 0
  | 0, _ => rfl
  | n + 1, h => by rw [cntN_f (h n (by omega)), cnt_none (fun i hi => h i (by omega))]
set_option maxRecDepth 100000 in
set_option maxHeartbeats 4000000 in
theorem c_X3_countSegmentsThere {S : mm_H} {X : xx_X} {W : Nat → Nat → Nat} {o nw sf vs cn : Nat} {va ga : Nat → Nat} (hL : Rel S X W o nw sf vs cn va ga) (hcn : cn < 1000000) : MI yX3_countSegmentsThere cX3_countSegmentsThere 3 1 24 0 0 [.ref o] S (fun z T' => z = nI (cntN (thereB X) (X.1 6)) ∧ Rel T' X W o nw sf vs (cn + 1) va ga) := by
  refine MA.of (by decide) (Nat.le_of_ble_eq_true rfl) ?_
  intro x hx he hini
  have hx : vv_C x cX3_countSegmentsThere RX3 1 24 3 := hx
  show vv_V x 0 0 0 [(0, .ref o)] [] S
  obtain ⟨⟨hoK, hoP0, hoP1, hoP2, hoI3, hoP4, hoP5, hoI6, hoI7, hoI8, hoI9, hoI10, hoI11⟩, hns, hnw, hsf, hvK, hvL, hvs, hview, hsegs, hUQ, hXI⟩ := id hL
  obtain ⟨hk, hbd, hw0, hc9, hm3, hcs, hheld⟩ := id hXI
  obtain ⟨k0, k1, k2, k3, k4, k5, k6, k7, k8, k9, k10, k11, k12, k13⟩ := id hk
  refine vv_aload_n hx dX3_countSegmentsThere_0 rfl ?_
  refine vv_dup hx dX3_countSegmentsThere_1 rfl ?_
  refine cc_geti (e0 := nI (cn)) 11 hx dX3_countSegmentsThere_2 kf_X3_44 kl_3 (by decide) rfl hoK hoI11 ?_
  refine vv_iconst (v := nI 1) hx dX3_countSegmentsThere_5 (by decide) ?_
  refine vv_iaddN hx dX3_countSegmentsThere_6 ?_
  refine vv_puti 11 hx dX3_countSegmentsThere_7 kf_X3_44 kl_3 (by decide) rfl rfl rfl hoK ?_
  refine vv_iconst (v := nI 0) hx dX3_countSegmentsThere_10 (by decide) ?_
  refine vv_istore_n (lv' := [(0, .ref o), (1, .int (nI (0)))]) hx dX3_countSegmentsThere_11 (by decide) rfl rfl ?_
  refine vv_iconst (v := nI 0) hx dX3_countSegmentsThere_12 (by decide) ?_
  refine vv_istore_n (lv' := [(0, .ref o), (1, .int (nI (0))), (2, .int (nI (0)))]) hx dX3_countSegmentsThere_13 (by decide) rfl rfl ?_
  have h9 := l_X3_countSegmentsThere hL hcn hx he (X.1 10) 0 (mm_sI S o 11 (nI (cn + 1))) (by omega) ⟨fun _ => rfl, fun _ _ => rfl, fun _ => rfl, fun _ _ _ => rfl, fun v hv q i hi => by
    obtain ⟨⟨g1, -⟩, lc, g2, g3⟩ := hsegs v hv q i hi
    exact ⟨lc, by rw [mm_I_a (fun e => by rw [e] at g1; omega)]; exact g2, fun q => by simp [mkM, anyN] at q, fun _ => g3⟩⟩
  rw [show cntN (mkM X 0 0) (X.1 6) = 0 from cnt_none (fun s _ => by simp [mkM, anyN])] at h9
  exact h9
set_option maxRecDepth 100000 in
set_option maxHeartbeats 4000000 in
theorem c_X3_told {S : mm_H} {X : xx_X} {W : Nat → Nat → Nat} {o nw sf vs cn : Nat} {va ga : Nat → Nat} (hL : Rel S X W o nw sf vs cn va ga) (a : Int32) (hcn : cn < 1000000) : MI yX3_told cX3_told 2 2 46 0 0 [.ref o, .int (a)] S (fun z S' => z = sp_told X a ∧ ∃ cn', cn' ≤ cn + 1 ∧ Rel S' X W o nw sf vs cn' va ga) := by
  refine MA.of (by decide) (Nat.le_of_ble_eq_true rfl) ?_
  intro x hx he hini
  have hx : vv_C x cX3_told RX3 2 46 2 := hx
  show vv_V x 0 0 0 [(0, .ref o), (1, .int (a))] [] S
  obtain ⟨⟨hoK, hoP0, hoP1, hoP2, hoI3, hoP4, hoP5, hoI6, hoI7, hoI8, hoI9, hoI10, hoI11⟩, hns, hnw, hsf, hvK, hvL, hvs, hview, hsegs, hUQ, hXI⟩ := id hL
  obtain ⟨hk, hbd, hw0, hc9, hm3, hcs, hheld⟩ := id hXI
  obtain ⟨k0, k1, k2, k3, k4, k5, k6, k7, k8, k9, k10, k11, k12, k13⟩ := id hk
  obtain ⟨hmK, hmI, mc, mw, hmP1, hmP2, hmKc, hmLc, hmKw, hmLw, hmC, hmW, hmn, hmch, hmwd⟩ := id hnw
  obtain ⟨hfK, hfI, fc, fw, hfP1, hfP2, hfKc, hfLc, hfKw, hfLw, hfC, hfW, hfn, hfch, hfwd⟩ := id hsf
  have hv5 := hview _ k3 held_lt.1
  have hv6 := hview _ k4 held_lt.2
  refine vv_iload_n hx dX3_told_0 rfl ?_
  rcases sw_cases (n := 8) (a) (by decide) with c_1 | ⟨j, hj, c_1⟩
  · refine vv_tabOut (tgt := 100) hx dX3_told_1 (by first | exact c_1 | (have h9 := c_1; omega)) (by decide) ?_
    refine vv_bipush (v := -3) hx dX3_told_100 (by decide) ?_
    exact vv_iret hx he dX3_told_102 ⟨_, rfl, by unfold sp_told; rw [if_neg (by omega), if_neg (by omega), if_neg (by omega), if_neg (by omega), if_neg (by omega), if_neg (by omega), if_neg (by omega), if_neg (by omega)], cn, Nat.le_succ _, hL⟩
  · rcases (show j = 0 ∨ j = 1 ∨ j = 2 ∨ j = 3 ∨ j = 4 ∨ j = 5 ∨ j = 6 ∨ j = 7 by omega) with rfl | rfl | rfl | rfl | rfl | rfl | rfl | rfl
    · refine vv_tabIn (off := 47) (tgt := 48) hx dX3_told_1 (by rw [c_1]; decide) (by rw [c_1]; decide) (by rw [c_1]; decide) (by decide) ?_
      refine vv_aload_n hx dX3_told_48 rfl ?_
      refine vv_getr (b := va (X.1 15)) 4 hx dX3_told_49 kf_X3_52 kl_3 (by decide) rfl hoK hoP4 ?_
      refine cc_getiN (e0 := nI (X.1 15)) 0 hx dX3_told_52 kf_X3_104 kl_2 (by decide) rfl hv5.1 hv5.2.1 ?_
      exact vv_iret hx he dX3_told_55 ⟨_, rfl, by unfold sp_told; rw [c_1]; rfl, cn, Nat.le_succ _, hL⟩
    · refine vv_tabIn (off := 55) (tgt := 56) hx dX3_told_1 (by rw [c_1]; decide) (by rw [c_1]; decide) (by rw [c_1]; decide) (by decide) ?_
      refine vv_aload_n hx dX3_told_56 rfl ?_
      refine vv_getr (b := va (X.1 16)) 5 hx dX3_told_57 kf_X3_56 kl_3 (by decide) rfl hoK hoP5 ?_
      refine cc_getiN (e0 := nI (X.1 16)) 0 hx dX3_told_60 kf_X3_104 kl_2 (by decide) rfl hv6.1 hv6.2.1 ?_
      exact vv_iret hx he dX3_told_63 ⟨_, rfl, by unfold sp_told; rw [c_1]; rfl, cn, Nat.le_succ _, hL⟩
    · refine vv_tabIn (off := 63) (tgt := 64) hx dX3_told_1 (by rw [c_1]; decide) (by rw [c_1]; decide) (by rw [c_1]; decide) (by decide) ?_
      refine vv_aload_n hx dX3_told_64 rfl ?_
      refine vv_getr (b := sf) 1 hx dX3_told_65 kf_X3_16 kl_3 (by decide) rfl hoK hoP1 ?_
      refine cc_getiN (e0 := nI (X.1 17)) 0 hx dX3_told_68 kf_X3_84 kl_1 (by decide) rfl hfK hfI ?_
      exact vv_iret hx he dX3_told_71 ⟨_, rfl, by unfold sp_told; rw [c_1]; rfl, cn, Nat.le_succ _, hL⟩
    · refine vv_tabIn (off := 71) (tgt := 72) hx dX3_told_1 (by rw [c_1]; decide) (by rw [c_1]; decide) (by rw [c_1]; decide) (by decide) ?_
      refine vv_aload_n hx dX3_told_72 rfl ?_
      refine vv_getr (b := nw) 0 hx dX3_told_73 kf_X3_10 kl_3 (by decide) rfl hoK hoP0 ?_
      refine cc_getiN (e0 := nI (X.1 0)) 0 hx dX3_told_76 kf_X3_84 kl_1 (by decide) rfl hmK hmI ?_
      exact vv_iret hx he dX3_told_79 ⟨_, rfl, by unfold sp_told; rw [c_1]; rfl, cn, Nat.le_succ _, hL⟩
    · refine vv_tabIn (off := 79) (tgt := 80) hx dX3_told_1 (by rw [c_1]; decide) (by rw [c_1]; decide) (by rw [c_1]; decide) (by decide) ?_
      refine vv_aload_n hx dX3_told_80 rfl ?_
      refine cc_geti (e0 := nI (X.1 9)) 7 hx dX3_told_81 kf_X3_32 kl_3 (by decide) rfl hoK hoI7 ?_
      exact vv_iret hx he dX3_told_84 ⟨_, rfl, by unfold sp_told; rw [c_1]; rfl, cn, Nat.le_succ _, hL⟩
    · refine vv_tabIn (off := 84) (tgt := 85) hx dX3_told_1 (by rw [c_1]; decide) (by rw [c_1]; decide) (by rw [c_1]; decide) (by decide) ?_
      refine vv_aload_n hx dX3_told_85 rfl ?_
      refine vv_callV (As := []) hx dX3_told_86 km_X3_147 kq_X3_countSegmentsThere ki_X3_countSegmentsThere ks_X3_countSegmentsThere kl_3 hoK (c_X3_countSegmentsThere hL hcn) rfl rfl (Nat.le_of_ble_eq_true rfl) (by decide) (by decide) rfl rfl (vv_ci fun z S hz => ?_)
      exact vv_iret hx he dX3_told_89 ⟨_, rfl, by unfold sp_told; rw [c_1]; exact hz.1, cn + 1, Nat.le_refl _, hz.2⟩
    · refine vv_tabIn (off := 89) (tgt := 90) hx dX3_told_1 (by rw [c_1]; decide) (by rw [c_1]; decide) (by rw [c_1]; decide) (by decide) ?_
      refine vv_aload_n hx dX3_told_90 rfl ?_
      refine cc_geti (e0 := nI (X.1 6)) 6 hx dX3_told_91 kf_X3_29 kl_3 (by decide) rfl hoK hoI6 ?_
      exact vv_iret hx he dX3_told_94 ⟨_, rfl, by unfold sp_told; rw [c_1]; rfl, cn, Nat.le_succ _, hL⟩
    · refine vv_tabIn (off := 94) (tgt := 95) hx dX3_told_1 (by rw [c_1]; decide) (by rw [c_1]; decide) (by rw [c_1]; decide) (by decide) ?_
      refine vv_aload_n hx dX3_told_95 rfl ?_
      refine vv_callV (As := []) hx dX3_told_96 km_X3_151 kq_X3_countHeld ki_X3_countHeld ks_X3_countHeld kl_3 hoK (c_X3_countHeld hL) rfl rfl (Nat.le_of_ble_eq_true rfl) (by decide) (by decide) rfl rfl (vv_cd ?_)
      exact vv_iret hx he dX3_told_99 ⟨_, rfl, by unfold sp_told; rw [c_1]; rfl, cn, Nat.le_succ _, hL⟩
