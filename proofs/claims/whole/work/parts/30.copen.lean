set_option maxRecDepth 100000 in
set_option maxHeartbeats 4000000 in
theorem l_X3_letGo {S : mm_H} {X : xx_X} {W : Nat → Nat → Nat} {o nw sf vs cn : Nat} {va ga : Nat → Nat} (hL : RelP S X W o nw sf vs cn va ga) {x : vv_X} {post : Option Value → mm_H → Prop} (hx : vv_C x cX3_letGo RX3 0 0 3) (he : vv_E x none post) (hp : ∀ T, vsO S T vs → (∀ v, v < 150 → mm_P T vs v = bif decide (v < X.1 10) && heldN X v then some (va v) else none) → post none T) : ∀ d i T, vsO S T vs → (∀ v, v < 150 → mm_P T vs v = if v < i then (bif decide (v < X.1 10) && heldN X v then some (va v) else none) else mm_P S vs v) → i + d = X.1 10 → vv_V x 0 0 2 [(0, .ref o), (1, .int (nI (i)))] [] T := by
  obtain ⟨⟨hoK, hoP0, hoP1, hoP2, hoI3, hoP4, hoP5, hoI6, hoI7, hoI8, hoI9, hoI10, hoI11⟩, hns, hnw, hsf, hvK, hvL, hvp, hview, hsegs, hUQ, hXI⟩ := id hL
  obtain ⟨hk, hbd, hw0, hc9, hm3, hcs, hheld⟩ := id hXI
  obtain ⟨k0, k1, k2, k3, k4, k5, k6, k7, k8, k9, k10, k11, k12, k13⟩ := id hk
  have hKL := (hview _ k3 held_lt.1).1
  have hIL := (hview _ k3 held_lt.1).2.1
  have hKC := (hview _ k4 held_lt.2).1
  have hIC := (hview _ k4 held_lt.2).2.1
  have no : o ≠ vs := fun e => by rw [e] at hoK; omega
  intro d
  induction d with
  | zero =>
    intro i T hO hT hd
    have hoI3T : mm_I T o 3 = nI (X.1 10) := (hO.2.1 o 3).trans hoI3
    have hoKT : mm_K T o = 4 := (hO.1 o).trans hoK
    refine vv_iload_n hx dX3_letGo_2 rfl ?_
    refine vv_aload_n hx dX3_letGo_3 rfl ?_
    refine cc_geti (e0 := nI (X.1 10)) 3 hx dX3_letGo_4 kf_X3_25 kl_3 (by decide) rfl hoKT hoI3T ?_
    refine vv_icmp_geN (tgt := 63) hx dX3_letGo_7 (by decide) (by omega) (by omega) (fun c_7 => ?_) (fun c_7 => ?_)
    · exact vv_vret hx he dX3_letGo_63 (hp T hO (fun v hv => by
  rw [hT v hv]
  by_cases q : v < i
  · rw [if_pos q]
  · rw [if_neg q]
    rcases (hvp v hv).2 with h9 | h9
    · rw [h9, decide_eq_false (by omega)]; rfl
    · omega))
    · exfalso; omega
  | succ d ih =>
    intro i T hO hT hd
    have hoI3T : mm_I T o 3 = nI (X.1 10) := (hO.2.1 o 3).trans hoI3
    have hoKT : mm_K T o = 4 := (hO.1 o).trans hoK
    have hoP2T : mm_P T o 2 = some vs := (hO.2.2.2 o 2 no).trans hoP2
    have hoP4T : mm_P T o 4 = some (va (X.1 15)) := (hO.2.2.2 o 4 no).trans hoP4
    have hoP5T : mm_P T o 5 = some (va (X.1 16)) := (hO.2.2.2 o 5 no).trans hoP5
    have hvKT : mm_K T vs = 8 := (hO.1 vs).trans hvK
    have hvLT : mm_L T vs = 150 := (hO.2.2.1 vs).trans hvL
    have hKLT := (hO.1 _).trans hKL
    have hILT := (hO.2.1 _ 0).trans hIL
    have hKCT := (hO.1 _).trans hKC
    have hICT := (hO.2.1 _ 0).trans hIC
    have hTi : mm_P T vs i = mm_P S vs i := by rw [hT i (by omega), if_neg (Nat.lt_irrefl i)]
    have hopn := hbd 14 i
    simp only [bdF] at hopn
    have next : ∀ T', vsO S T' vs → (∀ v, v < 150 → v ≠ i → mm_P T' vs v = mm_P T vs v) → mm_P T' vs i = (bif heldN X i then some (va i) else none) → (∀ v, v < 150 → mm_P T' vs v = if v < i + 1 then (bif decide (v < X.1 10) && heldN X v then some (va v) else none) else mm_P S vs v) := fun T' _ h1 h2 v hv => by
      by_cases e : v = i
      · subst e; rw [h2, if_pos (by omega), decide_eq_true (by omega), Bool.true_and]
      · rw [h1 v hv e, hT v hv]
        by_cases q : v < i
        · rw [if_pos q, if_pos (by omega)]
        · rw [if_neg q, if_neg (by omega)]
    refine vv_iload_n hx dX3_letGo_2 rfl ?_
    refine vv_aload_n hx dX3_letGo_3 rfl ?_
    refine cc_geti (e0 := nI (X.1 10)) 3 hx dX3_letGo_4 kf_X3_25 kl_3 (by decide) rfl hoKT hoI3T ?_
    refine vv_icmp_geN (tgt := 63) hx dX3_letGo_7 (by decide) (by omega) (by omega) (fun c_7 => ?_) (fun c_7 => ?_)
    · exfalso; omega
    · refine vv_aload_n hx dX3_letGo_10 rfl ?_
      refine vv_getr (b := vs) 2 hx dX3_letGo_11 kf_X3_21 kl_3 (by decide) rfl hoKT hoP2T ?_
      refine vv_iload_n hx dX3_letGo_14 rfl ?_
      refine vv_aald (j := 2) hx dX3_letGo_15 hvKT (by decide) (fun _ => rfl) rfl (by rw [hvLT]; omega) (by rw [hvLT]; decide) ?_
      rw [hTi]
      rcases (hvp i (by omega)).2 with hn | ⟨-, hn, hnK, hnI⟩
      · have hnh : heldN X i = false := by
          cases hq : heldN X i with
          | false => rfl
          | true => exact absurd (hn.symm.trans ((hvp i (by omega)).1 (by omega) hq)) (by simp)
        rw [hn]
        show vv_V x 0 0 _ _ (.null :: _) T
        refine vv_astore_nN (lv' := [(0, .ref o), (1, .int (nI (i))), (2, .null)]) hx dX3_letGo_16 (by decide) rfl rfl ?_
        refine vv_aload_nN hx dX3_letGo_17 rfl ?_
        refine vv_ifnullN (tgt := 57) hx dX3_letGo_18 (by decide) ?_
        refine vv_iinc (u := (nI (i + 1))) (lv' := [(0, .ref o), (1, .int (nI (i + 1))), (2, .null)]) hx dX3_letGo_57 rfl (nI_1 _) (by decide) rfl rfl ?_
        refine vv_goto (tgt := 2) hx dX3_letGo_60 (by decide) ?_
        exact vv_sub [0, 1] rfl (ih (i + 1) T hO (next T hO (fun _ _ _ => rfl) (by rw [hTi, hn, hnh]; rfl)) (by omega))
      · rw [hn]
        have hnKT : mm_K T (va i) = 3 := (hO.1 _).trans hnK
        have hnIT : mm_I T (va i) 3 = nI (X.2.1 14 i) := (hO.2.1 _ 3).trans hnI
        show vv_V x 0 0 _ _ (.ref (va i) :: _) T
        refine vv_astore_n (lv' := [(0, .ref o), (1, .int (nI (i))), (2, .ref (va i))]) hx dX3_letGo_16 (by decide) rfl rfl ?_
        refine vv_aload_n hx dX3_letGo_17 rfl ?_
        refine vv_ifnull hx dX3_letGo_18 ?_
        refine vv_aload_n hx dX3_letGo_21 rfl ?_
        refine cc_getiN (e0 := nI (X.2.1 14 i)) 3 hx dX3_letGo_22 kf_X3_114 kl_2 (by decide) rfl hnKT hnIT ?_
        refine vv_if_neN (tgt := 57) hx dX3_letGo_25 (by decide) (by omega) (fun c_25 => ?_) (fun c_25 => ?_)
        · refine vv_iinc (u := (nI (i + 1))) (lv' := [(0, .ref o), (1, .int (nI (i + 1))), (2, .ref (va i))]) hx dX3_letGo_57 rfl (nI_1 _) (by decide) rfl rfl ?_
          refine vv_goto (tgt := 2) hx dX3_letGo_60 (by decide) ?_
          exact vv_sub [0, 1] rfl (ih (i + 1) T hO (next T hO (fun _ _ _ => rfl) (by rw [hTi, hn, show heldN X i = true from by unfold heldN; simp only [Bool.or_eq_true, decide_eq_true_eq]; omega]; rfl)) (by omega))
        · refine vv_iload_n hx dX3_letGo_28 rfl ?_
          refine vv_aload_n hx dX3_letGo_29 rfl ?_
          refine vv_getr (b := va (X.1 15)) 4 hx dX3_letGo_30 kf_X3_52 kl_3 (by decide) rfl hoKT hoP4T ?_
          refine cc_getiN (e0 := nI (X.1 15)) 0 hx dX3_letGo_33 kf_X3_104 kl_2 (by decide) rfl hKLT hILT ?_
          refine vv_icmp_eqN (tgt := 57) hx dX3_letGo_36 (by decide) (by omega) (by omega) (fun c_36 => ?_) (fun c_36 => ?_)
          · refine vv_iinc (u := (nI (i + 1))) (lv' := [(0, .ref o), (1, .int (nI (i + 1))), (2, .ref (va i))]) hx dX3_letGo_57 rfl (nI_1 _) (by decide) rfl rfl ?_
            refine vv_goto (tgt := 2) hx dX3_letGo_60 (by decide) ?_
            exact vv_sub [0, 1] rfl (ih (i + 1) T hO (next T hO (fun _ _ _ => rfl) (by rw [hTi, hn, show heldN X i = true from by unfold heldN; simp only [Bool.or_eq_true, decide_eq_true_eq]; omega]; rfl)) (by omega))
          · refine vv_iload_n hx dX3_letGo_39 rfl ?_
            refine vv_aload_n hx dX3_letGo_40 rfl ?_
            refine vv_getr (b := va (X.1 16)) 5 hx dX3_letGo_41 kf_X3_56 kl_3 (by decide) rfl hoKT hoP5T ?_
            refine cc_getiN (e0 := nI (X.1 16)) 0 hx dX3_letGo_44 kf_X3_104 kl_2 (by decide) rfl hKCT hICT ?_
            refine vv_icmp_eqN (tgt := 57) hx dX3_letGo_47 (by decide) (by omega) (by omega) (fun c_47 => ?_) (fun c_47 => ?_)
            · refine vv_iinc (u := (nI (i + 1))) (lv' := [(0, .ref o), (1, .int (nI (i + 1))), (2, .ref (va i))]) hx dX3_letGo_57 rfl (nI_1 _) (by decide) rfl rfl ?_
              refine vv_goto (tgt := 2) hx dX3_letGo_60 (by decide) ?_
              exact vv_sub [0, 1] rfl (ih (i + 1) T hO (next T hO (fun _ _ _ => rfl) (by rw [hTi, hn, show heldN X i = true from by unfold heldN; simp only [Bool.or_eq_true, decide_eq_true_eq]; omega]; rfl)) (by omega))
            · refine vv_aload_n hx dX3_letGo_50 rfl ?_
              refine vv_getr (b := vs) 2 hx dX3_letGo_51 kf_X3_21 kl_3 (by decide) rfl hoKT hoP2T ?_
              refine vv_iload_n hx dX3_letGo_54 rfl ?_
              refine vv_null hx dX3_letGo_55 ?_
              refine vv_aastN (j := 2) hx dX3_letGo_56 hvKT (by decide) (fun _ => rfl) rfl (by rw [hvLT]; omega) (by rw [hvLT]; decide) ?_
              refine vv_iinc (u := (nI (i + 1))) (lv' := [(0, .ref o), (1, .int (nI (i + 1))), (2, .ref (va i))]) hx dX3_letGo_57 rfl (nI_1 _) (by decide) rfl rfl ?_
              refine vv_goto (tgt := 2) hx dX3_letGo_60 (by decide) ?_
              refine vv_sub [0, 1] rfl (ih (i + 1) _ ⟨hO.1, hO.2.1, hO.2.2.1, fun a k ha => by rw [mm_P_sP, if_neg (fun q => ha q.1)]; exact hO.2.2.2 a k ha⟩ (next _ ⟨hO.1, hO.2.1, hO.2.2.1, fun a k ha => by rw [mm_P_sP, if_neg (fun q => ha q.1)]; exact hO.2.2.2 a k ha⟩ (fun v _ hv => by rw [mm_P_sP, if_neg (fun q => hv q.2)]) ?_) (by omega))
              rw [mm_P_sP, if_pos ⟨rfl, rfl⟩, show heldN X i = false from by unfold heldN; simp only [Bool.or_eq_false_iff, decide_eq_false_iff_not]; omega]
              rfl
set_option maxRecDepth 100000 in
set_option maxHeartbeats 4000000 in
theorem c_X3_letGo {S : mm_H} {X : xx_X} {W : Nat → Nat → Nat} {o nw sf vs cn : Nat} {va ga : Nat → Nat} (hL : RelP S X W o nw sf vs cn va ga) : MV yX3_letGo cX3_letGo 3 0 0 0 0 [.ref o] S (fun S' => Rel S' X W o nw sf vs cn va ga ∧ vsO S S' vs) := by
  refine MA.of (by decide) (Nat.le_of_ble_eq_true rfl) ?_
  intro x hx he hini
  have hx : vv_C x cX3_letGo RX3 0 0 3 := hx
  show vv_V x 0 0 0 [(0, .ref o)] [] S
  refine vv_iconst (v := nI 0) hx dX3_letGo_0 (by decide) ?_
  refine vv_istore_n (lv' := [(0, .ref o), (1, .int (nI (0)))]) hx dX3_letGo_1 (by decide) rfl rfl ?_
  refine l_X3_letGo hL hx he (fun T hO hT => ⟨rfl, hL.go hO hT, hO⟩) (X.1 10) 0 S (vsO.refl S vs) (fun v hv => by rw [if_neg (by omega)]) (by omega)
set_option maxRecDepth 100000 in
set_option maxHeartbeats 4000000 in
theorem c_X3_open {S : mm_H} {X : xx_X} {W : Nat → Nat → Nat} {o nw sf vs cn : Nat} {va ga : Nat → Nat} (hL : Rel S X W o nw sf vs cn va ga) (v : Int32) (ho : ∀ j, X.2.1 14 j < 1000) : MI yX3_open cX3_open 3 1 21 0 0 [.ref o, .int (v)] S (fun z S' => z = (sp_open X v).1 ∧ Rel S' (sp_open X v).2 W o nw sf vs cn va ga) := by
  refine MA.of (by decide) (Nat.le_of_ble_eq_true rfl) ?_
  intro x hx he hini
  have hx : vv_C x cX3_open RX3 1 21 3 := hx
  show vv_V x 0 0 0 [(0, .ref o), (1, .int (v))] [] S
  obtain ⟨⟨hoK, hoP0, hoP1, hoP2, hoI3, hoP4, hoP5, hoI6, hoI7, hoI8, hoI9, hoI10, hoI11⟩, hns, hnw, hsf, hvK, hvL, hvs, hview, hsegs, hUQ, hXI⟩ := id hL
  obtain ⟨hk, hbd, hw0, hc9, hm3, hcs, hheld⟩ := id hXI
  obtain ⟨k0, k1, k2, k3, k4, k5, k6, k7, k8, k9, k10, k11, k12, k13⟩ := id hk
  refine vv_aload_n hx dX3_open_0 rfl ?_
  refine vv_iload_n hx dX3_open_1 rfl ?_
  refine vv_callV (As := [.int (v)]) hx dX3_open_2 km_X3_67 kq_X3_heldView ki_X3_heldView ks_X3_heldView kl_3 hoK (c_X3_heldView hL _) rfl rfl (Nat.le_of_ble_eq_true rfl) (by decide) (by decide) rfl rfl (vv_cdr ?_)
  cases hB : heldB X v with
  | false =>
    show vv_V x 0 0 _ _ (.null :: _) S
    refine vv_astore_nN (lv' := [(0, .ref o), (1, .int (v)), (2, .null)]) hx dX3_open_5 (by decide) rfl rfl ?_
    refine vv_aload_nN hx dX3_open_6 rfl ?_
    refine vv_ifnonnullN hx dX3_open_7 ?_
    refine vv_bipush (v := -2) hx dX3_open_10 (by decide) ?_
    exact vv_iret hx he dX3_open_12 ⟨_, rfl, by rw [show sp_open X v = (-2, X) from by simp [sp_open, hB]]; exact ⟨rfl, hL⟩⟩
  | true =>
    obtain ⟨j, hj, rfl, hh⟩ := heldB_true hB k1 k2
    have hoj := ho j
    have hjc : (nI j).toNatClampNeg = j := nI_clamp (by omega)
    obtain ⟨hvVK, hvV0, hvV3, ust, upr, hvP1, hvP2, hvn, hvf, hust, hprK, hprL, hprE⟩ := hview j hj hh
    obtain ⟨huK, huI, uc, uw, huP1, huP2, huKc, huLc, huKw, huLw, huC, huW, hun, huch, huwd⟩ := id hust
    show vv_V x 0 0 _ _ (.ref (va (nI j).toNatClampNeg) :: _) S
    rw [hjc]
    refine vv_astore_n (lv' := [(0, .ref o), (1, .int (nI (j))), (2, .ref (va j))]) hx dX3_open_5 (by decide) rfl rfl ?_
    refine vv_aload_n hx dX3_open_6 rfl ?_
    refine vv_ifnonnull (tgt := 13) hx dX3_open_7 (by decide) ?_
    refine vv_aload_n hx dX3_open_13 rfl ?_
    refine vv_dup hx dX3_open_14 rfl ?_
    refine cc_getiN (e0 := nI (X.2.1 14 j)) 3 hx dX3_open_15 kf_X3_114 kl_2 (by decide) rfl hvVK hvV3 ?_
    refine vv_iconst (v := nI 1) hx dX3_open_18 (by decide) ?_
    refine vv_iaddN hx dX3_open_19 ?_
    refine vv_putiN 3 hx dX3_open_20 kf_X3_114 kl_2 (by decide) rfl rfl rfl hvVK ?_
    refine vv_aload_n hx dX3_open_23 rfl ?_
    refine cc_getiN (e0 := nI ((X.2.1 14 j) + 1)) 3 hx dX3_open_24 kf_X3_114 kl_2 (by decide) rfl hvVK mm_I_s ?_
    exact vv_iret hx he dX3_open_27 ⟨_, rfl, by
  rw [show sp_open X (nI j) = (nI (X.2.1 14 j + 1), xA X 14 j (X.2.1 14 j + 1)) from by simp [sp_open, hB, hjc]]
  have hP := hL.op hj hh (m := X.2.1 14 j + 1) (by omega)
  refine ⟨rfl, hP.go (vsO.refl _ _) (fun u hu => ?_)⟩
  have e : heldN (xA X 14 j (X.2.1 14 j + 1)) u = heldN X u := by
    by_cases q : u = j
    · subst q; rw [hh]; unfold heldN; rw [xA_s]; simp
    · unfold heldN; rw [xA_j q]; rfl
  rw [e]
  exact hvs u hu⟩
set_option maxRecDepth 100000 in
set_option maxHeartbeats 4000000 in
theorem c_X3_close {S : mm_H} {X : xx_X} {W : Nat → Nat → Nat} {o nw sf vs cn : Nat} {va ga : Nat → Nat} (hL : Rel S X W o nw sf vs cn va ga) (v : Int32) : MI yX3_close cX3_close 3 1 22 0 0 [.ref o, .int (v)] S (fun z S' => z = (sp_close X v).1 ∧ Rel S' (sp_close X v).2 W o nw sf vs cn va ga) := by
  refine MA.of (by decide) (Nat.le_of_ble_eq_true rfl) ?_
  intro x hx he hini
  have hx : vv_C x cX3_close RX3 1 22 3 := hx
  show vv_V x 0 0 0 [(0, .ref o), (1, .int (v))] [] S
  obtain ⟨⟨hoK, hoP0, hoP1, hoP2, hoI3, hoP4, hoP5, hoI6, hoI7, hoI8, hoI9, hoI10, hoI11⟩, hns, hnw, hsf, hvK, hvL, hvs, hview, hsegs, hUQ, hXI⟩ := id hL
  obtain ⟨hk, hbd, hw0, hc9, hm3, hcs, hheld⟩ := id hXI
  obtain ⟨k0, k1, k2, k3, k4, k5, k6, k7, k8, k9, k10, k11, k12, k13⟩ := id hk
  refine vv_aload_n hx dX3_close_0 rfl ?_
  refine vv_iload_n hx dX3_close_1 rfl ?_
  refine vv_callV (As := [.int (v)]) hx dX3_close_2 km_X3_67 kq_X3_heldView ki_X3_heldView ks_X3_heldView kl_3 hoK (c_X3_heldView hL _) rfl rfl (Nat.le_of_ble_eq_true rfl) (by decide) (by decide) rfl rfl (vv_cdr ?_)
  cases hB : heldB X v with
  | false =>
    show vv_V x 0 0 _ _ (.null :: _) S
    refine vv_astore_nN (lv' := [(0, .ref o), (1, .int (v)), (2, .null)]) hx dX3_close_5 (by decide) rfl rfl ?_
    refine vv_aload_nN hx dX3_close_6 rfl ?_
    refine vv_ifnonnullN hx dX3_close_7 ?_
    refine vv_bipush (v := -2) hx dX3_close_10 (by decide) ?_
    exact vv_iret hx he dX3_close_12 ⟨_, rfl, by rw [show sp_close X v = (-2, X) from by simp [sp_close, hB]]; exact ⟨rfl, hL⟩⟩
  | true =>
    obtain ⟨j, hj, rfl, hh⟩ := heldB_true hB k1 k2
    have hopn := hbd 14 j
    simp only [bdF] at hopn
    have hjc : (nI j).toNatClampNeg = j := nI_clamp (by omega)
    obtain ⟨hvVK, hvV0, hvV3, ust, upr, hvP1, hvP2, hvn, hvf, hust, hprK, hprL, hprE⟩ := hview j hj hh
    obtain ⟨huK, huI, uc, uw, huP1, huP2, huKc, huLc, huKw, huLw, huC, huW, hun, huch, huwd⟩ := id hust
    show vv_V x 0 0 _ _ (.ref (va (nI j).toNatClampNeg) :: _) S
    rw [hjc]
    refine vv_astore_n (lv' := [(0, .ref o), (1, .int (nI (j))), (2, .ref (va j))]) hx dX3_close_5 (by decide) rfl rfl ?_
    refine vv_aload_n hx dX3_close_6 rfl ?_
    refine vv_ifnonnull (tgt := 13) hx dX3_close_7 (by decide) ?_
    refine vv_aload_n hx dX3_close_13 rfl ?_
    refine cc_getiN (e0 := nI (X.2.1 14 j)) 3 hx dX3_close_14 kf_X3_114 kl_2 (by decide) rfl hvVK hvV3 ?_
    refine vv_if_neN (tgt := 23) hx dX3_close_17 (by decide) (by omega) (fun c_17 => ?_) (fun c_17 => ?_)
    · refine vv_aload_n hx dX3_close_23 rfl ?_
      refine vv_dup hx dX3_close_24 rfl ?_
      refine cc_getiN (e0 := nI (X.2.1 14 j)) 3 hx dX3_close_25 kf_X3_114 kl_2 (by decide) rfl hvVK hvV3 ?_
      refine vv_iconst (v := nI 1) hx dX3_close_28 (by decide) ?_
      refine vv_isubN hx dX3_close_29 (by omega) ?_
      refine vv_putiN 3 hx dX3_close_30 kf_X3_114 kl_2 (by decide) rfl rfl rfl hvVK ?_
      refine vv_aload_n hx dX3_close_33 rfl ?_
      refine vv_callV (As := []) hx dX3_close_34 km_X3_101 kq_X3_letGo ki_X3_letGo ks_X3_letGo kl_3 hoK (c_X3_letGo (hL.op hj hh (m := X.2.1 14 j - 1) (by omega))) rfl rfl (Nat.le_of_ble_eq_true rfl) (by decide) (by decide) rfl rfl (vv_cv fun S2 hS => ?_)
      have hvVK2 := (hS.2.1 (va j)).trans hvVK
      have hvV32 := (hS.2.2.1 (va j) 3).trans mm_I_s
      refine vv_aload_n hx dX3_close_37 rfl ?_
      refine cc_getiN (e0 := nI (X.2.1 14 j - 1)) 3 hx dX3_close_38 kf_X3_114 kl_2 (by decide) rfl hvVK2 hvV32 ?_
      exact vv_iret hx he dX3_close_41 ⟨_, rfl, by rw [show sp_close X (nI j) = (nI (X.2.1 14 j - 1), xA X 14 j (X.2.1 14 j - 1)) from by simp [sp_close, hB, hjc, c_17]]; exact ⟨rfl, hS.1⟩⟩
    · refine vv_bipush (v := -3) hx dX3_close_20 (by decide) ?_
      exact vv_iret hx he dX3_close_22 ⟨_, rfl, by rw [show sp_close X (nI j) = (-3, X) from by simp [sp_close, hB, hjc, c_17]]; exact ⟨rfl, hL⟩⟩
