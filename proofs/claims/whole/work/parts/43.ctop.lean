theorem Rel.lat {S : mm_H} {X : xx_X} {W : Nat → Nat → Nat} {o nw sf vs cn : Nat} {va ga : Nat → Nat} (h : Rel S X W o nw sf vs cn va ga) : mm_K S o = 4 ∧ mm_P S o 4 = some (va (X.1 15)) ∧ mm_K S (va (X.1 15)) = 3 ∧ mm_I S (va (X.1 15)) 0 = nI (X.1 15) := by
  obtain ⟨⟨o1, o2, o3, o4, o5, o6, o7⟩, hns, hnw, hsf, hvK, hvL, hvs, hview, hsegs, hUQ, hXI⟩ := h
  have h9 := hview _ hXI.1.2.2.2.1 held_lt.1
  exact ⟨o1, o6, h9.1, h9.2.1⟩
theorem RelP.lat {S : mm_H} {X : xx_X} {W : Nat → Nat → Nat} {o nw sf vs cn : Nat} {va ga : Nat → Nat} (h : RelP S X W o nw sf vs cn va ga) : mm_K S o = 4 ∧ mm_P S o 4 = some (va (X.1 15)) ∧ mm_P S o 0 = some nw ∧ mm_P S o 1 = some sf ∧ mm_I S nw 0 = nI (X.1 0) := by
  obtain ⟨⟨o1, o2, o3, o4, o5, o6, o7⟩, hns, hnw, hsf, hvK, hvL, hvs, hview, hsegs, hUQ, hXI⟩ := h
  exact ⟨o1, o6, o2, o3, hnw.2.1⟩
theorem RelP.cmt {S S1 S' : mm_H} {X : xx_X} {W : Nat → Nat → Nat} {o nw sf vs cn fc fw mc mw : Nat} {va ga : Nat → Nat} (hL : RelP S X W o nw sf vs cn va ga) (f1 : mm_P S sf 1 = some fc) (f2 : mm_P S sf 2 = some fw) (m1 : mm_P S nw 1 = some mc) (m2 : mm_P S nw 2 = some mw) (h1 : S1 = mm_sR (mm_sI (mm_sP S o 5 (some (va (X.1 15)))) sf 0 (nI (X.1 0))) fc (fun j => if j < 16 then mm_I (mm_sI (mm_sP S o 5 (some (va (X.1 15)))) sf 0 (nI (X.1 0))) mc j else mm_I (mm_sI (mm_sP S o 5 (some (va (X.1 15)))) sf 0 (nI (X.1 0))) fc j)) (h2 : S' = mm_sR S1 fw (fun j => if j < 16 then mm_I S1 mw j else mm_I S1 fw j)) : RelP S' (xI (xI X 16 (X.1 15)) 17 (X.1 0)) W o nw sf vs cn va ga := by
  have h := (hL.syn f1 f2 m1 m2 rfl rfl).com (by
    rw [xI_s, xI_o (by decide)]
    exact (hL.2.2.2.2.2.2.2.2.2.2.2.2.2.2.2.2 _ hL.2.2.2.2.2.2.2.2.2.2.1.2.2.2.1 held_lt.1).1)
  rw [xI_o (Y := X) (f := 17) (g := 15) (by decide)] at h
  rw [xI_comm X (by decide)] at h
  rw [h2, h1]
  exact h
set_option maxRecDepth 100000 in
set_option maxHeartbeats 4000000 in
theorem c_X3_refresh {S : mm_H} {X : xx_X} {W : Nat → Nat → Nat} {o nw sf vs cn : Nat} {va ga : Nat → Nat} (hL : Rel S X W o nw sf vs cn va ga) : MI yX3_refresh cX3_refresh 1 6 135 10 87 [.ref o] S (fun z S' => ∀ zr X', sp_refresh X W zr X' → z = zr ∧ ∃ W' va' ga', Rel S' X' W' o nw sf vs cn va' ga') := by
  refine MA.of (by decide) (Nat.le_of_ble_eq_true rfl) ?_
  intro x hx he hini
  have hx : vv_C x cX3_refresh RX3 6 135 1 := hx
  show vv_V x 10 87 0 [(0, .ref o)] [] S
  obtain ⟨⟨hoK, hoP0, hoP1, hoP2, hoI3, hoP4, hoP5, hoI6, hoI7, hoI8, hoI9, hoI10, hoI11⟩, hns, hnw, hsf, hvK, hvL, hvs, hview, hsegs, hUQ, hXI⟩ := id hL
  obtain ⟨hk, hbd, hw0, hc9, hm3, hcs, hheld⟩ := id hXI
  obtain ⟨k0, k1, k2, k3, k4, k5, k6, k7, k8, k9, k10, k11, k12, k13⟩ := id hk
  obtain ⟨hvVK, hvV0, hvV3, ust, upr, hvP1, hvP2, hvn, hvf, hust, hprK, hprL, hprE⟩ := hview _ k3 held_lt.1
  refine vv_aload_n hx dX3_refresh_0 rfl ?_
  refine vv_aload_n hx dX3_refresh_1 rfl ?_
  refine vv_getr (b := va (X.1 15)) 4 hx dX3_refresh_2 kf_X3_52 kl_3 (by decide) rfl hoK hoP4 ?_
  refine vv_aload_n hx dX3_refresh_5 rfl ?_
  refine vv_getr (b := nw) 0 hx dX3_refresh_6 kf_X3_10 kl_3 (by decide) rfl hoK hoP0 ?_
  refine vv_callV (As := [.ref (va (X.1 15)), .ref nw]) hx dX3_refresh_9 km_X3_94 kq_X3_hasRoomToRefresh ki_X3_hasRoomToRefresh ks_X3_hasRoomToRefresh kl_3 hoK (c_X3_hasRoomToRefresh hoK hoI3 k2 hvVK hvP1 hust.1 hust.2.1 (k11 _) hnw.1 hnw.2.1 k0) rfl rfl (Nat.le_of_ble_eq_true rfl) (by decide) (by decide) rfl rfl (vv_cd ?_)
  refine vv_if_neB (tgt := 18) hx dX3_refresh_12 (by decide) (fun c_12 => ?_) (fun c_12 => ?_)
  · refine vv_aload_n hx dX3_refresh_18 rfl ?_
    have hroom : newsB X = true → X.1 10 < 150 := fun h => by
      have h1 : X.2.1 11 (X.1 15) < X.1 0 := of_decide_eq_true h
      simp only [Bool.or_eq_true, decide_eq_true_eq] at c_12
      omega
    refine vv_callV (As := []) hx dX3_refresh_19 km_X3_98 kq_X3_refreshLatest ki_X3_refreshLatest ks_X3_refreshLatest kl_3 hoK (c_X3_refreshLatest hL.p hroom) rfl rfl (Nat.le_of_ble_eq_true rfl) (by decide) (by decide) rfl rfl (vv_cv fun S1 hS1 => ?_)
    rcases hS1 with ⟨hnf, hS⟩ | ⟨hnt, q, g1, g2, v, hq, hC⟩
    · rw [hS]
      refine vv_aload_n hx dX3_refresh_22 rfl ?_
      refine vv_callV (As := []) hx dX3_refresh_23 km_X3_101 kq_X3_letGo ki_X3_letGo ks_X3_letGo kl_3 hoK (c_X3_letGo hL.p) rfl rfl (Nat.le_of_ble_eq_true rfl) (by decide) (by decide) rfl rfl (vv_cv fun S2 hS2 => ?_)
      have hl2 := hS2.1.lat
      refine vv_aload_n hx dX3_refresh_26 rfl ?_
      refine vv_getr (b := va (X.1 15)) 4 hx dX3_refresh_27 kf_X3_52 kl_3 (by decide) rfl hl2.1 hl2.2.1 ?_
      refine cc_getiN (e0 := nI (X.1 15)) 0 hx dX3_refresh_30 kf_X3_104 kl_2 (by decide) rfl hl2.2.2.1 hl2.2.2.2 ?_
      exact vv_iret hx he dX3_refresh_33 ⟨_, rfl, fun zr X' h => by
  rcases h with ⟨h1, -⟩ | ⟨-, rfl, rfl⟩ | ⟨h1, -⟩
  · rw [hnf] at h1; cases h1
  · exact ⟨rfl, W, va, ga, hS2.1⟩
  · rw [hnf] at h1; cases h1⟩
    · have h10 := hroom hnt
      obtain ⟨X0, hX0⟩ := rnR.ex hXI hq
      have hP0 := hL.p.rn h10 hq hC hX0
      have hl0 := hP0.lat
      refine vv_aload_n hx dX3_refresh_22 rfl ?_
      refine vv_callV (As := []) hx dX3_refresh_23 km_X3_101 kq_X3_letGo ki_X3_letGo ks_X3_letGo kl_3 hl0.1 (c_X3_letGo hP0) rfl rfl (Nat.le_of_ble_eq_true rfl) (by decide) (by decide) rfl rfl (vv_cv fun S2 hS2 => ?_)
      have hl2 := hS2.1.lat
      refine vv_aload_n hx dX3_refresh_26 rfl ?_
      refine vv_getr (b := va2 X va v (X0.1 15)) 4 hx dX3_refresh_27 kf_X3_52 kl_3 (by decide) rfl hl2.1 hl2.2.1 ?_
      refine cc_getiN (e0 := nI (X0.1 15)) 0 hx dX3_refresh_30 kf_X3_104 kl_2 (by decide) rfl hl2.2.2.1 hl2.2.2.2 ?_
      exact vv_iret hx he dX3_refresh_33 ⟨_, rfl, fun zr X' h => by
  rcases h with ⟨-, h1, -⟩ | ⟨h1, -⟩ | ⟨-, -, hR, rfl⟩
  · omega
  · rw [hnt] at h1; cases h1
  · exact ⟨by rw [hX0.eq.2.1], _, _, _, RelP.go2 hS2.1 hS2.2 (hL.p.rn h10 hq hC hR) (by rw [hR.eq.1, hX0.eq.1]) (heldN_of (by rw [hR.eq.2.1, hX0.eq.2.1]) (by rw [hR.eq.2.2.1, hX0.eq.2.2.1]) (by rw [hR.eq.2.2.2.2.2, hX0.eq.2.2.2.2.2]))⟩⟩
  · refine vv_bipush (v := -5) hx dX3_refresh_15 (by decide) ?_
    exact vv_iret hx he dX3_refresh_17 ⟨_, rfl, fun zr X' h => by
  simp only [Bool.or_eq_false_iff, decide_eq_false_iff_not] at c_12
  rcases h with ⟨-, -, rfl, rfl⟩ | ⟨h1, -⟩ | ⟨-, h1, -⟩
  · exact ⟨rfl, W, va, ga, hL⟩
  · have h1 := of_decide_eq_false h1
    have h2 := (hheld _ k3 held_lt.1).1
    omega
  · omega⟩
set_option maxRecDepth 100000 in
set_option maxHeartbeats 4000000 in
theorem l_X3_commit {S : mm_H} {X : xx_X} {W : Nat → Nat → Nat} {o nw sf vs cn : Nat} {va ga : Nat → Nat} (hL : RelP S X W o nw sf vs cn va ga) {x : vv_X} {post : Option Value → mm_H → Prop} (hx : vv_C x cX3_commit RX3 6 135 1) (he : vv_E x (some .int) post) (hp : ∀ S3 S2, (∀ Z' W' ga', RelP S Z' W' o nw sf vs cn va ga' → Z'.1 15 = X.1 15 → Z'.1 0 = X.1 0 → RelP S3 (xI (xI Z' 16 (Z'.1 15)) 17 (Z'.1 0)) W' o nw sf vs cn va ga') → Rel S2 (xI (xI X 16 (X.1 15)) 17 (X.1 0)) W o nw sf vs cn va ga → vsO S3 S2 vs → post (some (.int (nI (X.1 15)))) S2) : vv_V x 0 0 22 [(0, .ref o)] [] S := by
  obtain ⟨⟨hoK, hoP0, hoP1, hoP2, hoI3, hoP4, hoP5, hoI6, hoI7, hoI8, hoI9, hoI10, hoI11⟩, hns, hnw, hsf, hvK, hvL, hvp, hview, hsegs, hUQ, hXI⟩ := id hL
  obtain ⟨hk, hbd, hw0, hc9, hm3, hcs, hheld⟩ := id hXI
  obtain ⟨k0, k1, k2, k3, k4, k5, k6, k7, k8, k9, k10, k11, k12, k13⟩ := id hk
  obtain ⟨hmK, hmI, mc, mw, hmP1, hmP2, hmKc, hmLc, hmKw, hmLw, hmC, hmW, hmn, hmch, hmwd⟩ := id hnw
  obtain ⟨hfK, hfI, fc, fw, hfP1, hfP2, hfKc, hfLc, hfKw, hfLw, hfC, hfW, hfn, hfch, hfwd⟩ := id hsf
  have no : nw ≠ o := fun e => by rw [e] at hmK; omega
  have so : sf ≠ o := fun e => by rw [e] at hfK; omega
  refine vv_aload_n hx dX3_commit_22 rfl ?_
  refine vv_aload_n hx dX3_commit_23 rfl ?_
  refine vv_getr (b := va (X.1 15)) 4 hx dX3_commit_24 kf_X3_52 kl_3 (by decide) rfl hoK hoP4 ?_
  refine vv_putr 5 hx dX3_commit_27 kf_X3_56 kl_3 (by decide) rfl rfl rfl rfl rfl hoK ?_
  have pp : ∀ y k, (y ≠ o ∨ k ≠ 5) → mm_P (mm_sP S o 5 (some (va (X.1 15)))) y k = mm_P S y k := fun y k h => by rw [mm_P_sP, if_neg (fun q => by omega)]
  have hoP1' := (pp o 1 (Or.inr (by decide))).trans hoP1
  have hoP0' := (pp o 0 (Or.inr (by decide))).trans hoP0
  refine vv_aload_n hx dX3_commit_30 rfl ?_
  refine vv_getr (b := sf) 1 hx dX3_commit_31 kf_X3_16 kl_3 (by decide) rfl hoK hoP1' ?_
  refine vv_aload_n hx dX3_commit_34 rfl ?_
  refine vv_getr (b := nw) 0 hx dX3_commit_35 kf_X3_10 kl_3 (by decide) rfl hoK hoP0' ?_
  refine vv_callVN (As := [.ref nw]) hx dX3_commit_38 km_X3_107 kq_X1_copyFrom ki_X1_copyFrom ks_X1_copyFrom kl_1 hfK (c_X1_copyFrom (S := mm_sP S o 5 (some (va (X.1 15)))) hfK hmK hmI ((pp sf 1 (Or.inl so)).trans hfP1) ((pp sf 2 (Or.inl so)).trans hfP2) ((pp nw 1 (Or.inl no)).trans hmP1) ((pp nw 2 (Or.inl no)).trans hmP2) hfKc hfLc hfKw hfLw hmKc hmLc hmKw hmLw) rfl rfl (Nat.le_of_ble_eq_true rfl) (by decide) (by decide) rfl rfl (vv_cv fun S3 hS3 => ?_)
  have hall : ∀ Z' W' ga', RelP S Z' W' o nw sf vs cn va ga' → Z'.1 15 = X.1 15 → Z'.1 0 = X.1 0 → RelP S3 (xI (xI Z' 16 (Z'.1 15)) 17 (Z'.1 0)) W' o nw sf vs cn va ga' := fun Z' W' ga' hZ e15 e0 => hZ.cmt hfP1 hfP2 hmP1 hmP2 rfl (by rw [e15, e0]; exact hS3)
  have hP3 := hall X W ga hL rfl rfl
  have hl3 := hP3.lat
  refine vv_aload_n hx dX3_commit_41 rfl ?_
  refine vv_callV (As := []) hx dX3_commit_42 km_X3_101 kq_X3_letGo ki_X3_letGo ks_X3_letGo kl_3 hl3.1 (c_X3_letGo hP3) rfl rfl (Nat.le_of_ble_eq_true rfl) (by decide) (by decide) rfl rfl (vv_cv fun S2 hS2 => ?_)
  have hl2 := hS2.1.lat
  rw [show (xI (xI X 16 (X.1 15)) 17 (X.1 0)).1 15 = X.1 15 by rw [xI_o (by decide), xI_o (by decide)]] at hl2
  refine vv_aload_n hx dX3_commit_45 rfl ?_
  refine vv_getr (b := va (X.1 15)) 4 hx dX3_commit_46 kf_X3_52 kl_3 (by decide) rfl hl2.1 hl2.2.1 ?_
  refine cc_getiN (e0 := nI (X.1 15)) 0 hx dX3_commit_49 kf_X3_104 kl_2 (by decide) rfl hl2.2.2.1 hl2.2.2.2 ?_
  exact vv_iret hx he dX3_commit_52 (hp S3 S2 hall hS2.1 hS2.2)
set_option maxRecDepth 100000 in
set_option maxHeartbeats 4000000 in
theorem c_X3_commit {S : mm_H} {X : xx_X} {W : Nat → Nat → Nat} {o nw sf vs cn : Nat} {va ga : Nat → Nat} (hL : Rel S X W o nw sf vs cn va ga) : MI yX3_commit cX3_commit 1 6 135 10 87 [.ref o] S (fun z S' => ∀ zr X', sp_commit X W zr X' → z = zr ∧ ∃ W' va' ga', Rel S' X' W' o nw sf vs cn va' ga') := by
  refine MA.of (by decide) (Nat.le_of_ble_eq_true rfl) ?_
  intro x hx he hini
  have hx : vv_C x cX3_commit RX3 6 135 1 := hx
  show vv_V x 10 87 0 [(0, .ref o)] [] S
  obtain ⟨⟨hoK, hoP0, hoP1, hoP2, hoI3, hoP4, hoP5, hoI6, hoI7, hoI8, hoI9, hoI10, hoI11⟩, hns, hnw, hsf, hvK, hvL, hvs, hview, hsegs, hUQ, hXI⟩ := id hL
  obtain ⟨hk, hbd, hw0, hc9, hm3, hcs, hheld⟩ := id hXI
  obtain ⟨k0, k1, k2, k3, k4, k5, k6, k7, k8, k9, k10, k11, k12, k13⟩ := id hk
  obtain ⟨hvVK, hvV0, hvV3, ust, upr, hvP1, hvP2, hvn, hvf, hust, hprK, hprL, hprE⟩ := hview _ k3 held_lt.1
  refine vv_aload_n hx dX3_commit_0 rfl ?_
  refine vv_aload_n hx dX3_commit_1 rfl ?_
  refine vv_getr (b := va (X.1 15)) 4 hx dX3_commit_2 kf_X3_52 kl_3 (by decide) rfl hoK hoP4 ?_
  refine vv_aload_n hx dX3_commit_5 rfl ?_
  refine vv_getr (b := nw) 0 hx dX3_commit_6 kf_X3_10 kl_3 (by decide) rfl hoK hoP0 ?_
  refine vv_callV (As := [.ref (va (X.1 15)), .ref nw]) hx dX3_commit_9 km_X3_94 kq_X3_hasRoomToRefresh ki_X3_hasRoomToRefresh ks_X3_hasRoomToRefresh kl_3 hoK (c_X3_hasRoomToRefresh hoK hoI3 k2 hvVK hvP1 hust.1 hust.2.1 (k11 _) hnw.1 hnw.2.1 k0) rfl rfl (Nat.le_of_ble_eq_true rfl) (by decide) (by decide) rfl rfl (vv_cd ?_)
  refine vv_if_neB (tgt := 18) hx dX3_commit_12 (by decide) (fun c_12 => ?_) (fun c_12 => ?_)
  · refine vv_aload_n hx dX3_commit_18 rfl ?_
    have hroom : newsB X = true → X.1 10 < 150 := fun h => by
      have h1 : X.2.1 11 (X.1 15) < X.1 0 := of_decide_eq_true h
      simp only [Bool.or_eq_true, decide_eq_true_eq] at c_12
      omega
    refine vv_callV (As := []) hx dX3_commit_19 km_X3_98 kq_X3_refreshLatest ki_X3_refreshLatest ks_X3_refreshLatest kl_3 hoK (c_X3_refreshLatest hL.p hroom) rfl rfl (Nat.le_of_ble_eq_true rfl) (by decide) (by decide) rfl rfl (vv_cv fun S1 hS1 => ?_)
    rcases hS1 with ⟨hnf, hS⟩ | ⟨hnt, q, g1, g2, v, hq, hC⟩
    · rw [hS]
      refine l_X3_commit hL.p hx he (fun S3 S2 hall hR2 hO => ⟨_, rfl, fun zr X' h => ?_⟩)
      rcases h with ⟨h1, -⟩ | ⟨-, rfl, rfl⟩ | ⟨h1, -⟩
      · rw [hnf] at h1; cases h1
      · exact ⟨rfl, W, va, ga, hR2⟩
      · rw [hnf] at h1; cases h1
    · have h10 := hroom hnt
      obtain ⟨X0, hX0⟩ := rnR.ex hXI hq
      have hP0 := hL.p.rn h10 hq hC hX0
      have hl0 := hP0.lat
      refine l_X3_commit hP0 hx he (fun S3 S2 hall hR2 hO => ⟨_, rfl, fun zr X' h => ?_⟩)
      rcases h with ⟨-, h1, -⟩ | ⟨h1, -⟩ | ⟨-, -, ⟨X2, hR, rfl⟩, rfl⟩
      · omega
      · rw [hnt] at h1; cases h1
      · have h9 := hall X2 _ _ (hL.p.rn h10 hq hC hR) (by rw [hR.eq.2.1, hX0.eq.2.1]) (by rw [hR.eq.2.2.2.1, hX0.eq.2.2.2.1])
        have e1 : xI (xI X2 16 (X2.1 15)) 17 (X2.1 0) = xI (xI X2 16 (X.1 10)) 17 (X.1 0) := by rw [hR.eq.2.1, hR.eq.2.2.2.1]
        rw [e1] at h9
        refine ⟨by rw [hX0.eq.2.1], _, _, _, RelP.go2 hR2 hO h9 ?_ (heldN_of ?_ ?_ ?_)⟩
        · rw [xI_o (by decide), xI_o (by decide), xI_o (by decide), xI_o (by decide), hR.eq.1, hX0.eq.1]
        · rw [xI_o (by decide), xI_o (by decide), xI_o (by decide), xI_o (by decide), hR.eq.2.1, hX0.eq.2.1]
        · rw [xI_o (by decide), xI_s, xI_o (by decide), xI_s, hX0.eq.2.1]
        · show X2.2.1 14 = X0.2.1 14
          rw [hR.eq.2.2.2.2.2, hX0.eq.2.2.2.2.2]
  · refine vv_bipush (v := -5) hx dX3_commit_15 (by decide) ?_
    exact vv_iret hx he dX3_commit_17 ⟨_, rfl, fun zr X' h => by
  simp only [Bool.or_eq_false_iff, decide_eq_false_iff_not] at c_12
  rcases h with ⟨-, -, rfl, rfl⟩ | ⟨h1, -⟩ | ⟨-, h1, -⟩
  · exact ⟨rfl, W, va, ga, hL⟩
  · have h1 := of_decide_eq_false h1
    have h2 := (hheld _ k3 held_lt.1).1
    omega
  · omega⟩
set_option maxRecDepth 100000 in
set_option maxHeartbeats 4000000 in
theorem l_X3_closeAll {T : mm_H} {X : xx_X} {o vs : Nat} {va : Nat → Nat} (hoK : mm_K T o = 4) (hoP2 : mm_P T o 2 = some vs) (hoI3 : mm_I T o 3 = nI (X.1 10)) (hvK : mm_K T vs = 8) (hvL : mm_L T vs = 150) (k2 : X.1 10 ≤ 150) (hvs : ∀ v, v < 150 → mm_P T vs v = bif decide (v < X.1 10) && heldN X v then some (va v) else none) (hvv : ∀ v, v < X.1 10 → heldN X v = true → mm_K T (va v) = 3) {x : vv_X} (hx : vv_C x cX3_closeAll RX3 0 0 2) (he : vv_E x none (fun zz S' => zz = none ∧ (fun T' => clO T T' ∧ ∀ v, v < X.1 10 → heldN X v = true → mm_I T' (va v) 3 = nI 0) S')) : ∀ d i U, i + d = X.1 10 → clO T U → (∀ v, v < i → heldN X v = true → mm_I U (va v) 3 = nI 0) → vv_V x 0 0 2 [(0, .ref o), (1, .int (nI (i)))] [] U := by
  intro d
  induction d with
  | zero =>
    intro i U hd hC hz
    have hoKU : mm_K U o = 4 := (hC.1 o).trans hoK
    have hoI3U : mm_I U o 3 = nI (X.1 10) := (hC.2.2.2 o 3 (Or.inl (by omega))).trans hoI3
    refine vv_iload_n hx dX3_closeAll_2 rfl ?_
    refine vv_aload_n hx dX3_closeAll_3 rfl ?_
    refine cc_geti (e0 := nI (X.1 10)) 3 hx dX3_closeAll_4 kf_X3_25 kl_3 (by decide) rfl hoKU hoI3U ?_
    refine vv_icmp_geN (tgt := 35) hx dX3_closeAll_7 (by decide) (by omega) (by omega) (fun c_7 => ?_) (fun c_7 => ?_)
    · exact vv_vret hx he dX3_closeAll_35 ⟨rfl, hC, fun v hv hh => hz v (by omega) hh⟩
    · exfalso; omega
  | succ d ih =>
    intro i U hd hC hz
    have hoKU : mm_K U o = 4 := (hC.1 o).trans hoK
    have hoI3U : mm_I U o 3 = nI (X.1 10) := (hC.2.2.2 o 3 (Or.inl (by omega))).trans hoI3
    have hoP2U : mm_P U o 2 = some vs := (hC.2.1 o 2).trans hoP2
    have hvKU : mm_K U vs = 8 := (hC.1 vs).trans hvK
    have hvLU : mm_L U vs = 150 := (hC.2.2.1 vs).trans hvL
    have hvk : mm_P U vs i = bif heldN X i then some (va i) else none := by rw [hC.2.1, hvs i (by omega), decide_eq_true (show i < X.1 10 by omega), Bool.true_and]
    refine vv_iload_n hx dX3_closeAll_2 rfl ?_
    refine vv_aload_n hx dX3_closeAll_3 rfl ?_
    refine cc_geti (e0 := nI (X.1 10)) 3 hx dX3_closeAll_4 kf_X3_25 kl_3 (by decide) rfl hoKU hoI3U ?_
    refine vv_icmp_geN (tgt := 35) hx dX3_closeAll_7 (by decide) (by omega) (by omega) (fun c_7 => ?_) (fun c_7 => ?_)
    · exfalso; omega
    · refine vv_aload_n hx dX3_closeAll_10 rfl ?_
      refine vv_getr (b := vs) 2 hx dX3_closeAll_11 kf_X3_21 kl_3 (by decide) rfl hoKU hoP2U ?_
      refine vv_iload_n hx dX3_closeAll_14 rfl ?_
      refine vv_aald (j := 2) hx dX3_closeAll_15 hvKU (by decide) (fun _ => rfl) rfl (by rw [hvLU]; omega) (by rw [hvLU]; decide) ?_
      rw [hvk]
      cases hh : heldN X i with
      | false =>
        show vv_V x 0 0 _ _ (.null :: _) U
        refine vv_ifnullN (tgt := 29) hx dX3_closeAll_16 (by decide) ?_
        refine vv_iinc (u := (nI (i + 1))) (lv' := [(0, .ref o), (1, .int (nI (i + 1)))]) hx dX3_closeAll_29 rfl (nI_1 _) (by decide) rfl rfl ?_
        refine vv_goto (tgt := 2) hx dX3_closeAll_32 (by decide) ?_
        refine ih (i + 1) U (by omega) hC (fun v hv hv2 => ?_)
        by_cases e : v = i
        · rw [e, hh] at hv2; cases hv2
        · exact hz v (by omega) hv2
      | true =>
        show vv_V x 0 0 _ _ (.ref (va i) :: _) U
        rw [hh] at hvk
        have hvi : mm_K U (va i) = 3 := (hC.1 _).trans (hvv i (by omega) hh)
        refine vv_ifnull hx dX3_closeAll_16 ?_
        refine vv_aload_n hx dX3_closeAll_19 rfl ?_
        refine vv_getr (b := vs) 2 hx dX3_closeAll_20 kf_X3_21 kl_3 (by decide) rfl hoKU hoP2U ?_
        refine vv_iload_n hx dX3_closeAll_23 rfl ?_
        refine vv_aald (j := 2) hx dX3_closeAll_24 hvKU (by decide) (fun _ => rfl) rfl (by rw [hvLU]; omega) (by rw [hvLU]; decide) ?_
        rw [hvk]
        show vv_V x 0 0 _ _ (.ref (va i) :: _) U
        refine vv_iconst (v := nI 0) hx dX3_closeAll_25 (by decide) ?_
        refine vv_putiN 3 hx dX3_closeAll_26 kf_X3_114 kl_2 (by decide) rfl rfl rfl hvi ?_
        refine vv_iinc (u := (nI (i + 1))) (lv' := [(0, .ref o), (1, .int (nI (i + 1)))]) hx dX3_closeAll_29 rfl (nI_1 _) (by decide) rfl rfl ?_
        refine vv_goto (tgt := 2) hx dX3_closeAll_32 (by decide) ?_
        refine ih (i + 1) _ (by omega) ⟨hC.1, hC.2.1, hC.2.2.1, fun a k h => ?_⟩ (fun v hv hv2 => ?_)
        · rw [mm_I_sI, if_neg (fun q => by
            rcases h with h | h
            · exact h (by rw [q.1, ← hC.1]; exact hvi)
            · exact h q.2)]
          exact hC.2.2.2 a k h
        · rw [mm_I_sI]
          by_cases e : va v = va i
          · rw [if_pos ⟨e, rfl⟩]
          · rw [if_neg (fun q => e q.1)]
            exact hz v (by have : v ≠ i := fun q => e (by rw [q]); omega) hv2
set_option maxRecDepth 100000 in
set_option maxHeartbeats 4000000 in
theorem c_X3_closeAll {T : mm_H} {X : xx_X} {o vs : Nat} {va : Nat → Nat} (hoK : mm_K T o = 4) (hoP2 : mm_P T o 2 = some vs) (hoI3 : mm_I T o 3 = nI (X.1 10)) (hvK : mm_K T vs = 8) (hvL : mm_L T vs = 150) (k2 : X.1 10 ≤ 150) (hvs : ∀ v, v < 150 → mm_P T vs v = bif decide (v < X.1 10) && heldN X v then some (va v) else none) (hvv : ∀ v, v < X.1 10 → heldN X v = true → mm_K T (va v) = 3) : MV yX3_closeAll cX3_closeAll 2 0 0 0 0 [.ref o] T (fun T' => clO T T' ∧ ∀ v, v < X.1 10 → heldN X v = true → mm_I T' (va v) 3 = nI 0) := by
  refine MA.of (by decide) (Nat.le_of_ble_eq_true rfl) ?_
  intro x hx he hini
  have hx : vv_C x cX3_closeAll RX3 0 0 2 := hx
  show vv_V x 0 0 0 [(0, .ref o)] [] T
  refine vv_iconst (v := nI 0) hx dX3_closeAll_0 (by decide) ?_
  refine vv_istore_n (lv' := [(0, .ref o), (1, .int (nI (0)))]) hx dX3_closeAll_1 (by decide) rfl rfl ?_
  exact l_X3_closeAll hoK hoP2 hoI3 hvK hvL k2 hvs hvv hx he (X.1 10) 0 T (by omega) ⟨fun _ => rfl, fun _ _ => rfl, fun _ => rfl, fun _ _ _ => rfl⟩ (fun v hv => by omega)
set_option maxRecDepth 100000 in
set_option maxHeartbeats 4000000 in
theorem c_X3_crash {S : mm_H} {X : xx_X} {W : Nat → Nat → Nat} {o nw sf vs cn : Nat} {va ga : Nat → Nat} (hL : Rel S X W o nw sf vs cn va ga) : MI yX3_crash cX3_crash 2 6 135 10 87 [.ref o] S (fun z S' => ∀ zr X', sp_crash X W zr X' → z = zr ∧ ∃ W' va' ga', Rel S' X' W' o nw sf vs cn va' ga') := by
  refine MA.of (by decide) (Nat.le_of_ble_eq_true rfl) ?_
  intro x hx he hini
  have hx : vv_C x cX3_crash RX3 6 135 2 := hx
  show vv_V x 10 87 0 [(0, .ref o)] [] S
  obtain ⟨⟨hoK, hoP0, hoP1, hoP2, hoI3, hoP4, hoP5, hoI6, hoI7, hoI8, hoI9, hoI10, hoI11⟩, hns, hnw, hsf, hvK, hvL, hvs, hview, hsegs, hUQ, hXI⟩ := id hL
  obtain ⟨hk, hbd, hw0, hc9, hm3, hcs, hheld⟩ := id hXI
  obtain ⟨k0, k1, k2, k3, k4, k5, k6, k7, k8, k9, k10, k11, k12, k13⟩ := id hk
  obtain ⟨hmK, hmI, mc, mw, hmP1, hmP2, hmKc, hmLc, hmKw, hmLw, hmC, hmW, hmn, hmch, hmwd⟩ := id hnw
  obtain ⟨hfK, hfI, fc, fw, hfP1, hfP2, hfKc, hfLc, hfKw, hfLw, hfC, hfW, hfn, hfch, hfwd⟩ := id hsf
  obtain ⟨hvVK, hvV0, hvV3, ust, upr, hvP1, hvP2, hvn, hvf, hust, hprK, hprL, hprE⟩ := hview _ k4 held_lt.2
  refine vv_aload_n hx dX3_crash_0 rfl ?_
  refine vv_aload_n hx dX3_crash_1 rfl ?_
  refine vv_getr (b := va (X.1 16)) 5 hx dX3_crash_2 kf_X3_56 kl_3 (by decide) rfl hoK hoP5 ?_
  refine vv_aload_n hx dX3_crash_5 rfl ?_
  refine vv_getr (b := sf) 1 hx dX3_crash_6 kf_X3_16 kl_3 (by decide) rfl hoK hoP1 ?_
  refine vv_callV (As := [.ref (va (X.1 16)), .ref sf]) hx dX3_crash_9 km_X3_94 kq_X3_hasRoomToRefresh ki_X3_hasRoomToRefresh ks_X3_hasRoomToRefresh kl_3 hoK (c_X3_hasRoomToRefresh hoK hoI3 k2 hvVK hvP1 hust.1 hust.2.1 (k11 _) hsf.1 hsf.2.1 (by omega)) rfl rfl (Nat.le_of_ble_eq_true rfl) (by decide) (by decide) rfl rfl (vv_cd ?_)
  refine vv_if_neB (tgt := 18) hx dX3_crash_12 (by decide) (fun c_12 => ?_) (fun c_12 => ?_)
  · refine vv_aload_n hx dX3_crash_18 rfl ?_
    refine vv_getr (b := nw) 0 hx dX3_crash_19 kf_X3_10 kl_3 (by decide) rfl hoK hoP0 ?_
    refine cc_getiN (e0 := nI (X.1 0)) 0 hx dX3_crash_22 kf_X3_84 kl_1 (by decide) rfl hmK hmI ?_
    refine vv_aload_n hx dX3_crash_25 rfl ?_
    refine vv_getr (b := sf) 1 hx dX3_crash_26 kf_X3_16 kl_3 (by decide) rfl hoK hoP1 ?_
    refine cc_getiN (e0 := nI (X.1 17)) 0 hx dX3_crash_29 kf_X3_84 kl_1 (by decide) rfl hfK hfI ?_
    refine vv_isubN hx dX3_crash_32 (by omega) ?_
    refine vv_istore_n (lv' := [(0, .ref o), (1, .int (nI ((X.1 0) - (X.1 17))))]) hx dX3_crash_33 (by decide) rfl rfl ?_
    refine vv_aload_n hx dX3_crash_34 rfl ?_
    refine vv_getr (b := nw) 0 hx dX3_crash_35 kf_X3_10 kl_3 (by decide) rfl hoK hoP0 ?_
    refine vv_aload_n hx dX3_crash_38 rfl ?_
    refine vv_getr (b := sf) 1 hx dX3_crash_39 kf_X3_16 kl_3 (by decide) rfl hoK hoP1 ?_
    refine vv_callVN (As := [.ref sf]) hx dX3_crash_42 km_X3_107 kq_X1_copyFrom ki_X1_copyFrom ks_X1_copyFrom kl_1 hmK (c_X1_copyFrom hmK hfK hfI hmP1 hmP2 hfP1 hfP2 hmKc hmLc hmKw hmLw hfKc hfLc hfKw hfLw) rfl rfl (Nat.le_of_ble_eq_true rfl) (by decide) (by decide) rfl rfl (vv_cv fun S1 hS1 => ?_)
    obtain ⟨d1, d2, d3, d4⟩ := stA.cp hUQ hsf hns hmK hmP1 hmP2 hfP1 hfP2 hmKc hmLc hmKw hmLw rfl hS1
    have dL : ∀ y, mm_L S1 y = mm_L S y := fun y => by rw [hS1]; rfl
    have nM : ∀ y, mm_K S y ≠ 2 → mm_K S y ≠ 6 → ¬ ((y = nw ∨ y = mc) ∨ y = mw) := fun y h2 h6 q => by
      rcases q with (q | q) | q
      · exact h2 (by rw [q]; exact hmK)
      · exact h6 (by rw [q]; exact hmKc)
      · exact h6 (by rw [q]; exact hmKw)
    have hoK1 := (d3 o).trans hoK
    have hoP51 := (d4 o 5).trans hoP5
    have hoI31 : mm_I S1 o 3 = nI (X.1 10) := ((d2 o (by omega) (nM o (by omega) (by omega))).2.1 3).trans hoI3
    refine vv_aload_n hx dX3_crash_45 rfl ?_
    refine vv_callV (As := []) hx dX3_crash_46 km_X3_111 kq_X3_closeAll ki_X3_closeAll ks_X3_closeAll kl_3 hoK1 (c_X3_closeAll (X := X) (va := va) hoK1 ((d4 o 2).trans hoP2) hoI31 ((d3 vs).trans hvK) ((dL vs).trans hvL) k2 (fun v hv => (d4 vs v).trans (hvs v hv)) (fun v hv hh => (d3 _).trans (hview v hv hh).1)) rfl rfl (Nat.le_of_ble_eq_true rfl) (by decide) (by decide) rfl rfl (vv_cv fun S2 hS2 => ?_)
    have hoK2 := (hS2.1.1 o).trans hoK1
    have hoP52 := (hS2.1.2.1 o 5).trans hoP51
    have hP3 := hL.cr hmP1 hmP2 d1 d2 d3 d4 dL hS2.1 hS2.2
    have hX3 := hXI.cr
    obtain ⟨c0, c15, cf⟩ := crX_1 X
    refine vv_aload_n hx dX3_crash_49 rfl ?_
    refine vv_aload_n hx dX3_crash_50 rfl ?_
    refine vv_getr (b := va (X.1 16)) 5 hx dX3_crash_51 kf_X3_56 kl_3 (by decide) rfl hoK2 hoP52 ?_
    refine vv_putr 4 hx dX3_crash_54 kf_X3_52 kl_3 (by decide) rfl rfl rfl rfl rfl hoK2 ?_
    have hl3 := hP3.lat
    refine vv_aload_n hx dX3_crash_57 rfl ?_
    have hnw3 : newsB (crX X) = decide (X.2.1 11 (X.1 16) < X.1 17) := by unfold newsB; rw [c15, c0, crX_2 X (by decide)]
    have hroom : newsB (crX X) = true → (crX X).1 10 < 150 := fun h => by
      rw [hnw3] at h
      have h1 := of_decide_eq_true h
      rw [cf 10 (by decide) (by decide)]
      simp only [Bool.or_eq_true, decide_eq_true_eq] at c_12
      omega
    refine vv_callV (As := []) hx dX3_crash_58 km_X3_98 kq_X3_refreshLatest ki_X3_refreshLatest ks_X3_refreshLatest kl_3 hl3.1 (c_X3_refreshLatest hP3 hroom) rfl rfl (Nat.le_of_ble_eq_true rfl) (by decide) (by decide) rfl rfl (vv_cv fun S4 hS4 => ?_)
    rcases hS4 with ⟨hnf, hS⟩ | ⟨hnt, q, g1, g2, v, hq, hC⟩
    · rw [hS]
      refine vv_aload_n hx dX3_crash_61 rfl ?_
      refine vv_callV (As := []) hx dX3_crash_62 km_X3_101 kq_X3_letGo ki_X3_letGo ks_X3_letGo kl_3 hl3.1 (c_X3_letGo hP3) rfl rfl (Nat.le_of_ble_eq_true rfl) (by decide) (by decide) rfl rfl (vv_cv fun S5 hS5 => ?_)
      refine vv_iload_n hx dX3_crash_65 rfl ?_
      exact vv_iret hx he dX3_crash_66 ⟨_, rfl, fun zr X' h => by
  rcases h with ⟨h1, h2, -⟩ | ⟨rfl, ⟨-, rfl⟩ | ⟨h1, -⟩⟩
  · rw [hnw3] at hnf
    exact absurd h1 (of_decide_eq_false hnf)
  · exact ⟨rfl, W, va, ga, hS5.1⟩
  · rw [hnf] at h1; cases h1⟩
    · have h10 := hroom hnt
      obtain ⟨X0, hX0⟩ := rnR.ex hX3 hq
      have hP0 := hP3.rn h10 hq hC hX0
      have hl0 := hP0.lat
      refine vv_aload_n hx dX3_crash_61 rfl ?_
      refine vv_callV (As := []) hx dX3_crash_62 km_X3_101 kq_X3_letGo ki_X3_letGo ks_X3_letGo kl_3 hl0.1 (c_X3_letGo hP0) rfl rfl (Nat.le_of_ble_eq_true rfl) (by decide) (by decide) rfl rfl (vv_cv fun S5 hS5 => ?_)
      refine vv_iload_n hx dX3_crash_65 rfl ?_
      exact vv_iret hx he dX3_crash_66 ⟨_, rfl, fun zr X' h => by
  rcases h with ⟨h1, h2, -⟩ | ⟨rfl, ⟨h1, -⟩ | ⟨-, -, hR⟩⟩
  · rw [cf 10 (by decide) (by decide)] at h10; omega
  · rw [hnt] at h1; cases h1
  · exact ⟨rfl, _, _, _, RelP.go2 hS5.1 hS5.2 (hP3.rn h10 hq hC hR) (by rw [hR.eq.1, hX0.eq.1]) (heldN_of (by rw [hR.eq.2.1, hX0.eq.2.1]) (by rw [hR.eq.2.2.1, hX0.eq.2.2.1]) (by rw [hR.eq.2.2.2.2.2, hX0.eq.2.2.2.2.2]))⟩⟩
  · refine vv_bipush (v := -5) hx dX3_crash_15 (by decide) ?_
    exact vv_iret hx he dX3_crash_17 ⟨_, rfl, fun zr X' h => by
  simp only [Bool.or_eq_false_iff, decide_eq_false_iff_not] at c_12
  rcases h with ⟨-, -, rfl, rfl⟩ | ⟨-, h⟩
  · exact ⟨rfl, W, va, ga, hL⟩
  · exfalso
    rcases h with ⟨h1, -⟩ | ⟨h1, h2, -⟩
    · have h1 := of_decide_eq_false h1
      obtain ⟨c0, c15, cf⟩ := crX_1 X
      rw [c15, c0, crX_2 X (by decide)] at h1
      omega
    · omega⟩
