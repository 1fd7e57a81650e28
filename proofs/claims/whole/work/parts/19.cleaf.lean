set_option maxRecDepth 100000 in
set_option maxHeartbeats 4000000 in
theorem c_X1_lives {S : mm_H} {a n : Nat} {ch wd : Nat → Nat} (hst : stA S a n ch wd) {k : Nat} (hk : k < 16) : MZ yX1_lives cX1_lives 2 0 0 0 0 [.ref a, .int (nI (k))] S (fun z S' => z = bI (nz wd k) ∧ S' = S) := by
  refine MA.of (by decide) (Nat.le_of_ble_eq_true rfl) ?_
  intro x hx he hini
  have hx : vv_C x cX1_lives RX1 0 0 2 := hx
  show vv_V x 0 0 0 [(0, .ref a), (1, .int (nI (k)))] [] S
  obtain ⟨hsK, hsI, sc, sw, hsP1, hsP2, hsKc, hsLc, hsKw, hsLw, hsC, hsW, hsn, hsch, hswd⟩ := id hst
  have hwb := hswd k
  have hcb := hsch k
  refine vv_aload_n hx dX1_lives_0 rfl ?_
  refine vv_getr (b := sw) 2 hx dX1_lives_1 kf_X1_19 kl_1 (by decide) rfl hsK hsP2 ?_
  refine vv_iload_n hx dX1_lives_4 rfl ?_
  refine cc_iald (e0 := nI (wd (k))) (n := 16) hx dX1_lives_5 hsKw hsLw (by omega) (by decide) (hsW (k) (by omega)) ?_
  refine vv_if_eqN (tgt := 13) hx dX1_lives_6 (by decide) (by omega) (fun c_6 => ?_) (fun c_6 => ?_)
  · refine vv_iconst (v := nI 0) hx dX1_lives_13 (by decide) ?_
    exact vv_zret hx he dX1_lives_14 (by first | exact bI_01 _ | exact Or.inl rfl | exact Or.inr rfl) ⟨_, rfl, bI_f (by simp [nz]; omega), rfl⟩
  · refine vv_iconst (v := nI 1) hx dX1_lives_9 (by decide) ?_
    refine vv_goto (tgt := 14) hx dX1_lives_10 (by decide) ?_
    exact vv_zret hx he dX1_lives_14 (by first | exact bI_01 _ | exact Or.inl rfl | exact Or.inr rfl) ⟨_, rfl, bI_t (by simp [nz]; omega), rfl⟩
set_option maxRecDepth 100000 in
set_option maxHeartbeats 4000000 in
theorem c_X1_writtenAs {S : mm_H} {a n : Nat} {ch wd : Nat → Nat} (hst : stA S a n ch wd) {k : Nat} (hk : k < 16) : MI yX1_writtenAs cX1_writtenAs 2 1 21 0 0 [.ref a, .int (nI (k))] S (fun z S' => z = nI (waN ch wd k) ∧ S' = S) := by
  refine MA.of (by decide) (Nat.le_of_ble_eq_true rfl) ?_
  intro x hx he hini
  have hx : vv_C x cX1_writtenAs RX1 1 21 2 := hx
  show vv_V x 0 0 0 [(0, .ref a), (1, .int (nI (k)))] [] S
  obtain ⟨hsK, hsI, sc, sw, hsP1, hsP2, hsKc, hsLc, hsKw, hsLw, hsC, hsW, hsn, hsch, hswd⟩ := id hst
  have hwb := hswd k
  have hcb := hsch k
  refine vv_aload_n hx dX1_writtenAs_0 rfl ?_
  refine vv_iload_n hx dX1_writtenAs_1 rfl ?_
  refine vv_callV (As := [.int (nI (k))]) hx dX1_writtenAs_2 km_X1_28 kq_X1_lives ki_X1_lives ks_X1_lives kl_1 hsK (c_X1_lives hst hk) rfl rfl (Nat.le_of_ble_eq_true rfl) (by decide) (by decide) rfl rfl (vv_cd ?_)
  refine vv_if_eqB (tgt := 17) hx dX1_writtenAs_5 (by decide) (fun c_5 => ?_) (fun c_5 => ?_)
  · refine vv_iconst (v := nI 0) hx dX1_writtenAs_17 (by decide) ?_
    exact vv_iret hx he dX1_writtenAs_18 ⟨_, rfl, congrArg nI (by unfold waN; first | rw [if_pos (nz_t.mp c_5)] | rw [if_neg (by have := nz_f.mp c_5; omega)]), rfl⟩
  · refine vv_aload_n hx dX1_writtenAs_8 rfl ?_
    refine vv_getr (b := sc) 1 hx dX1_writtenAs_9 kf_X1_15 kl_1 (by decide) rfl hsK hsP1 ?_
    refine vv_iload_n hx dX1_writtenAs_12 rfl ?_
    refine cc_iald (e0 := nI (ch (k))) (n := 16) hx dX1_writtenAs_13 hsKc hsLc (by omega) (by decide) (hsC (k) (by omega)) ?_
    refine vv_goto (tgt := 18) hx dX1_writtenAs_14 (by decide) ?_
    exact vv_iret hx he dX1_writtenAs_18 ⟨_, rfl, congrArg nI (by unfold waN; first | rw [if_pos (nz_t.mp c_5)] | rw [if_neg (by have := nz_f.mp c_5; omega)]), rfl⟩
set_option maxRecDepth 100000 in
set_option maxHeartbeats 4000000 in
theorem c_X1_fits {S : mm_H} {a n : Nat} {ch wd : Nat → Nat} (hst : stA S a n ch wd) {k : Nat} (q : Int32) (hk : k < 16) : MZ yX1_fits cX1_fits 3 1 21 0 0 [.ref a, .int (nI (k)), .int (q)] S (fun z S' => z = bI (fitB wd q k) ∧ S' = S) := by
  refine MA.of (by decide) (Nat.le_of_ble_eq_true rfl) ?_
  intro x hx he hini
  have hx : vv_C x cX1_fits RX1 1 21 3 := hx
  show vv_V x 0 0 0 [(0, .ref a), (1, .int (nI (k))), (2, .int (q))] [] S
  obtain ⟨hsK, hsI, sc, sw, hsP1, hsP2, hsKc, hsLc, hsKw, hsLw, hsC, hsW, hsn, hsch, hswd⟩ := id hst
  have hwb := hswd k
  have hcb := hsch k
  refine vv_aload_n hx dX1_fits_0 rfl ?_
  refine vv_iload_n hx dX1_fits_1 rfl ?_
  refine vv_callV (As := [.int (nI (k))]) hx dX1_fits_2 km_X1_28 kq_X1_lives ki_X1_lives ks_X1_lives kl_1 hsK (c_X1_lives hst hk) rfl rfl (Nat.le_of_ble_eq_true rfl) (by decide) (by decide) rfl rfl (vv_cd ?_)
  refine vv_if_eqB (tgt := 24) hx dX1_fits_5 (by decide) (fun c_5 => ?_) (fun c_5 => ?_)
  · refine vv_iconst (v := nI 0) hx dX1_fits_24 (by decide) ?_
    exact vv_zret hx he dX1_fits_25 (by first | exact bI_01 _ | exact Or.inl rfl | exact Or.inr rfl) ⟨_, rfl, bI_f (by unfold fitB; rw [show decide (0 < wd k) = _ from c_5]; simp [*]), rfl⟩
  · refine vv_aload_n hx dX1_fits_8 rfl ?_
    refine vv_getr (b := sw) 2 hx dX1_fits_9 kf_X1_19 kl_1 (by decide) rfl hsK hsP2 ?_
    refine vv_iload_n hx dX1_fits_12 rfl ?_
    refine cc_iald (e0 := nI (wd (k))) (n := 16) hx dX1_fits_13 hsKw hsLw (by omega) (by decide) (hsW (k) (by omega)) ?_
    refine vv_iload_n hx dX1_fits_14 rfl ?_
    refine vv_iand hx dX1_fits_15 ?_
    refine vv_iload_n hx dX1_fits_16 rfl ?_
    refine vv_icmp_ne (tgt := 24) hx dX1_fits_17 (by decide) (fun c_17 => ?_) (fun c_17 => ?_)
    · refine vv_iconst (v := nI 0) hx dX1_fits_24 (by decide) ?_
      exact vv_zret hx he dX1_fits_25 (by first | exact bI_01 _ | exact Or.inl rfl | exact Or.inr rfl) ⟨_, rfl, bI_f (by unfold fitB; rw [show decide (0 < wd k) = _ from c_5]; simp [*]), rfl⟩
    · refine vv_iconst (v := nI 1) hx dX1_fits_20 (by decide) ?_
      refine vv_goto (tgt := 25) hx dX1_fits_21 (by decide) ?_
      exact vv_zret hx he dX1_fits_25 (by first | exact bI_01 _ | exact Or.inl rfl | exact Or.inr rfl) ⟨_, rfl, bI_t (by unfold fitB; rw [show decide (0 < wd k) = _ from c_5]; simp [*]), rfl⟩
set_option maxRecDepth 100000 in
set_option maxHeartbeats 4000000 in
theorem c_J6_bitCount_0f7a4 (S : mm_H) (v : Int32) : MI yJ6_bitCount_0f7a4 cJ6_bitCount_0f7a4 1 0 0 0 0 [.int (v)] S (fun z S' => z = bcI v ∧ S' = S) := by
  refine MA.of (by decide) (Nat.le_of_ble_eq_true rfl) ?_
  intro x hx he hini
  have hx : vv_C x cJ6_bitCount_0f7a4 RJ6 0 0 1 := hx
  show vv_V x 0 0 0 [(0, .int (v))] [] S
  refine vv_iload_n hx dJ6_bitCount_0f7a4_0 rfl ?_
  refine vv_iload_n hx dJ6_bitCount_0f7a4_1 rfl ?_
  refine vv_iconst (v := nI 1) hx dJ6_bitCount_0f7a4_2 (by decide) ?_
  refine vv_iushr hx dJ6_bitCount_0f7a4_3 ?_
  change vv_V x 0 0 _ _ (.int (ushI (v) (nI (1))) :: _) S
  refine vv_ldcw hx dJ6_bitCount_0f7a4_4 kk_J6_265 ?_
  refine vv_iand hx dJ6_bitCount_0f7a4_7 ?_
  refine vv_isub hx dJ6_bitCount_0f7a4_8 ?_
  change vv_V x 0 0 9 _ [.int (bc1 v)] S
  refine vv_istore_n (lv' := [(0, .int (bc1 v))]) hx dJ6_bitCount_0f7a4_9 (by decide) rfl rfl ?_
  refine vv_iload_n hx dJ6_bitCount_0f7a4_10 rfl ?_
  refine vv_ldcw hx dJ6_bitCount_0f7a4_11 kk_J6_266 ?_
  refine vv_iand hx dJ6_bitCount_0f7a4_14 ?_
  refine vv_iload_n hx dJ6_bitCount_0f7a4_15 rfl ?_
  refine vv_iconst (v := nI 2) hx dJ6_bitCount_0f7a4_16 (by decide) ?_
  refine vv_iushr hx dJ6_bitCount_0f7a4_17 ?_
  change vv_V x 0 0 _ _ (.int (ushI ((bc1 v)) (nI (2))) :: _) S
  refine vv_ldcw hx dJ6_bitCount_0f7a4_18 kk_J6_266 ?_
  refine vv_iand hx dJ6_bitCount_0f7a4_21 ?_
  refine vv_iadd hx dJ6_bitCount_0f7a4_22 ?_
  change vv_V x 0 0 23 _ [.int (bc2 (bc1 v))] S
  refine vv_istore_n (lv' := [(0, .int (bc2 (bc1 v)))]) hx dJ6_bitCount_0f7a4_23 (by decide) rfl rfl ?_
  refine vv_iload_n hx dJ6_bitCount_0f7a4_24 rfl ?_
  refine vv_iload_n hx dJ6_bitCount_0f7a4_25 rfl ?_
  refine vv_iconst (v := nI 4) hx dJ6_bitCount_0f7a4_26 (by decide) ?_
  refine vv_iushr hx dJ6_bitCount_0f7a4_27 ?_
  change vv_V x 0 0 _ _ (.int (ushI ((bc2 (bc1 v))) (nI (4))) :: _) S
  refine vv_iadd hx dJ6_bitCount_0f7a4_28 ?_
  refine vv_ldcw hx dJ6_bitCount_0f7a4_29 kk_J6_267 ?_
  refine vv_iand hx dJ6_bitCount_0f7a4_32 ?_
  change vv_V x 0 0 33 _ [.int (bc3 (bc2 (bc1 v)))] S
  refine vv_istore_n (lv' := [(0, .int (bc3 (bc2 (bc1 v))))]) hx dJ6_bitCount_0f7a4_33 (by decide) rfl rfl ?_
  refine vv_iload_n hx dJ6_bitCount_0f7a4_34 rfl ?_
  refine vv_iload_n hx dJ6_bitCount_0f7a4_35 rfl ?_
  refine vv_bipush (v := nI 8) hx dJ6_bitCount_0f7a4_36 (by decide) ?_
  refine vv_iushr hx dJ6_bitCount_0f7a4_38 ?_
  change vv_V x 0 0 _ _ (.int (ushI ((bc3 (bc2 (bc1 v)))) (nI (8))) :: _) S
  refine vv_iadd hx dJ6_bitCount_0f7a4_39 ?_
  change vv_V x 0 0 40 _ [.int (bc4 (bc3 (bc2 (bc1 v))))] S
  refine vv_istore_n (lv' := [(0, .int (bc4 (bc3 (bc2 (bc1 v)))))]) hx dJ6_bitCount_0f7a4_40 (by decide) rfl rfl ?_
  refine vv_iload_n hx dJ6_bitCount_0f7a4_41 rfl ?_
  refine vv_iload_n hx dJ6_bitCount_0f7a4_42 rfl ?_
  refine vv_bipush (v := nI 16) hx dJ6_bitCount_0f7a4_43 (by decide) ?_
  refine vv_iushr hx dJ6_bitCount_0f7a4_45 ?_
  change vv_V x 0 0 _ _ (.int (ushI ((bc4 (bc3 (bc2 (bc1 v))))) (nI (16))) :: _) S
  refine vv_iadd hx dJ6_bitCount_0f7a4_46 ?_
  change vv_V x 0 0 47 _ [.int (bc5 (bc4 (bc3 (bc2 (bc1 v)))))] S
  refine vv_istore_n (lv' := [(0, .int (bc5 (bc4 (bc3 (bc2 (bc1 v))))))]) hx dJ6_bitCount_0f7a4_47 (by decide) rfl rfl ?_
  refine vv_iload_n hx dJ6_bitCount_0f7a4_48 rfl ?_
  refine vv_bipush (v := nI 63) hx dJ6_bitCount_0f7a4_49 (by decide) ?_
  refine vv_iand hx dJ6_bitCount_0f7a4_51 ?_
  exact vv_iret hx he dJ6_bitCount_0f7a4_52 ⟨_, rfl, rfl, rfl⟩
set_option maxRecDepth 100000 in
set_option maxHeartbeats 4000000 in
theorem c_X1_rank {S : mm_H} {a n : Nat} {ch wd : Nat → Nat} (hst : stA S a n ch wd) {k : Nat} (w : Int32) (hk : k < 16) : MI yX1_rank cX1_rank 3 1 20 0 0 [.ref a, .int (nI (k)), .int (w)] S (fun z S' => z = rankN ch wd w k ∧ S' = S) := by
  refine MA.of (by decide) (Nat.le_of_ble_eq_true rfl) ?_
  intro x hx he hini
  have hx : vv_C x cX1_rank RX1 1 20 3 := hx
  show vv_V x 0 0 0 [(0, .ref a), (1, .int (nI (k))), (2, .int (w))] [] S
  obtain ⟨hsK, hsI, sc, sw, hsP1, hsP2, hsKc, hsLc, hsKw, hsLw, hsC, hsW, hsn, hsch, hswd⟩ := id hst
  have hwb := hswd k
  have hcb := hsch k
  refine vv_aload_n hx dX1_rank_0 rfl ?_
  refine vv_getr (b := sw) 2 hx dX1_rank_1 kf_X1_19 kl_1 (by decide) rfl hsK hsP2 ?_
  refine vv_iload_n hx dX1_rank_4 rfl ?_
  refine cc_iald (e0 := nI (wd (k))) (n := 16) hx dX1_rank_5 hsKw hsLw (by omega) (by decide) (hsW (k) (by omega)) ?_
  refine vv_iload_n hx dX1_rank_6 rfl ?_
  refine vv_iand hx dX1_rank_7 ?_
  refine vv_callS (As := [.int (nI (wd (k)) &&& w)]) hx dX1_rank_8 km_X1_32 kq_J6_bitCount_0f7a4 kt_J6_bitCount_0f7a4 (c_J6_bitCount_0f7a4 S _) rfl rfl (Nat.le_of_ble_eq_true rfl) (by decide) (by decide) rfl rfl (vv_cd ?_)
  refine vv_sipush (v := nI 601) hx dX1_rank_11 (by decide) ?_
  refine vv_imul hx dX1_rank_14 ?_
  refine vv_aload_n hx dX1_rank_15 rfl ?_
  refine vv_getr (b := sc) 1 hx dX1_rank_16 kf_X1_15 kl_1 (by decide) rfl hsK hsP1 ?_
  refine vv_iload_n hx dX1_rank_19 rfl ?_
  refine cc_iald (e0 := nI (ch (k))) (n := 16) hx dX1_rank_20 hsKc hsLc (by omega) (by decide) (hsC (k) (by omega)) ?_
  refine vv_iadd hx dX1_rank_21 ?_
  exact vv_iret hx he dX1_rank_22 ⟨_, rfl, rfl, rfl⟩
set_option maxRecDepth 100000 in
set_option maxHeartbeats 4000000 in
theorem l_X1_countBefore {S : mm_H} {a n : Nat} {ch wd : Nat → Nat} (hst : stA S a n ch wd) {x : vv_X} {k : Nat} {q w : Int32} (hx : vv_C x cX1_countBefore RX1 2 43 6) (he : vv_E x (some .int) (fun zz S' => ∃ r0 : Int32, zz = some (.int r0) ∧ (fun z S' => z = nI (befN ch wd q w k) ∧ S' = S) r0 S')) (hk : k < 16) : ∀ d j, j + d = 16 → vv_V x 0 0 6 [(0, .ref a), (1, .int (nI (k))), (2, .int (q)), (3, .int (w)), (4, .int (nI (cntN (fun j => fitB wd q j && decide (rankN ch wd w k < rankN ch wd w j)) j))), (5, .int (nI (j)))] [] S := by
  have hstK := hst.1
  intro d
  induction d with
  | zero =>
    intro j hd
    have hcn := cntN_le (fun j => fitB wd q j && decide (rankN ch wd w k < rankN ch wd w j)) j
    refine vv_iload hx dX1_countBefore_6 rfl ?_
    refine vv_bipush (v := nI 16) hx dX1_countBefore_8 (by decide) ?_
    refine vv_icmp_geN (tgt := 48) hx dX1_countBefore_10 (by decide) (by omega) (by omega) (fun c_10 => ?_) (fun c_10 => ?_)
    · refine vv_iload hx dX1_countBefore_48 rfl ?_
      exact vv_iret hx he dX1_countBefore_50 ⟨_, rfl, by rw [show j = 16 by omega]; rfl, rfl⟩
    · exfalso; omega
  | succ d ih =>
    intro j hd
    have hcn := cntN_le (fun j => fitB wd q j && decide (rankN ch wd w k < rankN ch wd w j)) j
    refine vv_iload hx dX1_countBefore_6 rfl ?_
    refine vv_bipush (v := nI 16) hx dX1_countBefore_8 (by decide) ?_
    refine vv_icmp_geN (tgt := 48) hx dX1_countBefore_10 (by decide) (by omega) (by omega) (fun c_10 => ?_) (fun c_10 => ?_)
    · exfalso; omega
    · refine vv_aload_n hx dX1_countBefore_13 rfl ?_
      refine vv_iload hx dX1_countBefore_14 rfl ?_
      refine vv_iload_n hx dX1_countBefore_16 rfl ?_
      refine vv_callV (As := [.int (nI (j)), .int (q)]) hx dX1_countBefore_17 km_X1_38 kq_X1_fits ki_X1_fits ks_X1_fits kl_1 hstK (c_X1_fits hst q (by omega)) rfl rfl (Nat.le_of_ble_eq_true rfl) (by decide) (by decide) rfl rfl (vv_cd ?_)
      refine vv_if_eqB (tgt := 42) hx dX1_countBefore_20 (by decide) (fun c_20 => ?_) (fun c_20 => ?_)
      · refine vv_iinc (u := (nI (j + 1))) (lv' := [(0, .ref a), (1, .int (nI (k))), (2, .int (q)), (3, .int (w)), (4, .int (nI (cntN (fun j => fitB wd q j && decide (rankN ch wd w k < rankN ch wd w j)) j))), (5, .int (nI (j + 1)))]) hx dX1_countBefore_42 rfl (nI_1 _) (by decide) rfl rfl ?_
        refine vv_goto (tgt := 6) hx dX1_countBefore_45 (by decide) ?_
        have h9 := ih (j + 1) (by omega)
        rw [cntN_f0 (f := fun j => fitB wd q j && decide (rankN ch wd w k < rankN ch wd w j)) (n := j) (by simp [← Int32.not_le, c_20])] at h9
        exact vv_sub [0, 1, 2, 3, 4, 5] rfl h9
      · refine vv_aload_n hx dX1_countBefore_23 rfl ?_
        refine vv_iload hx dX1_countBefore_24 rfl ?_
        refine vv_iload_n hx dX1_countBefore_26 rfl ?_
        refine vv_callV (As := [.int (nI (j)), .int (w)]) hx dX1_countBefore_27 km_X1_42 kq_X1_rank ki_X1_rank ks_X1_rank kl_1 hstK (c_X1_rank hst w (by omega)) rfl rfl (Nat.le_of_ble_eq_true rfl) (by decide) (by decide) rfl rfl (vv_cd ?_)
        refine vv_aload_n hx dX1_countBefore_30 rfl ?_
        refine vv_iload_n hx dX1_countBefore_31 rfl ?_
        refine vv_iload_n hx dX1_countBefore_32 rfl ?_
        refine vv_callV (As := [.int (nI (k)), .int (w)]) hx dX1_countBefore_33 km_X1_42 kq_X1_rank ki_X1_rank ks_X1_rank kl_1 hstK (c_X1_rank hst w hk) rfl rfl (Nat.le_of_ble_eq_true rfl) (by decide) (by decide) rfl rfl (vv_cd ?_)
        refine vv_icmp_le (tgt := 42) hx dX1_countBefore_36 (by decide) (fun c_36 => ?_) (fun c_36 => ?_)
        · refine vv_iinc (u := (nI (j + 1))) (lv' := [(0, .ref a), (1, .int (nI (k))), (2, .int (q)), (3, .int (w)), (4, .int (nI (cntN (fun j => fitB wd q j && decide (rankN ch wd w k < rankN ch wd w j)) j))), (5, .int (nI (j + 1)))]) hx dX1_countBefore_42 rfl (nI_1 _) (by decide) rfl rfl ?_
          refine vv_goto (tgt := 6) hx dX1_countBefore_45 (by decide) ?_
          have h9 := ih (j + 1) (by omega)
          rw [cntN_f0 (f := fun j => fitB wd q j && decide (rankN ch wd w k < rankN ch wd w j)) (n := j) (by simp [← Int32.not_le, c_20, c_36])] at h9
          exact vv_sub [0, 1, 2, 3, 4, 5] rfl h9
        · refine vv_iinc (u := (nI (cntN (fun j => fitB wd q j && decide (rankN ch wd w k < rankN ch wd w j)) j + 1))) (lv' := [(0, .ref a), (1, .int (nI (k))), (2, .int (q)), (3, .int (w)), (4, .int (nI (cntN (fun j => fitB wd q j && decide (rankN ch wd w k < rankN ch wd w j)) j + 1))), (5, .int (nI (j)))]) hx dX1_countBefore_39 rfl (nI_1 _) (by decide) rfl rfl ?_
          refine vv_iinc (u := (nI (j + 1))) (lv' := [(0, .ref a), (1, .int (nI (k))), (2, .int (q)), (3, .int (w)), (4, .int (nI (cntN (fun j => fitB wd q j && decide (rankN ch wd w k < rankN ch wd w j)) j + 1))), (5, .int (nI (j + 1)))]) hx dX1_countBefore_42 rfl (nI_1 _) (by decide) rfl rfl ?_
          refine vv_goto (tgt := 6) hx dX1_countBefore_45 (by decide) ?_
          have h9 := ih (j + 1) (by omega)
          rw [cntN_t (f := fun j => fitB wd q j && decide (rankN ch wd w k < rankN ch wd w j)) (n := j) (by simp [← Int32.not_le, c_20, c_36])] at h9
          exact vv_sub [0, 1, 2, 3, 4, 5] rfl h9
set_option maxRecDepth 100000 in
set_option maxHeartbeats 4000000 in
theorem c_X1_countBefore {S : mm_H} {a n : Nat} {ch wd : Nat → Nat} (hst : stA S a n ch wd) {k : Nat} (q w : Int32) (hk : k < 16) : MI yX1_countBefore cX1_countBefore 6 2 43 0 0 [.ref a, .int (nI (k)), .int (q), .int (w)] S (fun z S' => z = nI (befN ch wd q w k) ∧ S' = S) := by
  refine MA.of (by decide) (Nat.le_of_ble_eq_true rfl) ?_
  intro x hx he hini
  have hx : vv_C x cX1_countBefore RX1 2 43 6 := hx
  show vv_V x 0 0 0 [(0, .ref a), (1, .int (nI (k))), (2, .int (q)), (3, .int (w))] [] S
  refine vv_iconst (v := nI 0) hx dX1_countBefore_0 (by decide) ?_
  refine vv_istore (lv' := [(0, .ref a), (1, .int (nI (k))), (2, .int (q)), (3, .int (w)), (4, .int (nI (0)))]) hx dX1_countBefore_1 (by decide) rfl rfl ?_
  refine vv_iconst (v := nI 0) hx dX1_countBefore_3 (by decide) ?_
  refine vv_istore (lv' := [(0, .ref a), (1, .int (nI (k))), (2, .int (q)), (3, .int (w)), (4, .int (nI (0))), (5, .int (nI (0)))]) hx dX1_countBefore_4 (by decide) rfl rfl ?_
  exact l_X1_countBefore hst hx he hk 16 0 rfl
set_option maxRecDepth 100000 in
set_option maxHeartbeats 4000000 in
theorem c_X0_isLive {S : mm_H} {g s rows : Nat} {w : Nat → Nat} (hsg : sgA S g s rows w) {a n : Nat} {ch wd : Nat → Nat} (hst : stA S a n ch wd) {k : Nat} (hk : k < 16) : MZ yX0_isLive cX0_isLive 3 0 0 0 0 [.ref g, .int (nI (k)), .ref a] S (fun z S' => z = bI (ilB w ch k) ∧ S' = S) := by
  refine MA.of (by decide) (Nat.le_of_ble_eq_true rfl) ?_
  intro x hx he hini
  have hx : vv_C x cX0_isLive RX0 0 0 3 := hx
  show vv_V x 0 0 0 [(0, .ref g), (1, .int (nI (k))), (2, .ref a)] [] S
  obtain ⟨hsK, hsI, sc, sw, hsP1, hsP2, hsKc, hsLc, hsKw, hsLw, hsC, hsW, hsn, hsch, hswd⟩ := id hst
  obtain ⟨hgK, hgI0, hgI2, gc, hgP1, hgKc, hgLc, hgC, hgr, hgw⟩ := id hsg
  have hwb := hgw k
  have hcb := hsch k
  refine vv_aload_n hx dX0_isLive_0 rfl ?_
  refine vv_getr (b := gc) 1 hx dX0_isLive_1 kf_X0_9 kl_0 (by decide) rfl hgK hgP1 ?_
  refine vv_iload_n hx dX0_isLive_4 rfl ?_
  refine cc_iald (e0 := nI (w (k))) (n := 16) hx dX0_isLive_5 hgKc hgLc (by omega) (by decide) (hgC (k) (by omega)) ?_
  refine vv_if_eqN (tgt := 28) hx dX0_isLive_6 (by decide) (by omega) (fun c_6 => ?_) (fun c_6 => ?_)
  · refine vv_iconst (v := nI 0) hx dX0_isLive_28 (by decide) ?_
    exact vv_zret hx he dX0_isLive_29 (by first | exact bI_01 _ | exact Or.inl rfl | exact Or.inr rfl) ⟨_, rfl, bI_f (by simp only [ilB, nz]; first | (simp [*]; done) | (simp; omega)), rfl⟩
  · refine vv_aload_n hx dX0_isLive_9 rfl ?_
    refine vv_getr (b := gc) 1 hx dX0_isLive_10 kf_X0_9 kl_0 (by decide) rfl hgK hgP1 ?_
    refine vv_iload_n hx dX0_isLive_13 rfl ?_
    refine cc_iald (e0 := nI (w (k))) (n := 16) hx dX0_isLive_14 hgKc hgLc (by omega) (by decide) (hgC (k) (by omega)) ?_
    refine vv_aload_n hx dX0_isLive_15 rfl ?_
    refine vv_getrN (b := sc) 1 hx dX0_isLive_16 kf_X0_25 kl_1 (by decide) rfl hsK hsP1 ?_
    refine vv_iload_n hx dX0_isLive_19 rfl ?_
    refine cc_iald (e0 := nI (ch (k))) (n := 16) hx dX0_isLive_20 hsKc hsLc (by omega) (by decide) (hsC (k) (by omega)) ?_
    refine vv_icmp_neN (tgt := 28) hx dX0_isLive_21 (by decide) (by omega) (by omega) (fun c_21 => ?_) (fun c_21 => ?_)
    · refine vv_iconst (v := nI 0) hx dX0_isLive_28 (by decide) ?_
      exact vv_zret hx he dX0_isLive_29 (by first | exact bI_01 _ | exact Or.inl rfl | exact Or.inr rfl) ⟨_, rfl, bI_f (by simp only [ilB, nz]; first | (simp [*]; done) | (simp; omega)), rfl⟩
    · refine vv_iconst (v := nI 1) hx dX0_isLive_24 (by decide) ?_
      refine vv_goto (tgt := 29) hx dX0_isLive_25 (by decide) ?_
      exact vv_zret hx he dX0_isLive_29 (by first | exact bI_01 _ | exact Or.inl rfl | exact Or.inr rfl) ⟨_, rfl, bI_t (by simp only [ilB, nz]; first | (simp [*]; done) | (simp; omega)), rfl⟩
set_option maxRecDepth 100000 in
set_option maxHeartbeats 4000000 in
theorem l_X0_countLive {S : mm_H} {g s rows : Nat} {w : Nat → Nat} (hsg : sgA S g s rows w) {a n : Nat} {ch wd : Nat → Nat} (hst : stA S a n ch wd) {x : vv_X} (hx : vv_C x cX0_countLive RX0 1 22 4) (he : vv_E x (some .int) (fun zz S' => ∃ r0 : Int32, zz = some (.int r0) ∧ (fun z S' => z = nI (cntN (ilB w ch) 16) ∧ S' = S) r0 S')) : ∀ d k, k + d = 16 → vv_V x 0 0 4 [(0, .ref g), (1, .ref a), (2, .int (nI (cntN (ilB w ch) k))), (3, .int (nI (k)))] [] S := by
  have hgK := hsg.1
  intro d
  induction d with
  | zero =>
    intro k hd
    have hcn := cntN_le (ilB w ch) k
    refine vv_iload_n hx dX0_countLive_4 rfl ?_
    refine vv_bipush (v := nI 16) hx dX0_countLive_5 (by decide) ?_
    refine vv_icmp_geN (tgt := 28) hx dX0_countLive_7 (by decide) (by omega) (by omega) (fun c_7 => ?_) (fun c_7 => ?_)
    · refine vv_iload_n hx dX0_countLive_28 rfl ?_
      exact vv_iret hx he dX0_countLive_29 ⟨_, rfl, by rw [show k = 16 by omega], rfl⟩
    · exfalso; omega
  | succ d ih =>
    intro k hd
    have hcn := cntN_le (ilB w ch) k
    refine vv_iload_n hx dX0_countLive_4 rfl ?_
    refine vv_bipush (v := nI 16) hx dX0_countLive_5 (by decide) ?_
    refine vv_icmp_geN (tgt := 28) hx dX0_countLive_7 (by decide) (by omega) (by omega) (fun c_7 => ?_) (fun c_7 => ?_)
    · exfalso; omega
    · refine vv_aload_n hx dX0_countLive_10 rfl ?_
      refine vv_iload_n hx dX0_countLive_11 rfl ?_
      refine vv_aload_n hx dX0_countLive_12 rfl ?_
      refine vv_callV (As := [.int (nI (k)), .ref a]) hx dX0_countLive_13 km_X0_30 kq_X0_isLive ki_X0_isLive ks_X0_isLive kl_0 hgK (c_X0_isLive hsg hst (by omega)) rfl rfl (Nat.le_of_ble_eq_true rfl) (by decide) (by decide) rfl rfl (vv_cd ?_)
      refine vv_if_eqB (tgt := 22) hx dX0_countLive_16 (by decide) (fun c_16 => ?_) (fun c_16 => ?_)
      · refine vv_iinc (u := (nI (k + 1))) (lv' := [(0, .ref g), (1, .ref a), (2, .int (nI (cntN (ilB w ch) k))), (3, .int (nI (k + 1)))]) hx dX0_countLive_22 rfl (nI_1 _) (by decide) rfl rfl ?_
        refine vv_goto (tgt := 4) hx dX0_countLive_25 (by decide) ?_
        have h9 := ih (k + 1) (by omega)
        rw [cntN_f0 (f := ilB w ch) (n := k) (by simp [c_16])] at h9
        exact vv_sub [0, 1, 2, 3] rfl h9
      · refine vv_iinc (u := (nI (cntN (ilB w ch) k + 1))) (lv' := [(0, .ref g), (1, .ref a), (2, .int (nI (cntN (ilB w ch) k + 1))), (3, .int (nI (k)))]) hx dX0_countLive_19 rfl (nI_1 _) (by decide) rfl rfl ?_
        refine vv_iinc (u := (nI (k + 1))) (lv' := [(0, .ref g), (1, .ref a), (2, .int (nI (cntN (ilB w ch) k + 1))), (3, .int (nI (k + 1)))]) hx dX0_countLive_22 rfl (nI_1 _) (by decide) rfl rfl ?_
        refine vv_goto (tgt := 4) hx dX0_countLive_25 (by decide) ?_
        have h9 := ih (k + 1) (by omega)
        rw [cntN_t (f := ilB w ch) (n := k) (by simp [c_16])] at h9
        exact vv_sub [0, 1, 2, 3] rfl h9
set_option maxRecDepth 100000 in
set_option maxHeartbeats 4000000 in
theorem c_X0_countLive {S : mm_H} {g s rows : Nat} {w : Nat → Nat} (hsg : sgA S g s rows w) {a n : Nat} {ch wd : Nat → Nat} (hst : stA S a n ch wd) : MI yX0_countLive cX0_countLive 4 1 22 0 0 [.ref g, .ref a] S (fun z S' => z = nI (cntN (ilB w ch) 16) ∧ S' = S) := by
  refine MA.of (by decide) (Nat.le_of_ble_eq_true rfl) ?_
  intro x hx he hini
  have hx : vv_C x cX0_countLive RX0 1 22 4 := hx
  show vv_V x 0 0 0 [(0, .ref g), (1, .ref a)] [] S
  refine vv_iconst (v := nI 0) hx dX0_countLive_0 (by decide) ?_
  refine vv_istore_n (lv' := [(0, .ref g), (1, .ref a), (2, .int (nI (0)))]) hx dX0_countLive_1 (by decide) rfl rfl ?_
  refine vv_iconst (v := nI 0) hx dX0_countLive_2 (by decide) ?_
  refine vv_istore_n (lv' := [(0, .ref g), (1, .ref a), (2, .int (nI (0))), (3, .int (nI (0)))]) hx dX0_countLive_3 (by decide) rfl rfl ?_
  exact l_X0_countLive hsg hst hx he 16 0 rfl
set_option maxRecDepth 100000 in
set_option maxHeartbeats 4000000 in
theorem l_X0_keyOfRow {S : mm_H} {g s rows : Nat} {w : Nat → Nat} (hsg : sgA S g s rows w) {x : vv_X} {m : Nat} (hx : vv_C x cX0_keyOfRow RX0 0 0 4) (he : vv_E x (some .int) (fun zz S' => ∃ r0 : Int32, zz = some (.int r0) ∧ (fun z S' => z = firstN (fun k => nz w k && decide (cntN (nz w) k = m)) 0 16 ∧ S' = S) r0 S')) (hm : m < 16) : ∀ d k l, k + d = 16 → cntN (nz w) k + l = m → firstN (fun k => nz w k && decide (cntN (nz w) k = m)) 0 16 = firstN (fun k => nz w k && decide (cntN (nz w) k = m)) k d → vv_V x 0 0 4 [(0, .ref g), (1, .int (nI (m))), (2, .int (nI (l))), (3, .int (nI (k)))] [] S := by
  obtain ⟨hgK, hgI0, hgI2, gc, hgP1, hgKc, hgLc, hgC, hgr, hgw⟩ := id hsg
  intro d
  induction d with
  | zero =>
    intro k l hd hl hf
    refine vv_iload_n hx dX0_keyOfRow_4 rfl ?_
    refine vv_bipush (v := nI 16) hx dX0_keyOfRow_5 (by decide) ?_
    refine vv_icmp_geN (tgt := 34) hx dX0_keyOfRow_7 (by decide) (by omega) (by omega) (fun c_7 => ?_) (fun c_7 => ?_)
    · refine vv_iconst (v := -1) hx dX0_keyOfRow_34 (by decide) ?_
      exact vv_iret hx he dX0_keyOfRow_35 ⟨_, rfl, by rw [hf]; rfl, rfl⟩
    · exfalso; omega
  | succ d ih =>
    intro k l hd hl hf
    have hwb := hgw k
    refine vv_iload_n hx dX0_keyOfRow_4 rfl ?_
    refine vv_bipush (v := nI 16) hx dX0_keyOfRow_5 (by decide) ?_
    refine vv_icmp_geN (tgt := 34) hx dX0_keyOfRow_7 (by decide) (by omega) (by omega) (fun c_7 => ?_) (fun c_7 => ?_)
    · exfalso; omega
    · refine vv_aload_n hx dX0_keyOfRow_10 rfl ?_
      refine vv_getr (b := gc) 1 hx dX0_keyOfRow_11 kf_X0_9 kl_0 (by decide) rfl hgK hgP1 ?_
      refine vv_iload_n hx dX0_keyOfRow_14 rfl ?_
      refine cc_iald (e0 := nI (w (k))) (n := 16) hx dX0_keyOfRow_15 hgKc hgLc (by omega) (by decide) (hgC (k) (by omega)) ?_
      refine vv_if_eqN (tgt := 28) hx dX0_keyOfRow_16 (by decide) (by omega) (fun c_16 => ?_) (fun c_16 => ?_)
      · refine vv_iinc (u := (nI (k + 1))) (lv' := [(0, .ref g), (1, .int (nI (m))), (2, .int (nI (l))), (3, .int (nI (k + 1)))]) hx dX0_keyOfRow_28 rfl (nI_1 _) (by decide) rfl rfl ?_
        refine vv_goto (tgt := 4) hx dX0_keyOfRow_31 (by decide) ?_
        have hz : nz w k = false := nz_f.mpr c_16
        refine ih (k + 1) l (by omega) (by rw [cntN_f hz]; omega) (hf.trans (firstN_f ?_))
        simp only [hz, Bool.false_and]
      · refine vv_iload_n hx dX0_keyOfRow_19 rfl ?_
        refine vv_if_neN (tgt := 25) hx dX0_keyOfRow_20 (by decide) (by omega) (fun c_20 => ?_) (fun c_20 => ?_)
        · obtain ⟨l', rfl⟩ : ∃ l', l = l' + 1 := ⟨l - 1, by omega⟩
          refine vv_iinc (u := (nI (l'))) (lv' := [(0, .ref g), (1, .int (nI (m))), (2, .int (nI (l'))), (3, .int (nI (k)))]) hx dX0_keyOfRow_25 rfl (pk_m1 _) (by decide) rfl rfl ?_
          refine vv_iinc (u := (nI (k + 1))) (lv' := [(0, .ref g), (1, .int (nI (m))), (2, .int (nI (l'))), (3, .int (nI (k + 1)))]) hx dX0_keyOfRow_28 rfl (nI_1 _) (by decide) rfl rfl ?_
          refine vv_goto (tgt := 4) hx dX0_keyOfRow_31 (by decide) ?_
          have hz : nz w k = true := nz_t.mpr (by omega)
          refine ih (k + 1) l' (by omega) (by rw [cntN_t hz]; omega) (hf.trans (firstN_f ?_))
          simp only [hz, Bool.true_and]; exact decide_eq_false (by omega)
        · refine vv_iload_n hx dX0_keyOfRow_23 rfl ?_
          exact vv_iret hx he dX0_keyOfRow_24 ⟨_, rfl, (hf.trans (firstN_t (by simp only [nz_t.mpr (show 0 < w k by omega), Bool.true_and]; exact decide_eq_true (by omega)))).symm, rfl⟩
set_option maxRecDepth 100000 in
set_option maxHeartbeats 4000000 in
theorem c_X0_keyOfRow {S : mm_H} {g s rows : Nat} {w : Nat → Nat} (hsg : sgA S g s rows w) {m : Nat} (hm : m < 16) : MI yX0_keyOfRow cX0_keyOfRow 4 0 0 0 0 [.ref g, .int (nI (m))] S (fun z S' => z = firstN (fun k => nz w k && decide (cntN (nz w) k = m)) 0 16 ∧ S' = S) := by
  refine MA.of (by decide) (Nat.le_of_ble_eq_true rfl) ?_
  intro x hx he hini
  have hx : vv_C x cX0_keyOfRow RX0 0 0 4 := hx
  show vv_V x 0 0 0 [(0, .ref g), (1, .int (nI (m)))] [] S
  refine vv_iload_n hx dX0_keyOfRow_0 rfl ?_
  refine vv_istore_n (lv' := [(0, .ref g), (1, .int (nI (m))), (2, .int (nI (m)))]) hx dX0_keyOfRow_1 (by decide) rfl rfl ?_
  refine vv_iconst (v := nI 0) hx dX0_keyOfRow_2 (by decide) ?_
  refine vv_istore_n (lv' := [(0, .ref g), (1, .int (nI (m))), (2, .int (nI (m))), (3, .int (nI (0)))]) hx dX0_keyOfRow_3 (by decide) rfl rfl ?_
  exact l_X0_keyOfRow hsg hx he hm 16 0 m rfl (Nat.zero_add m) rfl
