set_option maxRecDepth 100000 in
set_option maxHeartbeats 4000000 in
theorem c_X4_in (S : mm_H) (v a b : Int32) : MZ yX4_in cX4_in 3 0 0 0 0 [.int (v), .int (a), .int (b)] S (fun z S' => z = bI (inb v a b) ∧ S' = S) := by
  refine MA.of (by decide) (Nat.le_of_ble_eq_true rfl) ?_
  intro x hx he hini
  have hx : vv_C x cX4_in RX4 0 0 3 := hx
  show vv_V x 0 0 0 [(0, .int (v)), (1, .int (a)), (2, .int (b))] [] S
  refine vv_iload_n hx dX4_in_0 rfl ?_
  refine vv_iload_n hx dX4_in_1 rfl ?_
  refine vv_icmp_lt (tgt := 14) hx dX4_in_2 (by decide) (fun c_2 => ?_) (fun c_2 => ?_)
  · refine vv_iconst (v := nI 0) hx dX4_in_14 (by decide) ?_
    exact vv_zret hx he dX4_in_15 (by first | exact bI_01 _ | exact Or.inl rfl | exact Or.inr rfl) ⟨_, rfl, bI_f (by simp [inb, ← Int32.not_lt, *]), rfl⟩
  · refine vv_iload_n hx dX4_in_5 rfl ?_
    refine vv_iload_n hx dX4_in_6 rfl ?_
    refine vv_icmp_gt (tgt := 14) hx dX4_in_7 (by decide) (fun c_7 => ?_) (fun c_7 => ?_)
    · refine vv_iconst (v := nI 0) hx dX4_in_14 (by decide) ?_
      exact vv_zret hx he dX4_in_15 (by first | exact bI_01 _ | exact Or.inl rfl | exact Or.inr rfl) ⟨_, rfl, bI_f (by simp [inb, ← Int32.not_lt, *]), rfl⟩
    · refine vv_iconst (v := nI 1) hx dX4_in_10 (by decide) ?_
      refine vv_goto (tgt := 15) hx dX4_in_11 (by decide) ?_
      exact vv_zret hx he dX4_in_15 (by first | exact bI_01 _ | exact Or.inl rfl | exact Or.inr rfl) ⟨_, rfl, bI_t (by simp [inb, ← Int32.not_lt, *]), rfl⟩
set_option maxRecDepth 100000 in
set_option maxHeartbeats 4000000 in
theorem c_X4_isHeld {S : mm_H} {r : Nat} {ad : Nat → Nat} {X : xx_X} (hR : xx_R S r ad X) (hk : xx_ok X) (v : Int32) : MZ yX4_isHeld cX4_isHeld 2 1 22 0 0 [.ref r, .int (v)] S (fun z S' => z = bI (heldB X v) ∧ S' = S) := by
  refine MA.of (by decide) (Nat.le_of_ble_eq_true rfl) ?_
  intro x hx he hini
  have hx : vv_C x cX4_isHeld RX4 1 22 2 := hx
  show vv_V x 0 0 0 [(0, .ref r), (1, .int (v))] [] S
  obtain ⟨k0, k1, k2, k3, k4, k5, k6, k7, k8, k9, k10, k11, k12, k13⟩ := id hk
  refine vv_iload_n hx dX4_isHeld_0 rfl ?_
  refine vv_iconst (v := nI 0) hx dX4_isHeld_1 (by decide) ?_
  refine vv_aload_n hx dX4_isHeld_2 rfl ?_
  refine rr_geti (e0 := X.1 10) 10 hx dX4_isHeld_3 kf_X4_29 (by decide) rfl rfl hR rfl ?_
  have b_3 : X.1 10 < 2 ^ 31 := hR.li 10
  refine vv_iconst (v := nI 1) hx dX4_isHeld_6 (by decide) ?_
  refine vv_isubN hx dX4_isHeld_7 (by omega) ?_
  refine vv_callS (As := [.int (v), .int (nI (0)), .int (nI ((X.1 10) - 1))]) hx dX4_isHeld_8 km_X4_44 kq_X4_in kt_X4_in (c_X4_in S v (nI 0) (nI (X.1 10 - 1))) rfl rfl (Nat.le_of_ble_eq_true rfl) (by decide) (by decide) rfl rfl (vv_cd ?_)
  refine vv_if_eqB (tgt := 43) hx dX4_isHeld_11 (by decide) (fun c_11 => ?_) (fun c_11 => ?_)
  · refine vv_iconst (v := nI 0) hx dX4_isHeld_43 (by decide) ?_
    exact vv_zret hx he dX4_isHeld_44 (by first | exact bI_01 _ | exact Or.inl rfl | exact Or.inr rfl) ⟨_, rfl, bI_f (by first | (simp [heldB, c_11]; done) | (simp only [heldB, c_11, hcl, heldN, Bool.true_and, Bool.or_eq_true, Bool.or_eq_false_iff, decide_eq_true_eq, decide_eq_false_iff_not]; omega)), rfl⟩
  · obtain ⟨j, -, hj, rfl⟩ := inb_nI c_11 (by omega) (by omega)
    have hcl : (nI j).toNatClampNeg = j := nI_clamp (by omega)
    refine vv_iload_n hx dX4_isHeld_14 rfl ?_
    refine vv_aload_n hx dX4_isHeld_15 rfl ?_
    refine rr_geti (e0 := X.1 15) 15 hx dX4_isHeld_16 kf_X4_48 (by decide) rfl rfl hR rfl ?_
    have b_16 : X.1 15 < 2 ^ 31 := hR.li 15
    refine vv_icmp_eqN (tgt := 39) hx dX4_isHeld_19 (by decide) (by omega) (by omega) (fun c_19 => ?_) (fun c_19 => ?_)
    · refine vv_iconst (v := nI 1) hx dX4_isHeld_39 (by decide) ?_
      refine vv_goto (tgt := 44) hx dX4_isHeld_40 (by decide) ?_
      exact vv_zret hx he dX4_isHeld_44 (by first | exact bI_01 _ | exact Or.inl rfl | exact Or.inr rfl) ⟨_, rfl, bI_t (by first | (simp [heldB, c_11]; done) | (simp only [heldB, c_11, hcl, heldN, Bool.true_and, Bool.or_eq_true, Bool.or_eq_false_iff, decide_eq_true_eq, decide_eq_false_iff_not]; omega)), rfl⟩
    · refine vv_iload_n hx dX4_isHeld_22 rfl ?_
      refine vv_aload_n hx dX4_isHeld_23 rfl ?_
      refine rr_geti (e0 := X.1 16) 16 hx dX4_isHeld_24 kf_X4_51 (by decide) rfl rfl hR rfl ?_
      have b_24 : X.1 16 < 2 ^ 31 := hR.li 16
      refine vv_icmp_eqN (tgt := 39) hx dX4_isHeld_27 (by decide) (by omega) (by omega) (fun c_27 => ?_) (fun c_27 => ?_)
      · refine vv_iconst (v := nI 1) hx dX4_isHeld_39 (by decide) ?_
        refine vv_goto (tgt := 44) hx dX4_isHeld_40 (by decide) ?_
        exact vv_zret hx he dX4_isHeld_44 (by first | exact bI_01 _ | exact Or.inl rfl | exact Or.inr rfl) ⟨_, rfl, bI_t (by first | (simp [heldB, c_11]; done) | (simp only [heldB, c_11, hcl, heldN, Bool.true_and, Bool.or_eq_true, Bool.or_eq_false_iff, decide_eq_true_eq, decide_eq_false_iff_not]; omega)), rfl⟩
      · refine vv_aload_n hx dX4_isHeld_30 rfl ?_
        refine rr_getr 14 hx dX4_isHeld_31 kf_X4_41 (by decide) rfl rfl hR ?_
        refine vv_iload_n hx dX4_isHeld_34 rfl ?_
        refine rr_iald (e0 := X.2.1 14 (j)) (n := 150) 14 hx dX4_isHeld_35 rfl hR rfl (by omega) (by first | rfl | simp [xA, xI, xE, xW]) ?_
        have b_35 : X.2.1 14 (j) < 2 ^ 31 := by have h9 := hR.lt 14 (j); first | exact h9 | simpa [xA, xI, xE, xW] using h9
        refine vv_if_leN (tgt := 43) hx dX4_isHeld_36 (by decide) (by omega) (fun c_36 => ?_) (fun c_36 => ?_)
        · refine vv_iconst (v := nI 0) hx dX4_isHeld_43 (by decide) ?_
          exact vv_zret hx he dX4_isHeld_44 (by first | exact bI_01 _ | exact Or.inl rfl | exact Or.inr rfl) ⟨_, rfl, bI_f (by first | (simp [heldB, c_11]; done) | (simp only [heldB, c_11, hcl, heldN, Bool.true_and, Bool.or_eq_true, Bool.or_eq_false_iff, decide_eq_true_eq, decide_eq_false_iff_not]; omega)), rfl⟩
        · refine vv_iconst (v := nI 1) hx dX4_isHeld_39 (by decide) ?_
          refine vv_goto (tgt := 44) hx dX4_isHeld_40 (by decide) ?_
          exact vv_zret hx he dX4_isHeld_44 (by first | exact bI_01 _ | exact Or.inl rfl | exact Or.inr rfl) ⟨_, rfl, bI_t (by first | (simp [heldB, c_11]; done) | (simp only [heldB, c_11, hcl, heldN, Bool.true_and, Bool.or_eq_true, Bool.or_eq_false_iff, decide_eq_true_eq, decide_eq_false_iff_not]; omega)), rfl⟩
set_option maxRecDepth 100000 in
set_option maxHeartbeats 4000000 in
theorem l_X4_change {S : mm_H} {r : Nat} {ad : Nat → Nat} {X : xx_X} (hR : xx_R S r ad X) {x : vv_X} {k n0 : Nat} (hx : vv_C x cX4_change RX4 0 0 4) (he : vv_E x (some .int) (fun zz S' => ∃ r0 : Int32, zz = some (.int r0) ∧ (fun z S' => z = nI (cg (X.2.1 1) k n0) ∧ S' = S) r0 S')) (hkk : k < 2 ^ 31) : ∀ n, n ≤ 600 → cg (X.2.1 1) k n0 = cg (X.2.1 1) k n → vv_V x 0 0 2 [(0, .ref r), (1, .int (nI (k))), (2, .int (nI (n0))), (3, .int (nI (n)))] [] S := by
  intro n
  induction n with
  | zero =>
    intro hn hc
    refine vv_iload_n hx dX4_change_2 rfl ?_
    refine vv_if_leN (tgt := 24) hx dX4_change_3 (by decide) (by omega) (fun c_3 => ?_) (fun c_3 => ?_)
    · refine vv_iconst (v := nI 0) hx dX4_change_24 (by decide) ?_
      exact vv_iret hx he dX4_change_25 ⟨_, rfl, by rw [hc]; rfl, rfl⟩
    · exfalso; omega
  | succ n ih =>
    intro hn hc
    rw [cg_s] at hc
    refine vv_iload_n hx dX4_change_2 rfl ?_
    refine vv_if_leN (tgt := 24) hx dX4_change_3 (by decide) (by omega) (fun c_3 => ?_) (fun c_3 => ?_)
    · exfalso; omega
    · refine vv_aload_n hx dX4_change_6 rfl ?_
      refine rr_getr 1 hx dX4_change_7 kf_X4_7 (by decide) rfl rfl hR ?_
      refine vv_iload_n hx dX4_change_10 rfl ?_
      refine rr_iald (e0 := X.2.1 1 (n + 1)) (n := 601) 1 hx dX4_change_11 rfl hR rfl (by omega) (by first | rfl | simp [xA, xI, xE, xW]) ?_
      have b_11 : X.2.1 1 (n + 1) < 2 ^ 31 := by have h9 := hR.lt 1 (n + 1); first | exact h9 | simpa [xA, xI, xE, xW] using h9
      refine vv_iload_n hx dX4_change_12 rfl ?_
      refine vv_icmp_neN (tgt := 18) hx dX4_change_13 (by decide) (by omega) (by omega) (fun c_13 => ?_) (fun c_13 => ?_)
      · refine vv_iinc (u := (nI (n))) (lv' := [(0, .ref r), (1, .int (nI (k))), (2, .int (nI (n0))), (3, .int (nI (n)))]) hx dX4_change_18 rfl (pk_m1 _) (by decide) rfl rfl ?_
        refine vv_goto (tgt := 2) hx dX4_change_21 (by decide) ?_
        exact ih (by omega) (by rw [hc, if_neg c_13])
      · refine vv_iload_n hx dX4_change_16 rfl ?_
        exact vv_iret hx he dX4_change_17 ⟨_, rfl, by rw [hc, if_pos c_13], rfl⟩
set_option maxRecDepth 100000 in
set_option maxHeartbeats 4000000 in
theorem c_X4_change {S : mm_H} {r : Nat} {ad : Nat → Nat} {X : xx_X} (hR : xx_R S r ad X) {k n0 : Nat} (hkk : k < 2 ^ 31) (hn : n0 ≤ 600) : MI yX4_change cX4_change 4 0 0 0 0 [.ref r, .int (nI (k)), .int (nI (n0))] S (fun z S' => z = nI (cg (X.2.1 1) k n0) ∧ S' = S) := by
  refine MA.of (by decide) (Nat.le_of_ble_eq_true rfl) ?_
  intro x hx he hini
  have hx : vv_C x cX4_change RX4 0 0 4 := hx
  show vv_V x 0 0 0 [(0, .ref r), (1, .int (nI (k))), (2, .int (nI (n0)))] [] S
  refine vv_iload_n hx dX4_change_0 rfl ?_
  refine vv_istore_n (lv' := [(0, .ref r), (1, .int (nI (k))), (2, .int (nI (n0))), (3, .int (nI (n0)))]) hx dX4_change_1 (by decide) rfl rfl ?_
  exact l_X4_change hR hx he hkk n0 hn rfl
set_option maxRecDepth 100000 in
set_option maxHeartbeats 4000000 in
theorem c_X4_written {S : mm_H} {r : Nat} {ad : Nat → Nat} {X : xx_X} (hR : xx_R S r ad X) {k n0 : Nat} (hkk : k < 2 ^ 31) (hn : n0 ≤ 600) : MI yX4_written cX4_written 4 1 23 0 0 [.ref r, .int (nI (k)), .int (nI (n0))] S (fun z S' => z = nI (wr X k n0) ∧ S' = S) := by
  refine MA.of (by decide) (Nat.le_of_ble_eq_true rfl) ?_
  intro x hx he hini
  have hx : vv_C x cX4_written RX4 1 23 4 := hx
  show vv_V x 0 0 0 [(0, .ref r), (1, .int (nI (k))), (2, .int (nI (n0)))] [] S
  have hcl := cg_le (X.2.1 1) k n0
  refine vv_aload_n hx dX4_written_0 rfl ?_
  refine vv_iload_n hx dX4_written_1 rfl ?_
  refine vv_iload_n hx dX4_written_2 rfl ?_
  refine vv_callV (As := [.int (nI (k)), .int (nI (n0))]) hx dX4_written_3 km_X4_54 kq_X4_change ki_X4_change ks_X4_change kl_4 hR.1 (c_X4_change hR hkk hn) rfl rfl (Nat.le_of_ble_eq_true rfl) (by decide) (by decide) rfl rfl (vv_cd ?_)
  refine vv_istore_n (lv' := [(0, .ref r), (1, .int (nI (k))), (2, .int (nI (n0))), (3, .int (nI (cg (X.2.1 1) k n0)))]) hx dX4_written_6 (by decide) rfl rfl ?_
  refine vv_iload_n hx dX4_written_7 rfl ?_
  refine vv_if_leN (tgt := 24) hx dX4_written_8 (by decide) (by omega) (fun c_8 => ?_) (fun c_8 => ?_)
  · refine vv_iconst (v := nI 0) hx dX4_written_24 (by decide) ?_
    exact vv_iret hx he dX4_written_25 ⟨_, rfl, congrArg nI (by unfold wr; split <;> omega), rfl⟩
  · refine vv_aload_n hx dX4_written_11 rfl ?_
    refine rr_getr 2 hx dX4_written_12 kf_X4_13 (by decide) rfl rfl hR ?_
    refine vv_iload_n hx dX4_written_15 rfl ?_
    refine rr_iald (e0 := X.2.1 2 (cg (X.2.1 1) k n0)) (n := 601) 2 hx dX4_written_16 rfl hR rfl (by omega) (by first | rfl | simp [xA, xI, xE, xW]) ?_
    have b_16 : X.2.1 2 (cg (X.2.1 1) k n0) < 2 ^ 31 := by have h9 := hR.lt 2 (cg (X.2.1 1) k n0); first | exact h9 | simpa [xA, xI, xE, xW] using h9
    refine vv_if_leN (tgt := 24) hx dX4_written_17 (by decide) (by omega) (fun c_17 => ?_) (fun c_17 => ?_)
    · refine vv_iconst (v := nI 0) hx dX4_written_24 (by decide) ?_
      exact vv_iret hx he dX4_written_25 ⟨_, rfl, congrArg nI (by unfold wr; split <;> omega), rfl⟩
    · refine vv_iload_n hx dX4_written_20 rfl ?_
      refine vv_goto (tgt := 25) hx dX4_written_21 (by decide) ?_
      exact vv_iret hx he dX4_written_25 ⟨_, rfl, congrArg nI (by unfold wr; split <;> omega), rfl⟩
set_option maxRecDepth 100000 in
set_option maxHeartbeats 4000000 in
theorem c_X4_add {S : mm_H} {r : Nat} {ad : Nat → Nat} {X : xx_X} (hR : xx_R S r ad X) {k w : Nat} (hkk : k < 2 ^ 31) (hw : w < 2 ^ 31) (hn : X.1 0 < 600) : MV yX4_add cX4_add 3 0 0 0 0 [.ref r, .int (nI (k)), .int (nI (w))] S (fun S' => xx_R S' r ad (xA (xA (xI X 0 (X.1 0 + 1)) 1 (X.1 0 + 1) k) 2 (X.1 0 + 1) w)) := by
  refine MA.of (by decide) (Nat.le_of_ble_eq_true rfl) ?_
  intro x hx he hini
  have hx : vv_C x cX4_add RX4 0 0 3 := hx
  show vv_V x 0 0 0 [(0, .ref r), (1, .int (nI (k))), (2, .int (nI (w)))] [] S
  refine vv_aload_n hx dX4_add_0 rfl ?_
  refine vv_dup hx dX4_add_1 rfl ?_
  refine rr_geti (e0 := X.1 0) 0 hx dX4_add_2 kf_X4_58 (by decide) rfl rfl hR rfl ?_
  have b_2 : X.1 0 < 2 ^ 31 := hR.li 0
  refine vv_iconst (v := nI 1) hx dX4_add_5 (by decide) ?_
  refine vv_iaddN hx dX4_add_6 ?_
  refine rr_puti 0 hx dX4_add_7 kf_X4_58 (by decide) rfl rfl rfl rfl hR (by omega) (fun S hR => ?_)
  refine vv_aload_n hx dX4_add_10 rfl ?_
  refine rr_getr 1 hx dX4_add_11 kf_X4_7 (by decide) rfl rfl hR ?_
  refine vv_aload_n hx dX4_add_14 rfl ?_
  refine rr_geti (e0 := (X.1 0) + 1) 0 hx dX4_add_15 kf_X4_58 (by decide) rfl rfl hR rfl ?_
  have b_15 : (X.1 0) + 1 < 2 ^ 31 := hR.li 0
  refine vv_iload_n hx dX4_add_18 rfl ?_
  refine rr_iast (n := 601) 1 hx dX4_add_19 rfl hR rfl (by omega) (by omega) (fun S hR => ?_)
  refine vv_aload_n hx dX4_add_20 rfl ?_
  refine rr_getr 2 hx dX4_add_21 kf_X4_13 (by decide) rfl rfl hR ?_
  refine vv_aload_n hx dX4_add_24 rfl ?_
  refine rr_geti (e0 := (X.1 0) + 1) 0 hx dX4_add_25 kf_X4_58 (by decide) rfl rfl hR rfl ?_
  have b_25 : (X.1 0) + 1 < 2 ^ 31 := hR.li 0
  refine vv_iload_n hx dX4_add_28 rfl ?_
  refine rr_iast (n := 601) 2 hx dX4_add_29 rfl hR rfl (by omega) (by omega) (fun S hR => ?_)
  exact vv_vret hx he dX4_add_30 ⟨rfl, hR⟩
set_option maxRecDepth 100000 in
set_option maxHeartbeats 4000000 in
theorem c_X4_hasNews {S : mm_H} {r : Nat} {ad : Nat → Nat} {X : xx_X} (hR : xx_R S r ad X) (hk : xx_ok X) : MZ yX4_hasNews cX4_hasNews 1 0 0 0 0 [.ref r] S (fun z S' => z = bI (newsB X) ∧ S' = S) := by
  refine MA.of (by decide) (Nat.le_of_ble_eq_true rfl) ?_
  intro x hx he hini
  have hx : vv_C x cX4_hasNews RX4 0 0 1 := hx
  show vv_V x 0 0 0 [(0, .ref r)] [] S
  obtain ⟨k0, k1, k2, k3, k4, k5, k6, k7, k8, k9, k10, k11, k12, k13⟩ := id hk
  refine vv_aload_n hx dX4_hasNews_0 rfl ?_
  refine rr_getr 11 hx dX4_hasNews_1 kf_X4_32 (by decide) rfl rfl hR ?_
  refine vv_aload_n hx dX4_hasNews_4 rfl ?_
  refine rr_geti (e0 := X.1 15) 15 hx dX4_hasNews_5 kf_X4_48 (by decide) rfl rfl hR rfl ?_
  have b_5 : X.1 15 < 2 ^ 31 := hR.li 15
  refine rr_iald (e0 := X.2.1 11 (X.1 15)) (n := 150) 11 hx dX4_hasNews_8 rfl hR rfl (by omega) (by first | rfl | simp [xA, xI, xE, xW]) ?_
  have b_8 : X.2.1 11 (X.1 15) < 2 ^ 31 := by have h9 := hR.lt 11 (X.1 15); first | exact h9 | simpa [xA, xI, xE, xW] using h9
  refine vv_aload_n hx dX4_hasNews_9 rfl ?_
  refine rr_geti (e0 := X.1 0) 0 hx dX4_hasNews_10 kf_X4_58 (by decide) rfl rfl hR rfl ?_
  have b_10 : X.1 0 < 2 ^ 31 := hR.li 0
  refine vv_icmp_geN (tgt := 20) hx dX4_hasNews_13 (by decide) (by omega) (by omega) (fun c_13 => ?_) (fun c_13 => ?_)
  · refine vv_iconst (v := nI 0) hx dX4_hasNews_20 (by decide) ?_
    exact vv_zret hx he dX4_hasNews_21 (by first | exact bI_01 _ | exact Or.inl rfl | exact Or.inr rfl) ⟨_, rfl, bI_f (by simp [newsB]; omega), rfl⟩
  · refine vv_iconst (v := nI 1) hx dX4_hasNews_16 (by decide) ?_
    refine vv_goto (tgt := 21) hx dX4_hasNews_17 (by decide) ?_
    exact vv_zret hx he dX4_hasNews_21 (by first | exact bI_01 _ | exact Or.inl rfl | exact Or.inr rfl) ⟨_, rfl, bI_t (by simp [newsB]; omega), rfl⟩
set_option maxRecDepth 100000 in
set_option maxHeartbeats 4000000 in
theorem c_X4_has {S : mm_H} {r : Nat} {ad : Nat → Nat} {X : xx_X} (hR : xx_R S r ad X) (hk : xx_ok X) {v k : Nat} (q : Int32) (hv : v < 150) (hkk : k < 16) : MZ yX4_has cX4_has 5 2 46 0 0 [.ref r, .int (nI (v)), .int (nI (k)), .int (q)] S (fun z S' => z = bI (hasB X v k q) ∧ S' = S) := by
  refine MA.of (by decide) (Nat.le_of_ble_eq_true rfl) ?_
  intro x hx he hini
  have hx : vv_C x cX4_has RX4 2 46 5 := hx
  show vv_V x 0 0 0 [(0, .ref r), (1, .int (nI (v))), (2, .int (nI (k))), (3, .int (q))] [] S
  obtain ⟨k0, k1, k2, k3, k4, k5, k6, k7, k8, k9, k10, k11, k12, k13⟩ := id hk
  refine vv_aload_n hx dX4_has_0 rfl ?_
  refine vv_iload_n hx dX4_has_1 rfl ?_
  refine vv_aload_n hx dX4_has_2 rfl ?_
  refine rr_getr 11 hx dX4_has_3 kf_X4_32 (by decide) rfl rfl hR ?_
  refine vv_iload_n hx dX4_has_6 rfl ?_
  refine rr_iald (e0 := X.2.1 11 (v)) (n := 150) 11 hx dX4_has_7 rfl hR rfl (by omega) (by first | rfl | simp [xA, xI, xE, xW]) ?_
  have b_7 : X.2.1 11 (v) < 2 ^ 31 := by have h9 := hR.lt 11 (v); first | exact h9 | simpa [xA, xI, xE, xW] using h9
  refine vv_callV (As := [.int (nI (k)), .int (nI (X.2.1 11 (v)))]) hx dX4_has_8 km_X4_61 kq_X4_written ki_X4_written ks_X4_written kl_4 hR.1 (c_X4_written hR (by omega) (k11 v)) rfl rfl (Nat.le_of_ble_eq_true rfl) (by decide) (by decide) rfl rfl (vv_cd ?_)
  have hwl := wr_le X k (X.2.1 11 v)
  have h11 := k11 v
  refine vv_istore (lv' := [(0, .ref r), (1, .int (nI (v))), (2, .int (nI (k))), (3, .int (q)), (4, .int (nI (wr X k (X.2.1 11 v))))]) hx dX4_has_11 (by decide) rfl rfl ?_
  refine vv_iload hx dX4_has_13 rfl ?_
  refine vv_if_leN (tgt := 35) hx dX4_has_15 (by decide) (by omega) (fun c_15 => ?_) (fun c_15 => ?_)
  · refine vv_iconst (v := nI 0) hx dX4_has_35 (by decide) ?_
    exact vv_zret hx he dX4_has_36 (by first | exact bI_01 _ | exact Or.inl rfl | exact Or.inr rfl) ⟨_, rfl, bI_f (by first | (simp only [hasB, Bool.and_eq_false_iff, decide_eq_false_iff_not]; first | (left; omega) | (right; assumption)) | (simp only [hasB, Bool.and_eq_true, decide_eq_true_eq]; exact ⟨by omega, by assumption⟩)), rfl⟩
  · refine vv_aload_n hx dX4_has_18 rfl ?_
    refine rr_getr 2 hx dX4_has_19 kf_X4_13 (by decide) rfl rfl hR ?_
    refine vv_iload hx dX4_has_22 rfl ?_
    refine rr_iald (e0 := X.2.1 2 (wr X k (X.2.1 11 v))) (n := 601) 2 hx dX4_has_24 rfl hR rfl (by omega) (by first | rfl | simp [xA, xI, xE, xW]) ?_
    have b_24 : X.2.1 2 (wr X k (X.2.1 11 v)) < 2 ^ 31 := by have h9 := hR.lt 2 (wr X k (X.2.1 11 v)); first | exact h9 | simpa [xA, xI, xE, xW] using h9
    refine vv_iload_n hx dX4_has_25 rfl ?_
    refine vv_iand hx dX4_has_26 ?_
    refine vv_iload_n hx dX4_has_27 rfl ?_
    refine vv_icmp_ne (tgt := 35) hx dX4_has_28 (by decide) (fun c_28 => ?_) (fun c_28 => ?_)
    · refine vv_iconst (v := nI 0) hx dX4_has_35 (by decide) ?_
      exact vv_zret hx he dX4_has_36 (by first | exact bI_01 _ | exact Or.inl rfl | exact Or.inr rfl) ⟨_, rfl, bI_f (by first | (simp only [hasB, Bool.and_eq_false_iff, decide_eq_false_iff_not]; first | (left; omega) | (right; assumption)) | (simp only [hasB, Bool.and_eq_true, decide_eq_true_eq]; exact ⟨by omega, by assumption⟩)), rfl⟩
    · refine vv_iconst (v := nI 1) hx dX4_has_31 (by decide) ?_
      refine vv_goto (tgt := 36) hx dX4_has_32 (by decide) ?_
      exact vv_zret hx he dX4_has_36 (by first | exact bI_01 _ | exact Or.inl rfl | exact Or.inr rfl) ⟨_, rfl, bI_t (by first | (simp only [hasB, Bool.and_eq_false_iff, decide_eq_false_iff_not]; first | (left; omega) | (right; assumption)) | (simp only [hasB, Bool.and_eq_true, decide_eq_true_eq]; exact ⟨by omega, by assumption⟩)), rfl⟩
