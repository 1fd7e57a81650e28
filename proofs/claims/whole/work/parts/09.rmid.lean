set_option maxRecDepth 100000 in
set_option maxHeartbeats 4000000 in
theorem l_X4_live {S : mm_H} {r : Nat} {ad : Nat → Nat} {X : xx_X} (hR : xx_R S r ad X) (k9 : ∀ i, X.2.1 7 i ≤ 16) (k10 : ∀ i, X.2.1 8 i ≤ 600) (k7 : ∀ i, X.2.1 1 i < 16) {x : vv_X} {sg n0 : Nat} (hx : vv_C x cX4_live RX4 1 23 6) (he : vv_E x (some .int) (fun zz S' => ∃ r0 : Int32, zz = some (.int r0) ∧ (fun z S' => z = nI (liveN X sg n0) ∧ S' = S) r0 S')) (hs : sg < 320) (hn : n0 ≤ 600) : ∀ d i, i + d = X.2.1 7 sg → vv_V x 0 0 5 [(0, .ref r), (1, .int (nI (sg))), (2, .int (nI (n0))), (3, .int (nI (cntN (lvB X sg n0) i))), (4, .int (nI (i)))] [] S := by
  intro d
  induction d with
  | zero =>
    intro i hi
    have hcn := cntN_le (lvB X sg n0) i
    have h16 := k9 sg
    refine vv_iload hx dX4_live_5 rfl ?_
    refine vv_aload_n hx dX4_live_7 rfl ?_
    refine rr_getr 7 hx dX4_live_8 kf_X4_23 (by decide) rfl rfl hR ?_
    refine vv_iload_n hx dX4_live_11 rfl ?_
    refine rr_iald (e0 := X.2.1 7 (sg)) (n := 320) 7 hx dX4_live_12 rfl hR rfl (by omega) (by first | rfl | simp [xA, xI, xE, xW]) ?_
    have b_12 : X.2.1 7 (sg) < 2 ^ 31 := by have h9 := hR.lt 7 (sg); first | exact h9 | simpa [xA, xI, xE, xW] using h9
    refine vv_icmp_geN (tgt := 61) hx dX4_live_13 (by decide) (by omega) (by omega) (fun c_13 => ?_) (fun c_13 => ?_)
    · refine vv_iload_n hx dX4_live_61 rfl ?_
      exact vv_iret hx he dX4_live_62 ⟨_, rfl, by rw [liveN, ← hi, Nat.add_zero], rfl⟩
    · exfalso; omega
  | succ d ih =>
    intro i hi
    have hcn := cntN_le (lvB X sg n0) i
    have h16 := k9 sg
    have hrow := k10 (16 * sg + i)
    refine vv_iload hx dX4_live_5 rfl ?_
    refine vv_aload_n hx dX4_live_7 rfl ?_
    refine rr_getr 7 hx dX4_live_8 kf_X4_23 (by decide) rfl rfl hR ?_
    refine vv_iload_n hx dX4_live_11 rfl ?_
    refine rr_iald (e0 := X.2.1 7 (sg)) (n := 320) 7 hx dX4_live_12 rfl hR rfl (by omega) (by first | rfl | simp [xA, xI, xE, xW]) ?_
    have b_12 : X.2.1 7 (sg) < 2 ^ 31 := by have h9 := hR.lt 7 (sg); first | exact h9 | simpa [xA, xI, xE, xW] using h9
    refine vv_icmp_geN (tgt := 61) hx dX4_live_13 (by decide) (by omega) (by omega) (fun c_13 => ?_) (fun c_13 => ?_)
    · exfalso; omega
    · refine vv_aload_n hx dX4_live_16 rfl ?_
      refine rr_getr 8 hx dX4_live_17 kf_X4_26 (by decide) rfl rfl hR ?_
      refine vv_bipush (v := nI 16) hx dX4_live_20 (by decide) ?_
      refine vv_iload_n hx dX4_live_22 rfl ?_
      refine vv_imulN hx dX4_live_23 ?_
      refine vv_iload hx dX4_live_24 rfl ?_
      refine vv_iaddN hx dX4_live_26 ?_
      refine rr_iald (e0 := X.2.1 8 ((16 * sg) + i)) (n := 5120) 8 hx dX4_live_27 rfl hR rfl (by omega) (by first | rfl | simp [xA, xI, xE, xW]) ?_
      have b_27 : X.2.1 8 ((16 * sg) + i) < 2 ^ 31 := by have h9 := hR.lt 8 ((16 * sg) + i); first | exact h9 | simpa [xA, xI, xE, xW] using h9
      refine vv_istore (lv' := [(0, .ref r), (1, .int (nI (sg))), (2, .int (nI (n0))), (3, .int (nI (cntN (lvB X sg n0) i))), (4, .int (nI (i))), (5, .int (nI (X.2.1 8 ((16 * sg) + i))))]) hx dX4_live_28 (by decide) rfl rfl ?_
      refine vv_iload_n hx dX4_live_30 rfl ?_
      refine vv_aload_n hx dX4_live_31 rfl ?_
      refine vv_aload_n hx dX4_live_32 rfl ?_
      refine rr_getr 1 hx dX4_live_33 kf_X4_7 (by decide) rfl rfl hR ?_
      refine vv_iload hx dX4_live_36 rfl ?_
      refine rr_iald (e0 := X.2.1 1 (X.2.1 8 ((16 * sg) + i))) (n := 601) 1 hx dX4_live_38 rfl hR rfl (by omega) (by first | rfl | simp [xA, xI, xE, xW]) ?_
      have b_38 : X.2.1 1 (X.2.1 8 ((16 * sg) + i)) < 2 ^ 31 := by have h9 := hR.lt 1 (X.2.1 8 ((16 * sg) + i)); first | exact h9 | simpa [xA, xI, xE, xW] using h9
      refine vv_iload_n hx dX4_live_39 rfl ?_
      refine vv_callV (As := [.int (nI (X.2.1 1 (X.2.1 8 ((16 * sg) + i)))), .int (nI (n0))]) hx dX4_live_40 km_X4_54 kq_X4_change ki_X4_change ks_X4_change kl_4 hR.1 (c_X4_change hR (by have := k7 (X.2.1 8 (16 * sg + i)); omega) hn) rfl rfl (Nat.le_of_ble_eq_true rfl) (by decide) (by decide) rfl rfl (vv_cd ?_)
      have hcl := cg_le (X.2.1 1) (X.2.1 1 (X.2.1 8 (16 * sg + i))) n0
      refine vv_iload hx dX4_live_43 rfl ?_
      refine vv_icmp_neN (tgt := 52) hx dX4_live_45 (by decide) (by omega) (by omega) (fun c_45 => ?_) (fun c_45 => ?_)
      · refine vv_iconst (v := nI 0) hx dX4_live_52 (by decide) ?_
        refine vv_iaddN hx dX4_live_53 ?_
        refine vv_istore_n (lv' := [(0, .ref r), (1, .int (nI (sg))), (2, .int (nI (n0))), (3, .int (nI ((cntN (lvB X sg n0) i) + 0))), (4, .int (nI (i))), (5, .int (nI (X.2.1 8 ((16 * sg) + i))))]) hx dX4_live_54 (by decide) rfl rfl ?_
        refine vv_iinc (u := (nI (i + 1))) (lv' := [(0, .ref r), (1, .int (nI (sg))), (2, .int (nI (n0))), (3, .int (nI ((cntN (lvB X sg n0) i) + 0))), (4, .int (nI (i + 1))), (5, .int (nI (X.2.1 8 ((16 * sg) + i))))]) hx dX4_live_55 rfl (nI_1 _) (by decide) rfl rfl ?_
        refine vv_goto (tgt := 5) hx dX4_live_58 (by decide) ?_
        have e : cntN (lvB X sg n0) (i + 1) = (cntN (lvB X sg n0) i) + 0 := by
          rw [cntN_s, show lvB X sg n0 i = false from by simp [lvB, c_45]]; rfl
        rw [← e]
        exact vv_sub [0, 1, 2, 3, 4] rfl (ih (i + 1) (by omega))
      · refine vv_iconst (v := nI 1) hx dX4_live_48 (by decide) ?_
        refine vv_goto (tgt := 53) hx dX4_live_49 (by decide) ?_
        refine vv_iaddN hx dX4_live_53 ?_
        refine vv_istore_n (lv' := [(0, .ref r), (1, .int (nI (sg))), (2, .int (nI (n0))), (3, .int (nI ((cntN (lvB X sg n0) i) + 1))), (4, .int (nI (i))), (5, .int (nI (X.2.1 8 ((16 * sg) + i))))]) hx dX4_live_54 (by decide) rfl rfl ?_
        refine vv_iinc (u := (nI (i + 1))) (lv' := [(0, .ref r), (1, .int (nI (sg))), (2, .int (nI (n0))), (3, .int (nI ((cntN (lvB X sg n0) i) + 1))), (4, .int (nI (i + 1))), (5, .int (nI (X.2.1 8 ((16 * sg) + i))))]) hx dX4_live_55 rfl (nI_1 _) (by decide) rfl rfl ?_
        refine vv_goto (tgt := 5) hx dX4_live_58 (by decide) ?_
        have e : cntN (lvB X sg n0) (i + 1) = (cntN (lvB X sg n0) i) + 1 := by
          rw [cntN_s, show lvB X sg n0 i = true from by simp [lvB, c_45]]; rfl
        rw [← e]
        exact vv_sub [0, 1, 2, 3, 4] rfl (ih (i + 1) (by omega))
set_option maxRecDepth 100000 in
set_option maxHeartbeats 4000000 in
theorem c_X4_live {S : mm_H} {r : Nat} {ad : Nat → Nat} {X : xx_X} (hR : xx_R S r ad X) (k9 : ∀ i, X.2.1 7 i ≤ 16) (k10 : ∀ i, X.2.1 8 i ≤ 600) (k7 : ∀ i, X.2.1 1 i < 16) {sg n0 : Nat} (hs : sg < 320) (hn : n0 ≤ 600) : MI yX4_live cX4_live 6 1 23 0 0 [.ref r, .int (nI (sg)), .int (nI (n0))] S (fun z S' => z = nI (liveN X sg n0) ∧ S' = S) := by
  refine MA.of (by decide) (Nat.le_of_ble_eq_true rfl) ?_
  intro x hx he hini
  have hx : vv_C x cX4_live RX4 1 23 6 := hx
  show vv_V x 0 0 0 [(0, .ref r), (1, .int (nI (sg))), (2, .int (nI (n0)))] [] S
  refine vv_iconst (v := nI 0) hx dX4_live_0 (by decide) ?_
  refine vv_istore_n (lv' := [(0, .ref r), (1, .int (nI (sg))), (2, .int (nI (n0))), (3, .int (nI (0)))]) hx dX4_live_1 (by decide) rfl rfl ?_
  refine vv_iconst (v := nI 0) hx dX4_live_2 (by decide) ?_
  refine vv_istore (lv' := [(0, .ref r), (1, .int (nI (sg))), (2, .int (nI (n0))), (3, .int (nI (0))), (4, .int (nI (0)))]) hx dX4_live_3 (by decide) rfl rfl ?_
  exact l_X4_live hR k9 k10 k7 hx he hs hn (X.2.1 7 sg) 0 (by omega)
set_option maxRecDepth 100000 in
set_option maxHeartbeats 4000000 in
theorem l_X4_bits {S : mm_H} {x : vv_X} {v : Int32} (hx : vv_C x cX4_bits RX4 0 0 3) (he : vv_E x (some .int) (fun zz S' => ∃ r0 : Int32, zz = some (.int r0) ∧ (fun z S' => z = bitsN v 8 ∧ S' = S) r0 S')) : ∀ d b, b + d = 8 → vv_V x 0 0 4 [(0, .int v), (1, .int (bitsN v b)), (2, .int (nI b))] [] S := by
  intro d
  induction d with
  | zero =>
    intro b hb
    refine vv_iload_n hx dX4_bits_4 rfl ?_
    refine vv_bipush (v := nI 8) hx dX4_bits_5 (by decide) ?_
    refine vv_icmp_geN (tgt := 24) hx dX4_bits_7 (by decide) (by omega) (by omega) (fun c_7 => ?_) (fun c_7 => ?_)
    · refine vv_iload_n hx dX4_bits_24 rfl ?_
      exact vv_iret hx he dX4_bits_25 ⟨_, rfl, by rw [show b = 8 by omega], rfl⟩
    · exfalso; omega
  | succ d ih =>
    intro b hb
    refine vv_iload_n hx dX4_bits_4 rfl ?_
    refine vv_bipush (v := nI 8) hx dX4_bits_5 (by decide) ?_
    refine vv_icmp_geN (tgt := 24) hx dX4_bits_7 (by decide) (by omega) (by omega) (fun c_7 => ?_) (fun c_7 => ?_)
    · exfalso; omega
    · refine vv_iload_n hx dX4_bits_10 rfl ?_
      refine vv_iload_n hx dX4_bits_11 rfl ?_
      refine vv_iload_n hx dX4_bits_12 rfl ?_
      refine vv_ishr hx dX4_bits_13 ?_
      refine vv_iconst (v := nI 1) hx dX4_bits_14 (by decide) ?_
      refine vv_iand hx dX4_bits_15 ?_
      refine vv_iadd hx dX4_bits_16 ?_
      refine vv_istore_n (lv' := [(0, .int (v)), (1, .int ((bitsN v b) + ((v >>> (nI (b) &&& 31)) &&& nI (1)))), (2, .int (nI (b)))]) hx dX4_bits_17 (by decide) rfl rfl ?_
      refine vv_iinc (u := (nI (b + 1))) (lv' := [(0, .int (v)), (1, .int ((bitsN v b) + ((v >>> (nI (b) &&& 31)) &&& nI (1)))), (2, .int (nI (b + 1)))]) hx dX4_bits_18 rfl (nI_1 _) (by decide) rfl rfl ?_
      refine vv_goto (tgt := 4) hx dX4_bits_21 (by decide) ?_
      exact ih (b + 1) (by omega)
set_option maxRecDepth 100000 in
set_option maxHeartbeats 4000000 in
theorem c_X4_bits (S : mm_H) (v : Int32) : MI yX4_bits cX4_bits 3 0 0 0 0 [.int (v)] S (fun z S' => z = bitsN v 8 ∧ S' = S) := by
  refine MA.of (by decide) (Nat.le_of_ble_eq_true rfl) ?_
  intro x hx he hini
  have hx : vv_C x cX4_bits RX4 0 0 3 := hx
  show vv_V x 0 0 0 [(0, .int (v))] [] S
  refine vv_iconst (v := nI 0) hx dX4_bits_0 (by decide) ?_
  refine vv_istore_n (lv' := [(0, .int (v)), (1, .int (nI (0)))]) hx dX4_bits_1 (by decide) rfl rfl ?_
  refine vv_iconst (v := nI 0) hx dX4_bits_2 (by decide) ?_
  refine vv_istore_n (lv' := [(0, .int (v)), (1, .int (nI (0))), (2, .int (nI (0)))]) hx dX4_bits_3 (by decide) rfl rfl ?_
  exact l_X4_bits hx he 8 0 rfl
set_option maxRecDepth 100000 in
set_option maxHeartbeats 4000000 in
theorem c_X4_worth {S : mm_H} {r : Nat} {ad : Nat → Nat} {X : xx_X} (hR : xx_R S r ad X) (hk : xx_ok X) {v k : Nat} (w : Int32) (hv : v < 150) (hkk : k < 16) : MI yX4_worth cX4_worth 5 2 46 0 0 [.ref r, .int (nI (v)), .int (nI (k)), .int (w)] S (fun z S' => z = worthN X v k w ∧ S' = S) := by
  refine MA.of (by decide) (Nat.le_of_ble_eq_true rfl) ?_
  intro x hx he hini
  have hx : vv_C x cX4_worth RX4 2 46 5 := hx
  show vv_V x 0 0 0 [(0, .ref r), (1, .int (nI (v))), (2, .int (nI (k))), (3, .int (w))] [] S
  obtain ⟨k0, k1, k2, k3, k4, k5, k6, k7, k8, k9, k10, k11, k12, k13⟩ := id hk
  refine vv_aload_n hx dX4_worth_0 rfl ?_
  refine vv_iload_n hx dX4_worth_1 rfl ?_
  refine vv_aload_n hx dX4_worth_2 rfl ?_
  refine rr_getr 11 hx dX4_worth_3 kf_X4_32 (by decide) rfl rfl hR ?_
  refine vv_iload_n hx dX4_worth_6 rfl ?_
  refine rr_iald (e0 := X.2.1 11 (v)) (n := 150) 11 hx dX4_worth_7 rfl hR rfl (by omega) (by first | rfl | simp [xA, xI, xE, xW]) ?_
  have b_7 : X.2.1 11 (v) < 2 ^ 31 := by have h9 := hR.lt 11 (v); first | exact h9 | simpa [xA, xI, xE, xW] using h9
  refine vv_callV (As := [.int (nI (k)), .int (nI (X.2.1 11 (v)))]) hx dX4_worth_8 km_X4_61 kq_X4_written ki_X4_written ks_X4_written kl_4 hR.1 (c_X4_written hR (by omega) (k11 v)) rfl rfl (Nat.le_of_ble_eq_true rfl) (by decide) (by decide) rfl rfl (vv_cd ?_)
  have hwl := wr_le X k (X.2.1 11 v)
  have h11 := k11 v
  refine vv_istore (lv' := [(0, .ref r), (1, .int (nI (v))), (2, .int (nI (k))), (3, .int (w)), (4, .int (nI (wr X k (X.2.1 11 v))))]) hx dX4_worth_11 (by decide) rfl rfl ?_
  refine vv_sipush (v := nI 1000) hx dX4_worth_13 (by decide) ?_
  refine vv_aload_n hx dX4_worth_16 rfl ?_
  refine rr_getr 2 hx dX4_worth_17 kf_X4_13 (by decide) rfl rfl hR ?_
  refine vv_iload hx dX4_worth_20 rfl ?_
  refine rr_iald (e0 := X.2.1 2 (wr X k (X.2.1 11 v))) (n := 601) 2 hx dX4_worth_22 rfl hR rfl (by omega) (by first | rfl | simp [xA, xI, xE, xW]) ?_
  have b_22 : X.2.1 2 (wr X k (X.2.1 11 v)) < 2 ^ 31 := by have h9 := hR.lt 2 (wr X k (X.2.1 11 v)); first | exact h9 | simpa [xA, xI, xE, xW] using h9
  refine vv_iload_n hx dX4_worth_23 rfl ?_
  refine vv_iand hx dX4_worth_24 ?_
  refine vv_callS (As := [.int (nI (X.2.1 2 (wr X k (X.2.1 11 v))) &&& w)]) hx dX4_worth_25 km_X4_104 kq_X4_bits kt_X4_bits (c_X4_bits S _) rfl rfl (Nat.le_of_ble_eq_true rfl) (by decide) (by decide) rfl rfl (vv_cd ?_)
  refine vv_imul hx dX4_worth_28 ?_
  refine vv_iload hx dX4_worth_29 rfl ?_
  refine vv_iadd hx dX4_worth_31 ?_
  exact vv_iret hx he dX4_worth_32 ⟨_, rfl, rfl, rfl⟩
set_option maxRecDepth 100000 in
set_option maxHeartbeats 4000000 in
theorem c_X4_told {S : mm_H} {r : Nat} {ad : Nat → Nat} {X : xx_X} (hR : xx_R S r ad X) (hk : xx_ok X) {k w : Nat} (e : Int32) (hkk : k < 16) (hw : w ≤ 255) : MI yX4_told cX4_told 5 2 46 0 0 [.ref r, .int (nI (k)), .int (nI (w)), .int (e)] S (fun z S' => z = (sp_told3 X k w e).1 ∧ xx_R S' r ad (sp_told3 X k w e).2) := by
  refine MA.of (by decide) (Nat.le_of_ble_eq_true rfl) ?_
  intro x hx he hini
  have hx : vv_C x cX4_told RX4 2 46 5 := hx
  show vv_V x 0 0 0 [(0, .ref r), (1, .int (nI (k))), (2, .int (nI (w))), (3, .int (e))] [] S
  obtain ⟨k0, k1, k2, k3, k4, k5, k6, k7, k8, k9, k10, k11, k12, k13⟩ := id hk
  refine vv_aload_n hx dX4_told_0 rfl ?_
  refine vv_iload_n hx dX4_told_1 rfl ?_
  refine vv_aload_n hx dX4_told_2 rfl ?_
  refine rr_geti (e0 := X.1 0) 0 hx dX4_told_3 kf_X4_58 (by decide) rfl rfl hR rfl ?_
  have b_3 : X.1 0 < 2 ^ 31 := hR.li 0
  refine vv_callV (As := [.int (nI (k)), .int (nI (X.1 0))]) hx dX4_told_6 km_X4_61 kq_X4_written ki_X4_written ks_X4_written kl_4 hR.1 (c_X4_written hR (by omega) k0) rfl rfl (Nat.le_of_ble_eq_true rfl) (by decide) (by decide) rfl rfl (vv_cd ?_)
  have hwl := wr_le X k (X.1 0)
  refine vv_istore (lv' := [(0, .ref r), (1, .int (nI (k))), (2, .int (nI (w))), (3, .int (e)), (4, .int (nI (wr X k (X.1 0))))]) hx dX4_told_9 (by decide) rfl rfl ?_
  refine vv_iload_n hx dX4_told_11 rfl ?_
  refine vv_iconst (v := -1) hx dX4_told_12 (by decide) ?_
  refine vv_icmp_eq (tgt := 36) hx dX4_told_13 (by decide) (fun c_13 => ?_) (fun c_13 => ?_)
  · refine vv_aload_n hx dX4_told_36 rfl ?_
    refine rr_geti (e0 := X.1 0) 0 hx dX4_told_37 kf_X4_58 (by decide) rfl rfl hR rfl ?_
    have b_37 : X.1 0 < 2 ^ 31 := hR.li 0
    refine vv_sipush (v := nI 600) hx dX4_told_40 (by decide) ?_
    refine vv_icmp_neN (tgt := 49) hx dX4_told_43 (by decide) (by omega) (by omega) (fun c_43 => ?_) (fun c_43 => ?_)
    · refine vv_aload_n hx dX4_told_49 rfl ?_
      refine vv_iload_n hx dX4_told_50 rfl ?_
      refine vv_iload_n hx dX4_told_51 rfl ?_
      refine vv_callV (As := [.int (nI (k)), .int (nI (w))]) hx dX4_told_52 km_X4_64 kq_X4_add ki_X4_add ks_X4_add kl_4 hR.1 (c_X4_add hR (by omega) (by omega) (by omega)) rfl rfl (Nat.le_of_ble_eq_true rfl) (by decide) (by decide) rfl rfl (vv_cv fun S hR => ?_)
      refine vv_aload_n hx dX4_told_55 rfl ?_
      refine rr_geti (e0 := X.1 0 + 1) 0 hx dX4_told_56 kf_X4_58 (by decide) rfl rfl hR rfl ?_
      have b_56 : X.1 0 + 1 < 2 ^ 31 := hR.li 0
      exact vv_iret hx he dX4_told_59 ⟨_, rfl, by rw [show sp_told3 X k w e = (nI (X.1 0 + 1), (xA (xA (xI X 0 (X.1 0 + 1)) 1 (X.1 0 + 1) (k)) 2 (X.1 0 + 1) (w))) from by simp [sp_told3, c_13, c_43]]; exact ⟨rfl, hR⟩⟩
    · refine vv_bipush (v := -5) hx dX4_told_46 (by decide) ?_
      exact vv_iret hx he dX4_told_48 ⟨_, rfl, by rw [show sp_told3 X k w e = ((-5), X) from by simp [sp_told3, c_13, c_43]]; exact ⟨rfl, hR⟩⟩
  · refine vv_iload_n hx dX4_told_16 rfl ?_
    refine vv_iload hx dX4_told_17 rfl ?_
    refine vv_icmp_eq (tgt := 36) hx dX4_told_19 (by decide) (fun c_19 => ?_) (fun c_19 => ?_)
    · refine vv_aload_n hx dX4_told_36 rfl ?_
      refine rr_geti (e0 := X.1 0) 0 hx dX4_told_37 kf_X4_58 (by decide) rfl rfl hR rfl ?_
      have b_37 : X.1 0 < 2 ^ 31 := hR.li 0
      refine vv_sipush (v := nI 600) hx dX4_told_40 (by decide) ?_
      refine vv_icmp_neN (tgt := 49) hx dX4_told_43 (by decide) (by omega) (by omega) (fun c_43 => ?_) (fun c_43 => ?_)
      · refine vv_aload_n hx dX4_told_49 rfl ?_
        refine vv_iload_n hx dX4_told_50 rfl ?_
        refine vv_iload_n hx dX4_told_51 rfl ?_
        refine vv_callV (As := [.int (nI (k)), .int (nI (w))]) hx dX4_told_52 km_X4_64 kq_X4_add ki_X4_add ks_X4_add kl_4 hR.1 (c_X4_add hR (by omega) (by omega) (by omega)) rfl rfl (Nat.le_of_ble_eq_true rfl) (by decide) (by decide) rfl rfl (vv_cv fun S hR => ?_)
        refine vv_aload_n hx dX4_told_55 rfl ?_
        refine rr_geti (e0 := X.1 0 + 1) 0 hx dX4_told_56 kf_X4_58 (by decide) rfl rfl hR rfl ?_
        have b_56 : X.1 0 + 1 < 2 ^ 31 := hR.li 0
        exact vv_iret hx he dX4_told_59 ⟨_, rfl, by rw [show sp_told3 X k w e = (nI (X.1 0 + 1), (xA (xA (xI X 0 (X.1 0 + 1)) 1 (X.1 0 + 1) (k)) 2 (X.1 0 + 1) (w))) from by simp [sp_told3, c_13, c_19, c_43]]; exact ⟨rfl, hR⟩⟩
      · refine vv_bipush (v := -5) hx dX4_told_46 (by decide) ?_
        exact vv_iret hx he dX4_told_48 ⟨_, rfl, by rw [show sp_told3 X k w e = ((-5), X) from by simp [sp_told3, c_13, c_19, c_43]]; exact ⟨rfl, hR⟩⟩
    · refine vv_aload_n hx dX4_told_22 rfl ?_
      refine vv_iload_n hx dX4_told_23 rfl ?_
      refine rr_put4 hx dX4_told_24 kf_X4_16 hR (fun S hR => ?_)
      refine vv_aload_n hx dX4_told_27 rfl ?_
      refine vv_iload hx dX4_told_28 rfl ?_
      refine rr_put5 hx dX4_told_30 kf_X4_20 hR (fun S hR => ?_)
      refine vv_bipush (v := -4) hx dX4_told_33 (by decide) ?_
      exact vv_iret hx he dX4_told_35 ⟨_, rfl, by rw [show sp_told3 X k w e = ((-4), (xW (xE X (e)) (nI (wr X k (X.1 0))))) from by simp [sp_told3, c_13, c_19]]; exact ⟨rfl, hR⟩⟩
set_option maxRecDepth 100000 in
set_option maxHeartbeats 4000000 in
theorem c_X4_write {S : mm_H} {r : Nat} {ad : Nat → Nat} {X : xx_X} (hR : xx_R S r ad X) (hk : xx_ok X) (key words e : Int32) : MI yX4_write cX4_write 4 3 70 0 0 [.ref r, .int (key), .int (words), .int (e)] S (fun z S' => z = (sp_write X key words e).1 ∧ xx_R S' r ad (sp_write X key words e).2) := by
  refine MA.of (by decide) (Nat.le_of_ble_eq_true rfl) ?_
  intro x hx he hini
  have hx : vv_C x cX4_write RX4 3 70 4 := hx
  show vv_V x 0 0 0 [(0, .ref r), (1, .int (key)), (2, .int (words)), (3, .int (e))] [] S
  refine vv_iload_n hx dX4_write_0 rfl ?_
  refine vv_iconst (v := nI 0) hx dX4_write_1 (by decide) ?_
  refine vv_bipush (v := nI 15) hx dX4_write_2 (by decide) ?_
  refine vv_callS (As := [.int (key), .int (nI (0)), .int (nI (15))]) hx dX4_write_4 km_X4_44 kq_X4_in kt_X4_in (c_X4_in S _ _ _) rfl rfl (Nat.le_of_ble_eq_true rfl) (by decide) (by decide) rfl rfl (vv_cd ?_)
  refine vv_if_eqB (tgt := 26) hx dX4_write_7 (by decide) (fun c_7 => ?_) (fun c_7 => ?_)
  · refine vv_bipush (v := -3) hx dX4_write_26 (by decide) ?_
    exact vv_iret hx he dX4_write_28 ⟨_, rfl, by rw [show sp_write X key words e = ((-3), X) from by simp [sp_write, c_7]]; exact ⟨rfl, hR⟩⟩
  · refine vv_iload_n hx dX4_write_10 rfl ?_
    refine vv_iconst (v := nI 1) hx dX4_write_11 (by decide) ?_
    refine vv_sipush (v := nI 255) hx dX4_write_12 (by decide) ?_
    refine vv_callS (As := [.int (words), .int (nI (1)), .int (nI (255))]) hx dX4_write_15 km_X4_44 kq_X4_in kt_X4_in (c_X4_in S _ _ _) rfl rfl (Nat.le_of_ble_eq_true rfl) (by decide) (by decide) rfl rfl (vv_cd ?_)
    refine vv_if_eqB (tgt := 26) hx dX4_write_18 (by decide) (fun c_18 => ?_) (fun c_18 => ?_)
    · refine vv_bipush (v := -3) hx dX4_write_26 (by decide) ?_
      exact vv_iret hx he dX4_write_28 ⟨_, rfl, by rw [show sp_write X key words e = ((-3), X) from by simp [sp_write, c_7, c_18]]; exact ⟨rfl, hR⟩⟩
    · refine vv_iload_n hx dX4_write_21 rfl ?_
      refine vv_iconst (v := -1) hx dX4_write_22 (by decide) ?_
      refine vv_icmp_ge (tgt := 29) hx dX4_write_23 (by decide) (fun c_23 => ?_) (fun c_23 => ?_)
      · obtain ⟨k, -, hk1, rfl⟩ := inb_nI c_7 (by decide) (by decide)
        obtain ⟨w, -, hw1, rfl⟩ := inb_nI c_18 (by decide) (by decide)
        have hkc : (nI k).toNatClampNeg = k := nI_clamp (by omega)
        have hwc : (nI w).toNatClampNeg = w := nI_clamp (by omega)
        refine vv_aload_n hx dX4_write_29 rfl ?_
        refine vv_iload_n hx dX4_write_30 rfl ?_
        refine vv_iload_n hx dX4_write_31 rfl ?_
        refine vv_iload_n hx dX4_write_32 rfl ?_
        refine vv_callV (As := [.int (nI (k)), .int (nI (w)), .int (e)]) hx dX4_write_33 km_X4_68 kq_X4_told ki_X4_told ks_X4_told kl_4 hR.1 (c_X4_told hR hk e (by omega) (by omega)) rfl rfl (Nat.le_of_ble_eq_true rfl) (by decide) (by decide) rfl rfl (vv_ci fun z S hz => ?_)
        exact vv_iret hx he dX4_write_36 ⟨_, rfl, by rw [show sp_write X (nI k) (nI w) e = sp_told3 X k w e from by simp [sp_write, c_7, c_18, c_23, hkc, hwc]]; exact hz⟩
      · refine vv_bipush (v := -3) hx dX4_write_26 (by decide) ?_
        exact vv_iret hx he dX4_write_28 ⟨_, rfl, by rw [show sp_write X key words e = ((-3), X) from by simp [sp_write, c_7, c_18, c_23]]; exact ⟨rfl, hR⟩⟩
set_option maxRecDepth 100000 in
set_option maxHeartbeats 4000000 in
theorem c_X4_remove {S : mm_H} {r : Nat} {ad : Nat → Nat} {X : xx_X} (hR : xx_R S r ad X) (hk : xx_ok X) (key e : Int32) : MI yX4_remove cX4_remove 3 3 70 0 0 [.ref r, .int (key), .int (e)] S (fun z S' => z = (sp_remove X key e).1 ∧ xx_R S' r ad (sp_remove X key e).2) := by
  refine MA.of (by decide) (Nat.le_of_ble_eq_true rfl) ?_
  intro x hx he hini
  have hx : vv_C x cX4_remove RX4 3 70 3 := hx
  show vv_V x 0 0 0 [(0, .ref r), (1, .int (key)), (2, .int (e))] [] S
  refine vv_iload_n hx dX4_remove_0 rfl ?_
  refine vv_iconst (v := nI 0) hx dX4_remove_1 (by decide) ?_
  refine vv_bipush (v := nI 15) hx dX4_remove_2 (by decide) ?_
  refine vv_callS (As := [.int (key), .int (nI (0)), .int (nI (15))]) hx dX4_remove_4 km_X4_44 kq_X4_in kt_X4_in (c_X4_in S _ _ _) rfl rfl (Nat.le_of_ble_eq_true rfl) (by decide) (by decide) rfl rfl (vv_cd ?_)
  refine vv_if_eqB (tgt := 15) hx dX4_remove_7 (by decide) (fun c_7 => ?_) (fun c_7 => ?_)
  · refine vv_bipush (v := -3) hx dX4_remove_15 (by decide) ?_
    exact vv_iret hx he dX4_remove_17 ⟨_, rfl, by rw [show sp_remove X key e = ((-3), X) from by simp [sp_remove, c_7]]; exact ⟨rfl, hR⟩⟩
  · refine vv_iload_n hx dX4_remove_10 rfl ?_
    refine vv_iconst (v := -1) hx dX4_remove_11 (by decide) ?_
    refine vv_icmp_ge (tgt := 18) hx dX4_remove_12 (by decide) (fun c_12 => ?_) (fun c_12 => ?_)
    · obtain ⟨k, -, hk1, rfl⟩ := inb_nI c_7 (by decide) (by decide)
      have hkc : (nI k).toNatClampNeg = k := nI_clamp (by omega)
      refine vv_aload_n hx dX4_remove_18 rfl ?_
      refine vv_iload_n hx dX4_remove_19 rfl ?_
      refine vv_iconst (v := nI 0) hx dX4_remove_20 (by decide) ?_
      refine vv_iload_n hx dX4_remove_21 rfl ?_
      refine vv_callV (As := [.int (nI (k)), .int (nI (0)), .int (e)]) hx dX4_remove_22 km_X4_68 kq_X4_told ki_X4_told ks_X4_told kl_4 hR.1 (c_X4_told hR hk e (by omega) (by omega)) rfl rfl (Nat.le_of_ble_eq_true rfl) (by decide) (by decide) rfl rfl (vv_ci fun z S hz => ?_)
      exact vv_iret hx he dX4_remove_25 ⟨_, rfl, by rw [show sp_remove X (nI k) e = sp_told3 X k 0 e from by simp [sp_remove, c_7, c_12, hkc]]; exact hz⟩
    · refine vv_bipush (v := -3) hx dX4_remove_15 (by decide) ?_
      exact vv_iret hx he dX4_remove_17 ⟨_, rfl, by rw [show sp_remove X key e = ((-3), X) from by simp [sp_remove, c_7, c_12]]; exact ⟨rfl, hR⟩⟩
set_option maxRecDepth 100000 in
set_option maxHeartbeats 4000000 in
theorem c_X4_conflict {S : mm_H} {r : Nat} {ad : Nat → Nat} {X : xx_X} (hR : xx_R S r ad X) (a : Int32) : MI yX4_conflict cX4_conflict 2 0 0 0 0 [.ref r, .int (a)] S (fun z S' => z = sp_conflict X a ∧ S' = S) := by
  refine MA.of (by decide) (Nat.le_of_ble_eq_true rfl) ?_
  intro x hx he hini
  have hx : vv_C x cX4_conflict RX4 0 0 2 := hx
  show vv_V x 0 0 0 [(0, .ref r), (1, .int (a))] [] S
  refine vv_iload_n hx dX4_conflict_0 rfl ?_
  refine vv_if_ne (tgt := 11) hx dX4_conflict_1 (by decide) (fun c_1 => ?_) (fun c_1 => ?_)
  · refine vv_iload_n hx dX4_conflict_11 rfl ?_
    refine vv_iconst (v := nI 1) hx dX4_conflict_12 (by decide) ?_
    refine vv_icmp_ne (tgt := 23) hx dX4_conflict_13 (by decide) (fun c_13 => ?_) (fun c_13 => ?_)
    · refine vv_iload_n hx dX4_conflict_23 rfl ?_
      refine vv_iconst (v := nI 2) hx dX4_conflict_24 (by decide) ?_
      refine vv_icmp_ne (tgt := 35) hx dX4_conflict_25 (by decide) (fun c_25 => ?_) (fun c_25 => ?_)
      · refine vv_bipush (v := -3) hx dX4_conflict_35 (by decide) ?_
        exact vv_iret hx he dX4_conflict_37 ⟨_, rfl, by unfold sp_conflict; first | rw [if_pos c_1] | (rw [if_neg c_1]; first | rw [if_pos c_13] | (rw [if_neg c_13]; first | rw [if_pos c_25] | rw [if_neg c_25])), rfl⟩
      · refine vv_aload_n hx dX4_conflict_28 rfl ?_
        refine rr_get5 hx dX4_conflict_29 kf_X4_20 hR ?_
        refine vv_goto (tgt := 37) hx dX4_conflict_32 (by decide) ?_
        exact vv_iret hx he dX4_conflict_37 ⟨_, rfl, by unfold sp_conflict; first | rw [if_pos c_1] | (rw [if_neg c_1]; first | rw [if_pos c_13] | (rw [if_neg c_13]; first | rw [if_pos c_25] | rw [if_neg c_25])), rfl⟩
    · refine vv_aload_n hx dX4_conflict_16 rfl ?_
      refine rr_get4 hx dX4_conflict_17 kf_X4_16 hR ?_
      refine vv_goto (tgt := 37) hx dX4_conflict_20 (by decide) ?_
      exact vv_iret hx he dX4_conflict_37 ⟨_, rfl, by unfold sp_conflict; first | rw [if_pos c_1] | (rw [if_neg c_1]; first | rw [if_pos c_13] | (rw [if_neg c_13]; first | rw [if_pos c_25] | rw [if_neg c_25])), rfl⟩
  · refine vv_aload_n hx dX4_conflict_4 rfl ?_
    refine rr_geti (e0 := X.1 3) 3 hx dX4_conflict_5 kf_X4_79 (by decide) rfl rfl hR rfl ?_
    have b_5 : X.1 3 < 2 ^ 31 := hR.li 3
    refine vv_goto (tgt := 37) hx dX4_conflict_8 (by decide) ?_
    exact vv_iret hx he dX4_conflict_37 ⟨_, rfl, by unfold sp_conflict; first | rw [if_pos c_1] | (rw [if_neg c_1]; first | rw [if_pos c_13] | (rw [if_neg c_13]; first | rw [if_pos c_25] | rw [if_neg c_25])), rfl⟩
set_option maxRecDepth 100000 in
set_option maxHeartbeats 4000000 in
theorem c_X4_sync {S : mm_H} {r : Nat} {ad : Nat → Nat} {X : xx_X} (hR : xx_R S r ad X) (hk : xx_ok X) : MI yX4_sync cX4_sync 2 0 0 0 0 [.ref r] S (fun z S' => z = (sp_sync X).1 ∧ xx_R S' r ad (sp_sync X).2) := by
  refine MA.of (by decide) (Nat.le_of_ble_eq_true rfl) ?_
  intro x hx he hini
  have hx : vv_C x cX4_sync RX4 0 0 2 := hx
  show vv_V x 0 0 0 [(0, .ref r)] [] S
  obtain ⟨k0, k1, k2, k3, k4, k5, k6, k7, k8, k9, k10, k11, k12, k13⟩ := id hk
  refine vv_aload_n hx dX4_sync_0 rfl ?_
  refine rr_geti (e0 := X.1 0) 0 hx dX4_sync_1 kf_X4_58 (by decide) rfl rfl hR rfl ?_
  have b_1 : X.1 0 < 2 ^ 31 := hR.li 0
  refine vv_aload_n hx dX4_sync_4 rfl ?_
  refine rr_geti (e0 := X.1 17) 17 hx dX4_sync_5 kf_X4_101 (by decide) rfl rfl hR rfl ?_
  have b_5 : X.1 17 < 2 ^ 31 := hR.li 17
  refine vv_isubN hx dX4_sync_8 (by omega) ?_
  refine vv_istore_n (lv' := [(0, .ref r), (1, .int (nI ((X.1 0) - (X.1 17))))]) hx dX4_sync_9 (by decide) rfl rfl ?_
  refine vv_aload_n hx dX4_sync_10 rfl ?_
  refine vv_aload_n hx dX4_sync_11 rfl ?_
  refine rr_geti (e0 := X.1 0) 0 hx dX4_sync_12 kf_X4_58 (by decide) rfl rfl hR rfl ?_
  have b_12 : X.1 0 < 2 ^ 31 := hR.li 0
  refine rr_puti 17 hx dX4_sync_15 kf_X4_101 (by decide) rfl rfl rfl rfl hR (by omega) (fun S hR => ?_)
  refine vv_iload_n hx dX4_sync_18 rfl ?_
  exact vv_iret hx he dX4_sync_19 ⟨_, rfl, by rw [show sp_sync X = (nI ((X.1 0) - (X.1 17)), (xI X 17 (X.1 0))) from by simp [sp_sync]]; exact ⟨rfl, hR⟩⟩
set_option maxRecDepth 100000 in
set_option maxHeartbeats 4000000 in
theorem c_X4_open {S : mm_H} {r : Nat} {ad : Nat → Nat} {X : xx_X} (hR : xx_R S r ad X) (hk : xx_ok X) (v : Int32) (ho : ∀ j, X.2.1 14 j < 1000) : MI yX4_open cX4_open 2 2 43 0 0 [.ref r, .int (v)] S (fun z S' => z = (sp_open X v).1 ∧ xx_R S' r ad (sp_open X v).2) := by
  refine MA.of (by decide) (Nat.le_of_ble_eq_true rfl) ?_
  intro x hx he hini
  have hx : vv_C x cX4_open RX4 2 43 2 := hx
  show vv_V x 0 0 0 [(0, .ref r), (1, .int (v))] [] S
  obtain ⟨k0, k1, k2, k3, k4, k5, k6, k7, k8, k9, k10, k11, k12, k13⟩ := id hk
  refine vv_aload_n hx dX4_open_0 rfl ?_
  refine vv_iload_n hx dX4_open_1 rfl ?_
  refine vv_callV (As := [.int (v)]) hx dX4_open_2 km_X4_72 kq_X4_isHeld ki_X4_isHeld ks_X4_isHeld kl_4 hR.1 (c_X4_isHeld hR hk _) rfl rfl (Nat.le_of_ble_eq_true rfl) (by decide) (by decide) rfl rfl (vv_cd ?_)
  refine vv_if_neB (tgt := 11) hx dX4_open_5 (by decide) (fun c_5 => ?_) (fun c_5 => ?_)
  · obtain ⟨j, hj, rfl, hh⟩ := heldB_true c_5 k1 k2
    have hjc : (nI j).toNatClampNeg = j := nI_clamp (by omega)
    have hoj := ho j
    refine vv_aload_n hx dX4_open_11 rfl ?_
    refine rr_getr 14 hx dX4_open_12 kf_X4_41 (by decide) rfl rfl hR ?_
    refine vv_iload_n hx dX4_open_15 rfl ?_
    refine vv_dup2 hx dX4_open_16 rfl rfl ?_
    refine rr_iald (e0 := X.2.1 14 (j)) (n := 150) 14 hx dX4_open_17 rfl hR rfl (by omega) (by first | rfl | simp [xA, xI, xE, xW]) ?_
    have b_17 : X.2.1 14 (j) < 2 ^ 31 := by have h9 := hR.lt 14 (j); first | exact h9 | simpa [xA, xI, xE, xW] using h9
    refine vv_iconst (v := nI 1) hx dX4_open_18 (by decide) ?_
    refine vv_iaddN hx dX4_open_19 ?_
    refine rr_iast (n := 150) 14 hx dX4_open_20 rfl hR rfl (by omega) (by omega) (fun S hR => ?_)
    refine vv_aload_n hx dX4_open_21 rfl ?_
    refine rr_getr 14 hx dX4_open_22 kf_X4_41 (by decide) rfl rfl hR ?_
    refine vv_iload_n hx dX4_open_25 rfl ?_
    refine rr_iald (e0 := (X.2.1 14 (j)) + 1) (n := 150) 14 hx dX4_open_26 rfl hR rfl (by omega) (by first | rfl | simp [xA, xI, xE, xW]) ?_
    have b_26 : (X.2.1 14 (j)) + 1 < 2 ^ 31 := by have h9 := hR.lt 14 (j); first | exact h9 | simpa [xA, xI, xE, xW] using h9
    exact vv_iret hx he dX4_open_27 ⟨_, rfl, by rw [show sp_open X (nI j) = (nI ((X.2.1 14 (j)) + 1), (xA X 14 (j) ((X.2.1 14 (j)) + 1))) from by simp [sp_open, c_5, hjc]]; exact ⟨rfl, hR⟩⟩
  · refine vv_bipush (v := -2) hx dX4_open_8 (by decide) ?_
    exact vv_iret hx he dX4_open_10 ⟨_, rfl, by rw [show sp_open X v = ((-2), X) from by simp [sp_open, c_5]]; exact ⟨rfl, hR⟩⟩
set_option maxRecDepth 100000 in
set_option maxHeartbeats 4000000 in
theorem c_X4_close {S : mm_H} {r : Nat} {ad : Nat → Nat} {X : xx_X} (hR : xx_R S r ad X) (hk : xx_ok X) (v : Int32) : MI yX4_close cX4_close 2 2 43 0 0 [.ref r, .int (v)] S (fun z S' => z = (sp_close X v).1 ∧ xx_R S' r ad (sp_close X v).2) := by
  refine MA.of (by decide) (Nat.le_of_ble_eq_true rfl) ?_
  intro x hx he hini
  have hx : vv_C x cX4_close RX4 2 43 2 := hx
  show vv_V x 0 0 0 [(0, .ref r), (1, .int (v))] [] S
  obtain ⟨k0, k1, k2, k3, k4, k5, k6, k7, k8, k9, k10, k11, k12, k13⟩ := id hk
  refine vv_aload_n hx dX4_close_0 rfl ?_
  refine vv_iload_n hx dX4_close_1 rfl ?_
  refine vv_callV (As := [.int (v)]) hx dX4_close_2 km_X4_72 kq_X4_isHeld ki_X4_isHeld ks_X4_isHeld kl_4 hR.1 (c_X4_isHeld hR hk _) rfl rfl (Nat.le_of_ble_eq_true rfl) (by decide) (by decide) rfl rfl (vv_cd ?_)
  refine vv_if_neB (tgt := 11) hx dX4_close_5 (by decide) (fun c_5 => ?_) (fun c_5 => ?_)
  · obtain ⟨j, hj, rfl, hh⟩ := heldB_true c_5 k1 k2
    have hjc : (nI j).toNatClampNeg = j := nI_clamp (by omega)
    refine vv_aload_n hx dX4_close_11 rfl ?_
    refine rr_getr 14 hx dX4_close_12 kf_X4_41 (by decide) rfl rfl hR ?_
    refine vv_iload_n hx dX4_close_15 rfl ?_
    refine rr_iald (e0 := X.2.1 14 (j)) (n := 150) 14 hx dX4_close_16 rfl hR rfl (by omega) (by first | rfl | simp [xA, xI, xE, xW]) ?_
    have b_16 : X.2.1 14 (j) < 2 ^ 31 := by have h9 := hR.lt 14 (j); first | exact h9 | simpa [xA, xI, xE, xW] using h9
    refine vv_if_neN (tgt := 23) hx dX4_close_17 (by decide) (by omega) (fun c_17 => ?_) (fun c_17 => ?_)
    · refine vv_aload_n hx dX4_close_23 rfl ?_
      refine rr_getr 14 hx dX4_close_24 kf_X4_41 (by decide) rfl rfl hR ?_
      refine vv_iload_n hx dX4_close_27 rfl ?_
      refine vv_dup2 hx dX4_close_28 rfl rfl ?_
      refine rr_iald (e0 := X.2.1 14 (j)) (n := 150) 14 hx dX4_close_29 rfl hR rfl (by omega) (by first | rfl | simp [xA, xI, xE, xW]) ?_
      have b_29 : X.2.1 14 (j) < 2 ^ 31 := by have h9 := hR.lt 14 (j); first | exact h9 | simpa [xA, xI, xE, xW] using h9
      refine vv_iconst (v := nI 1) hx dX4_close_30 (by decide) ?_
      refine vv_isubN hx dX4_close_31 (by omega) ?_
      refine rr_iast (n := 150) 14 hx dX4_close_32 rfl hR rfl (by omega) (by omega) (fun S hR => ?_)
      refine vv_aload_n hx dX4_close_33 rfl ?_
      refine rr_getr 14 hx dX4_close_34 kf_X4_41 (by decide) rfl rfl hR ?_
      refine vv_iload_n hx dX4_close_37 rfl ?_
      refine rr_iald (e0 := (X.2.1 14 (j)) - 1) (n := 150) 14 hx dX4_close_38 rfl hR rfl (by omega) (by first | rfl | simp [xA, xI, xE, xW]) ?_
      have b_38 : (X.2.1 14 (j)) - 1 < 2 ^ 31 := by have h9 := hR.lt 14 (j); first | exact h9 | simpa [xA, xI, xE, xW] using h9
      exact vv_iret hx he dX4_close_39 ⟨_, rfl, by rw [show sp_close X (nI j) = (nI ((X.2.1 14 (j)) - 1), (xA X 14 (j) ((X.2.1 14 (j)) - 1))) from by simp [sp_close, c_5, c_17, hjc]]; exact ⟨rfl, hR⟩⟩
    · refine vv_bipush (v := -3) hx dX4_close_20 (by decide) ?_
      exact vv_iret hx he dX4_close_22 ⟨_, rfl, by rw [show sp_close X (nI j) = ((-3), X) from by simp [sp_close, c_5, c_17, hjc]]; exact ⟨rfl, hR⟩⟩
  · refine vv_bipush (v := -2) hx dX4_close_8 (by decide) ?_
    exact vv_iret hx he dX4_close_10 ⟨_, rfl, by rw [show sp_close X v = ((-2), X) from by simp [sp_close, c_5]]; exact ⟨rfl, hR⟩⟩
set_option maxRecDepth 100000 in
set_option maxHeartbeats 4000000 in
theorem c_X4_get {S : mm_H} {r : Nat} {ad : Nat → Nat} {X : xx_X} (hR : xx_R S r ad X) (hk : xx_ok X) (key : Int32) : MI yX4_get cX4_get 2 2 46 0 0 [.ref r, .int (key)] S (fun z S' => z = sp_get X key ∧ S' = S) := by
  refine MA.of (by decide) (Nat.le_of_ble_eq_true rfl) ?_
  intro x hx he hini
  have hx : vv_C x cX4_get RX4 2 46 2 := hx
  show vv_V x 0 0 0 [(0, .ref r), (1, .int (key))] [] S
  obtain ⟨k0, k1, k2, k3, k4, k5, k6, k7, k8, k9, k10, k11, k12, k13⟩ := id hk
  refine vv_iload_n hx dX4_get_0 rfl ?_
  refine vv_iconst (v := nI 0) hx dX4_get_1 (by decide) ?_
  refine vv_bipush (v := nI 15) hx dX4_get_2 (by decide) ?_
  refine vv_callS (As := [.int (key), .int (nI (0)), .int (nI (15))]) hx dX4_get_4 km_X4_44 kq_X4_in kt_X4_in (c_X4_in S _ _ _) rfl rfl (Nat.le_of_ble_eq_true rfl) (by decide) (by decide) rfl rfl (vv_cd ?_)
  refine vv_if_neB (tgt := 13) hx dX4_get_7 (by decide) (fun c_7 => ?_) (fun c_7 => ?_)
  · obtain ⟨k, hk0, hk1, rfl⟩ := inb_nI c_7 (by decide) (by decide)
    have hkc : (nI k).toNatClampNeg = k := nI_clamp (by omega)
    refine vv_aload_n hx dX4_get_13 rfl ?_
    refine rr_getr 2 hx dX4_get_14 kf_X4_13 (by decide) rfl rfl hR ?_
    refine vv_aload_n hx dX4_get_17 rfl ?_
    refine vv_iload_n hx dX4_get_18 rfl ?_
    refine vv_aload_n hx dX4_get_19 rfl ?_
    refine rr_geti (e0 := X.1 0) 0 hx dX4_get_20 kf_X4_58 (by decide) rfl rfl hR rfl ?_
    have b_20 : X.1 0 < 2 ^ 31 := hR.li 0
    refine vv_callV (As := [.int (nI (k)), .int (nI (X.1 0))]) hx dX4_get_23 km_X4_61 kq_X4_written ki_X4_written ks_X4_written kl_4 hR.1 (c_X4_written hR (by omega) k0) rfl rfl (Nat.le_of_ble_eq_true rfl) (by decide) (by decide) rfl rfl (vv_cd ?_)
    have hwl := wr_le X k (X.1 0)
    refine rr_iald (e0 := X.2.1 2 (wr X k (X.1 0))) (n := 601) 2 hx dX4_get_26 rfl hR rfl (by omega) (by first | rfl | simp [xA, xI, xE, xW]) ?_
    have b_26 : X.2.1 2 (wr X k (X.1 0)) < 2 ^ 31 := by have h9 := hR.lt 2 (wr X k (X.1 0)); first | exact h9 | simpa [xA, xI, xE, xW] using h9
    exact vv_iret hx he dX4_get_27 ⟨_, rfl, by simp [sp_get, c_7, hkc], rfl⟩
  · refine vv_bipush (v := -3) hx dX4_get_10 (by decide) ?_
    exact vv_iret hx he dX4_get_12 ⟨_, rfl, by simp [sp_get, c_7], rfl⟩
set_option maxRecDepth 100000 in
set_option maxHeartbeats 4000000 in
theorem c_X4_number {S : mm_H} {r : Nat} {ad : Nat → Nat} {X : xx_X} (hR : xx_R S r ad X) (hk : xx_ok X) (key : Int32) : MI yX4_number cX4_number 2 1 23 0 0 [.ref r, .int (key)] S (fun z S' => z = sp_number X key ∧ S' = S) := by
  refine MA.of (by decide) (Nat.le_of_ble_eq_true rfl) ?_
  intro x hx he hini
  have hx : vv_C x cX4_number RX4 1 23 2 := hx
  show vv_V x 0 0 0 [(0, .ref r), (1, .int (key))] [] S
  obtain ⟨k0, k1, k2, k3, k4, k5, k6, k7, k8, k9, k10, k11, k12, k13⟩ := id hk
  refine vv_iload_n hx dX4_number_0 rfl ?_
  refine vv_iconst (v := nI 0) hx dX4_number_1 (by decide) ?_
  refine vv_bipush (v := nI 15) hx dX4_number_2 (by decide) ?_
  refine vv_callS (As := [.int (key), .int (nI (0)), .int (nI (15))]) hx dX4_number_4 km_X4_44 kq_X4_in kt_X4_in (c_X4_in S _ _ _) rfl rfl (Nat.le_of_ble_eq_true rfl) (by decide) (by decide) rfl rfl (vv_cd ?_)
  refine vv_if_eqB (tgt := 22) hx dX4_number_7 (by decide) (fun c_7 => ?_) (fun c_7 => ?_)
  · refine vv_bipush (v := -3) hx dX4_number_22 (by decide) ?_
    exact vv_iret hx he dX4_number_24 ⟨_, rfl, by simp [sp_number, c_7], rfl⟩
  · obtain ⟨k, hk0, hk1, rfl⟩ := inb_nI c_7 (by decide) (by decide)
    have hkc : (nI k).toNatClampNeg = k := nI_clamp (by omega)
    refine vv_aload_n hx dX4_number_10 rfl ?_
    refine vv_iload_n hx dX4_number_11 rfl ?_
    refine vv_aload_n hx dX4_number_12 rfl ?_
    refine rr_geti (e0 := X.1 0) 0 hx dX4_number_13 kf_X4_58 (by decide) rfl rfl hR rfl ?_
    have b_13 : X.1 0 < 2 ^ 31 := hR.li 0
    refine vv_callV (As := [.int (nI (k)), .int (nI (X.1 0))]) hx dX4_number_16 km_X4_54 kq_X4_change ki_X4_change ks_X4_change kl_4 hR.1 (c_X4_change hR (by omega) k0) rfl rfl (Nat.le_of_ble_eq_true rfl) (by decide) (by decide) rfl rfl (vv_cd ?_)
    refine vv_goto (tgt := 24) hx dX4_number_19 (by decide) ?_
    exact vv_iret hx he dX4_number_24 ⟨_, rfl, by simp [sp_number, c_7, hkc], rfl⟩
set_option maxRecDepth 100000 in
set_option maxHeartbeats 4000000 in
theorem c_X4_at {S : mm_H} {r : Nat} {ad : Nat → Nat} {X : xx_X} (hR : xx_R S r ad X) (hk : xx_ok X) (v key : Int32) : MI yX4_at cX4_at 3 2 46 0 0 [.ref r, .int (v), .int (key)] S (fun z S' => z = sp_at X v key ∧ S' = S) := by
  refine MA.of (by decide) (Nat.le_of_ble_eq_true rfl) ?_
  intro x hx he hini
  have hx : vv_C x cX4_at RX4 2 46 3 := hx
  show vv_V x 0 0 0 [(0, .ref r), (1, .int (v)), (2, .int (key))] [] S
  obtain ⟨k0, k1, k2, k3, k4, k5, k6, k7, k8, k9, k10, k11, k12, k13⟩ := id hk
  refine vv_aload_n hx dX4_at_0 rfl ?_
  refine vv_iload_n hx dX4_at_1 rfl ?_
  refine vv_callV (As := [.int (v)]) hx dX4_at_2 km_X4_72 kq_X4_isHeld ki_X4_isHeld ks_X4_isHeld kl_4 hR.1 (c_X4_isHeld hR hk _) rfl rfl (Nat.le_of_ble_eq_true rfl) (by decide) (by decide) rfl rfl (vv_cd ?_)
  refine vv_if_neB (tgt := 11) hx dX4_at_5 (by decide) (fun c_5 => ?_) (fun c_5 => ?_)
  · obtain ⟨j, hj, rfl, hh⟩ := heldB_true c_5 k1 k2
    have hjc : (nI j).toNatClampNeg = j := nI_clamp (by omega)
    refine vv_iload_n hx dX4_at_11 rfl ?_
    refine vv_iconst (v := nI 0) hx dX4_at_12 (by decide) ?_
    refine vv_bipush (v := nI 15) hx dX4_at_13 (by decide) ?_
    refine vv_callS (As := [.int (key), .int (nI (0)), .int (nI (15))]) hx dX4_at_15 km_X4_44 kq_X4_in kt_X4_in (c_X4_in S _ _ _) rfl rfl (Nat.le_of_ble_eq_true rfl) (by decide) (by decide) rfl rfl (vv_cd ?_)
    refine vv_if_eqB (tgt := 40) hx dX4_at_18 (by decide) (fun c_18 => ?_) (fun c_18 => ?_)
    · refine vv_bipush (v := -3) hx dX4_at_40 (by decide) ?_
      exact vv_iret hx he dX4_at_42 ⟨_, rfl, by simp [sp_at, c_5, c_18, hjc], rfl⟩
    · obtain ⟨k, hk0, hk1, rfl⟩ := inb_nI c_18 (by decide) (by decide)
      have hkc : (nI k).toNatClampNeg = k := nI_clamp (by omega)
      refine vv_aload_n hx dX4_at_21 rfl ?_
      refine rr_getr 2 hx dX4_at_22 kf_X4_13 (by decide) rfl rfl hR ?_
      refine vv_aload_n hx dX4_at_25 rfl ?_
      refine vv_iload_n hx dX4_at_26 rfl ?_
      refine vv_aload_n hx dX4_at_27 rfl ?_
      refine rr_getr 11 hx dX4_at_28 kf_X4_32 (by decide) rfl rfl hR ?_
      refine vv_iload_n hx dX4_at_31 rfl ?_
      refine rr_iald (e0 := X.2.1 11 (j)) (n := 150) 11 hx dX4_at_32 rfl hR rfl (by omega) (by first | rfl | simp [xA, xI, xE, xW]) ?_
      have b_32 : X.2.1 11 (j) < 2 ^ 31 := by have h9 := hR.lt 11 (j); first | exact h9 | simpa [xA, xI, xE, xW] using h9
      refine vv_callV (As := [.int (nI (k)), .int (nI (X.2.1 11 (j)))]) hx dX4_at_33 km_X4_61 kq_X4_written ki_X4_written ks_X4_written kl_4 hR.1 (c_X4_written hR (by omega) (k11 j)) rfl rfl (Nat.le_of_ble_eq_true rfl) (by decide) (by decide) rfl rfl (vv_cd ?_)
      have hwl := wr_le X k (X.2.1 11 j)
      have h11 := k11 j
      refine rr_iald (e0 := X.2.1 2 (wr X k (X.2.1 11 j))) (n := 601) 2 hx dX4_at_36 rfl hR rfl (by omega) (by first | rfl | simp [xA, xI, xE, xW]) ?_
      have b_36 : X.2.1 2 (wr X k (X.2.1 11 j)) < 2 ^ 31 := by have h9 := hR.lt 2 (wr X k (X.2.1 11 j)); first | exact h9 | simpa [xA, xI, xE, xW] using h9
      refine vv_goto (tgt := 42) hx dX4_at_37 (by decide) ?_
      exact vv_iret hx he dX4_at_42 ⟨_, rfl, by simp [sp_at, c_5, c_18, hjc, hkc], rfl⟩
  · refine vv_bipush (v := -2) hx dX4_at_8 (by decide) ?_
    exact vv_iret hx he dX4_at_10 ⟨_, rfl, by simp [sp_at, c_5], rfl⟩
set_option maxRecDepth 100000 in
set_option maxHeartbeats 4000000 in
theorem c_X4_segments {S : mm_H} {r : Nat} {ad : Nat → Nat} {X : xx_X} (hR : xx_R S r ad X) (hk : xx_ok X) (v : Int32) : MI yX4_segments cX4_segments 2 2 43 0 0 [.ref r, .int (v)] S (fun z S' => z = sp_segments X v ∧ S' = S) := by
  refine MA.of (by decide) (Nat.le_of_ble_eq_true rfl) ?_
  intro x hx he hini
  have hx : vv_C x cX4_segments RX4 2 43 2 := hx
  show vv_V x 0 0 0 [(0, .ref r), (1, .int (v))] [] S
  obtain ⟨k0, k1, k2, k3, k4, k5, k6, k7, k8, k9, k10, k11, k12, k13⟩ := id hk
  refine vv_aload_n hx dX4_segments_0 rfl ?_
  refine vv_iload_n hx dX4_segments_1 rfl ?_
  refine vv_callV (As := [.int (v)]) hx dX4_segments_2 km_X4_72 kq_X4_isHeld ki_X4_isHeld ks_X4_isHeld kl_4 hR.1 (c_X4_isHeld hR hk _) rfl rfl (Nat.le_of_ble_eq_true rfl) (by decide) (by decide) rfl rfl (vv_cd ?_)
  refine vv_if_eqB (tgt := 17) hx dX4_segments_5 (by decide) (fun c_5 => ?_) (fun c_5 => ?_)
  · refine vv_bipush (v := -2) hx dX4_segments_17 (by decide) ?_
    exact vv_iret hx he dX4_segments_19 ⟨_, rfl, by simp [sp_segments, c_5], rfl⟩
  · obtain ⟨j, hj, rfl, hh⟩ := heldB_true c_5 k1 k2
    have hjc : (nI j).toNatClampNeg = j := nI_clamp (by omega)
    refine vv_aload_n hx dX4_segments_8 rfl ?_
    refine rr_getr 12 hx dX4_segments_9 kf_X4_35 (by decide) rfl rfl hR ?_
    refine vv_iload_n hx dX4_segments_12 rfl ?_
    refine rr_iald (e0 := X.2.1 12 (j)) (n := 150) 12 hx dX4_segments_13 rfl hR rfl (by omega) (by first | rfl | simp [xA, xI, xE, xW]) ?_
    have b_13 : X.2.1 12 (j) < 2 ^ 31 := by have h9 := hR.lt 12 (j); first | exact h9 | simpa [xA, xI, xE, xW] using h9
    refine vv_goto (tgt := 19) hx dX4_segments_14 (by decide) ?_
    exact vv_iret hx he dX4_segments_19 ⟨_, rfl, by simp [sp_segments, c_5, hjc], rfl⟩
