set_option maxRecDepth 100000 in
set_option maxHeartbeats 4000000 in
theorem c_X4_renew0 {S : mm_H} {r : Nat} {ad : Nat → Nat} {X : xx_X} (hR : xx_R S r ad X) (hk : xx_ok X) (h0 : newsB X = false) : MV yX4_renew cX4_renew 7 2 52 0 0 [.ref r] S (fun S' => S' = S) := by
  refine MA.of (by decide) (Nat.le_of_ble_eq_true rfl) ?_
  intro x hx he hini
  have hx : vv_C x cX4_renew RX4 2 52 7 := hx
  show vv_V x 0 0 0 [(0, .ref r)] [] S
  refine vv_aload_n hx dX4_renew_0 rfl ?_
  refine vv_callV (As := []) hx dX4_renew_1 km_X4_88 kq_X4_hasNews ki_X4_hasNews ks_X4_hasNews kl_4 hR.1 (c_X4_hasNews hR hk) rfl rfl (Nat.le_of_ble_eq_true rfl) (by decide) (by decide) rfl rfl (vv_cd ?_)
  refine vv_if_neB (tgt := 8) hx dX4_renew_4 (by decide) (fun c_4 => ?_) (fun c_4 => ?_)
  · rw [h0] at c_4; cases c_4
  · exact vv_vret hx he dX4_renew_7 ⟨rfl, rfl⟩
set_option maxRecDepth 100000 in
set_option maxHeartbeats 4000000 in
theorem c_X4_refresh {S : mm_H} {r : Nat} {ad : Nat → Nat} {X : xx_X} (hR : xx_R S r ad X) (hk : xx_ok X) {W : Nat → Nat → Nat} (hH : X.1 10 < 150 → rH X W) : MI yX4_refresh cX4_refresh 1 3 78 0 0 [.ref r] S (fun z S' => ∃ X', xx_R S' r ad X' ∧ sp_refresh X W z X') := by
  refine MA.of (by decide) (Nat.le_of_ble_eq_true rfl) ?_
  intro x hx he hini
  have hx : vv_C x cX4_refresh RX4 3 78 1 := hx
  show vv_V x 0 0 0 [(0, .ref r)] [] S
  obtain ⟨k0, k1, k2, k3, k4, k5, k6, k7, k8, k9, k10, k11, k12, k13⟩ := id hk
  refine vv_aload_n hx dX4_refresh_0 rfl ?_
  refine vv_callV (As := []) hx dX4_refresh_1 km_X4_88 kq_X4_hasNews ki_X4_hasNews ks_X4_hasNews kl_4 hR.1 (c_X4_hasNews hR hk) rfl rfl (Nat.le_of_ble_eq_true rfl) (by decide) (by decide) rfl rfl (vv_cd ?_)
  refine vv_if_eqB (tgt := 20) hx dX4_refresh_4 (by decide) (fun c_4 => ?_) (fun c_4 => ?_)
  · refine vv_aload_n hx dX4_refresh_20 rfl ?_
    refine vv_callV (As := []) hx dX4_refresh_21 km_X4_98 kq_X4_renew ki_X4_renew ks_X4_renew kl_4 hR.1 (c_X4_renew0 hR hk c_4) rfl rfl (Nat.le_of_ble_eq_true rfl) (by decide) (by decide) rfl rfl (vv_cdv ?_)
    refine vv_aload_n hx dX4_refresh_24 rfl ?_
    refine rr_geti (e0 := X.1 15) 15 hx dX4_refresh_25 kf_X4_48 (by decide) rfl rfl hR rfl ?_
    have b_25 : X.1 15 < 2 ^ 31 := hR.li 15
    exact vv_iret hx he dX4_refresh_28 ⟨_, rfl, X, hR, Or.inr (Or.inl ⟨c_4, rfl, rfl⟩)⟩
  · refine vv_aload_n hx dX4_refresh_7 rfl ?_
    refine rr_geti (e0 := X.1 10) 10 hx dX4_refresh_8 kf_X4_29 (by decide) rfl rfl hR rfl ?_
    have b_8 : X.1 10 < 2 ^ 31 := hR.li 10
    refine vv_sipush (v := nI 150) hx dX4_refresh_11 (by decide) ?_
    refine vv_icmp_neN (tgt := 20) hx dX4_refresh_14 (by decide) (by omega) (by omega) (fun c_14 => ?_) (fun c_14 => ?_)
    · refine vv_aload_n hx dX4_refresh_20 rfl ?_
      refine vv_callV (As := []) hx dX4_refresh_21 km_X4_98 kq_X4_renew ki_X4_renew ks_X4_renew kl_4 hR.1 (c_X4_renew hR (hH (by omega))) rfl rfl (Nat.le_of_ble_eq_true rfl) (by decide) (by decide) rfl rfl (vv_cv fun S hS => ?_)
      obtain ⟨X2, hR, hX2⟩ := hS
      rcases hX2 with ⟨h0, -⟩ | ⟨-, hX2⟩
      · rw [h0] at c_4; cases c_4
      obtain ⟨Y, q, hY, rfl⟩ := hX2
      have e0 : Y.1 0 = X.1 0 := hY.1.1 0 (by decide) (by decide)
      refine vv_aload_n hx dX4_refresh_24 rfl ?_
      refine rr_geti (e0 := X.1 10) 15 hx dX4_refresh_25 kf_X4_48 (by decide) rfl rfl hR rfl ?_
      have b_25 : X.1 10 < 2 ^ 31 := hR.li 15
      exact vv_iret hx he dX4_refresh_28 ⟨_, rfl, _, hR, Or.inr (Or.inr ⟨c_4, by omega, ⟨Y, q, hY, rfl⟩, rfl⟩)⟩
    · refine vv_bipush (v := -5) hx dX4_refresh_17 (by decide) ?_
      exact vv_iret hx he dX4_refresh_19 ⟨_, rfl, X, hR, Or.inl ⟨c_4, c_14, rfl, rfl⟩⟩
set_option maxRecDepth 100000 in
set_option maxHeartbeats 4000000 in
theorem c_X4_commit {S : mm_H} {r : Nat} {ad : Nat → Nat} {X : xx_X} (hR : xx_R S r ad X) (hk : xx_ok X) {W : Nat → Nat → Nat} (hH : X.1 10 < 150 → rH X W) : MI yX4_commit cX4_commit 1 3 78 0 0 [.ref r] S (fun z S' => ∃ X', xx_R S' r ad X' ∧ sp_commit X W z X') := by
  refine MA.of (by decide) (Nat.le_of_ble_eq_true rfl) ?_
  intro x hx he hini
  have hx : vv_C x cX4_commit RX4 3 78 1 := hx
  show vv_V x 0 0 0 [(0, .ref r)] [] S
  obtain ⟨k0, k1, k2, k3, k4, k5, k6, k7, k8, k9, k10, k11, k12, k13⟩ := id hk
  refine vv_aload_n hx dX4_commit_0 rfl ?_
  refine vv_callV (As := []) hx dX4_commit_1 km_X4_88 kq_X4_hasNews ki_X4_hasNews ks_X4_hasNews kl_4 hR.1 (c_X4_hasNews hR hk) rfl rfl (Nat.le_of_ble_eq_true rfl) (by decide) (by decide) rfl rfl (vv_cd ?_)
  refine vv_if_eqB (tgt := 20) hx dX4_commit_4 (by decide) (fun c_4 => ?_) (fun c_4 => ?_)
  · refine vv_aload_n hx dX4_commit_20 rfl ?_
    refine vv_callV (As := []) hx dX4_commit_21 km_X4_98 kq_X4_renew ki_X4_renew ks_X4_renew kl_4 hR.1 (c_X4_renew0 hR hk c_4) rfl rfl (Nat.le_of_ble_eq_true rfl) (by decide) (by decide) rfl rfl (vv_cdv ?_)
    refine vv_aload_n hx dX4_commit_24 rfl ?_
    refine vv_aload_n hx dX4_commit_25 rfl ?_
    refine rr_geti (e0 := X.1 15) 15 hx dX4_commit_26 kf_X4_48 (by decide) rfl rfl hR rfl ?_
    have b_26 : X.1 15 < 2 ^ 31 := hR.li 15
    refine rr_puti 16 hx dX4_commit_29 kf_X4_51 (by decide) rfl rfl rfl rfl hR (by omega) (fun S hR => ?_)
    refine vv_aload_n hx dX4_commit_32 rfl ?_
    refine vv_aload_n hx dX4_commit_33 rfl ?_
    refine rr_geti (e0 := X.1 0) 0 hx dX4_commit_34 kf_X4_58 (by decide) rfl rfl hR rfl ?_
    have b_34 : X.1 0 < 2 ^ 31 := hR.li 0
    refine rr_puti 17 hx dX4_commit_37 kf_X4_101 (by decide) rfl rfl rfl rfl hR (by omega) (fun S hR => ?_)
    refine vv_aload_n hx dX4_commit_40 rfl ?_
    refine rr_geti (e0 := X.1 15) 15 hx dX4_commit_41 kf_X4_48 (by decide) rfl rfl hR rfl ?_
    have b_41 : X.1 15 < 2 ^ 31 := hR.li 15
    exact vv_iret hx he dX4_commit_44 ⟨_, rfl, _, hR, Or.inr (Or.inl ⟨c_4, rfl, rfl⟩)⟩
  · refine vv_aload_n hx dX4_commit_7 rfl ?_
    refine rr_geti (e0 := X.1 10) 10 hx dX4_commit_8 kf_X4_29 (by decide) rfl rfl hR rfl ?_
    have b_8 : X.1 10 < 2 ^ 31 := hR.li 10
    refine vv_sipush (v := nI 150) hx dX4_commit_11 (by decide) ?_
    refine vv_icmp_neN (tgt := 20) hx dX4_commit_14 (by decide) (by omega) (by omega) (fun c_14 => ?_) (fun c_14 => ?_)
    · refine vv_aload_n hx dX4_commit_20 rfl ?_
      refine vv_callV (As := []) hx dX4_commit_21 km_X4_98 kq_X4_renew ki_X4_renew ks_X4_renew kl_4 hR.1 (c_X4_renew hR (hH (by omega))) rfl rfl (Nat.le_of_ble_eq_true rfl) (by decide) (by decide) rfl rfl (vv_cv fun S hS => ?_)
      obtain ⟨X2, hR, hX2⟩ := hS
      rcases hX2 with ⟨h0, -⟩ | ⟨-, hX2⟩
      · rw [h0] at c_4; cases c_4
      obtain ⟨Y, q, hY, rfl⟩ := hX2
      have e0 : Y.1 0 = X.1 0 := hY.1.1 0 (by decide) (by decide)
      refine vv_aload_n hx dX4_commit_24 rfl ?_
      refine vv_aload_n hx dX4_commit_25 rfl ?_
      refine rr_geti (e0 := X.1 10) 15 hx dX4_commit_26 kf_X4_48 (by decide) rfl rfl hR rfl ?_
      have b_26 : X.1 10 < 2 ^ 31 := hR.li 15
      refine rr_puti 16 hx dX4_commit_29 kf_X4_51 (by decide) rfl rfl rfl rfl hR (by omega) (fun S hR => ?_)
      refine vv_aload_n hx dX4_commit_32 rfl ?_
      refine vv_aload_n hx dX4_commit_33 rfl ?_
      refine rr_geti (e0 := Y.1 0) 0 hx dX4_commit_34 kf_X4_58 (by decide) rfl rfl hR rfl ?_
      have b_34 : Y.1 0 < 2 ^ 31 := hR.li 0
      refine rr_puti 17 hx dX4_commit_37 kf_X4_101 (by decide) rfl rfl rfl rfl hR (by omega) (fun S hR => ?_)
      refine vv_aload_n hx dX4_commit_40 rfl ?_
      refine rr_geti (e0 := X.1 10) 15 hx dX4_commit_41 kf_X4_48 (by decide) rfl rfl hR rfl ?_
      have b_41 : X.1 10 < 2 ^ 31 := hR.li 15
      exact vv_iret hx he dX4_commit_44 ⟨_, rfl, _, hR, Or.inr (Or.inr ⟨c_4, by omega, ⟨_, ⟨Y, q, hY, rfl⟩, by rw [e0]⟩, rfl⟩)⟩
    · refine vv_bipush (v := -5) hx dX4_commit_17 (by decide) ?_
      exact vv_iret hx he dX4_commit_19 ⟨_, rfl, X, hR, Or.inl ⟨c_4, c_14, rfl, rfl⟩⟩
set_option maxRecDepth 100000 in
set_option maxHeartbeats 4000000 in
theorem l_X4_crash {r : Nat} {ad : Nat → Nat} {X : xx_X} {x : vv_X} (hx : vv_C x cX4_crash RX4 3 78 3) (hk : xx_ok X) (cont : ∀ (S : mm_H), xx_R S r ad (xO (xI X 0 (X.1 17)) (X.1 10)) → vv_V x 0 0 70 [(0, .ref r), (1, .int (nI (X.1 0 - X.1 17)))] [] S) : ∀ d i (S : mm_H), xx_R S r ad (xO (xI X 0 (X.1 17)) i) → i + d = X.1 10 → vv_V x 0 0 49 [(0, .ref r), (1, .int (nI (X.1 0 - X.1 17))), (2, .int (nI (i)))] [] S := by
  obtain ⟨k0, k1, k2, k3, k4, k5, k6, k7, k8, k9, k10, k11, k12, k13⟩ := id hk
  intro d
  induction d with
  | zero =>
    intro i S hR hi
    have ei : i = X.1 10 := by omega
    have e10 : (xO (xI X 0 (X.1 17)) i).1 10 = X.1 10 := rfl
    refine vv_iload_n hx dX4_crash_49 rfl ?_
    refine vv_aload_n hx dX4_crash_50 rfl ?_
    refine rr_geti (e0 := (xO (xI X 0 (X.1 17)) i).1 10) 10 hx dX4_crash_51 kf_X4_29 (by decide) rfl rfl hR rfl ?_
    have b_51 : (xO (xI X 0 (X.1 17)) i).1 10 < 2 ^ 31 := hR.li 10
    refine vv_icmp_geN (tgt := 70) hx dX4_crash_54 (by decide) (by omega) (by omega) (fun c_54 => ?_) (fun c_54 => ?_)
    · exact vv_sub [0, 1] rfl (cont S (by rw [← ei]; exact hR))
    · exfalso; omega
  | succ d ih =>
    intro i S hR hi
    have e10 : (xO (xI X 0 (X.1 17)) i).1 10 = X.1 10 := rfl
    refine vv_iload_n hx dX4_crash_49 rfl ?_
    refine vv_aload_n hx dX4_crash_50 rfl ?_
    refine rr_geti (e0 := (xO (xI X 0 (X.1 17)) i).1 10) 10 hx dX4_crash_51 kf_X4_29 (by decide) rfl rfl hR rfl ?_
    have b_51 : (xO (xI X 0 (X.1 17)) i).1 10 < 2 ^ 31 := hR.li 10
    refine vv_icmp_geN (tgt := 70) hx dX4_crash_54 (by decide) (by omega) (by omega) (fun c_54 => ?_) (fun c_54 => ?_)
    · exfalso; omega
    · refine vv_aload_n hx dX4_crash_57 rfl ?_
      refine rr_getr 14 hx dX4_crash_58 kf_X4_41 (by decide) rfl rfl hR ?_
      refine vv_iload_n hx dX4_crash_61 rfl ?_
      refine vv_iconst (v := nI 0) hx dX4_crash_62 (by decide) ?_
      refine rr_iast (n := 150) 14 hx dX4_crash_63 rfl hR rfl (by omega) (by omega) (fun S hR => ?_)
      refine vv_iinc (u := (nI (i + 1))) (lv' := [(0, .ref r), (1, .int (nI (X.1 0 - X.1 17))), (2, .int (nI (i + 1)))]) hx dX4_crash_64 rfl (nI_1 _) (by decide) rfl rfl ?_
      refine vv_goto (tgt := 49) hx dX4_crash_67 (by decide) ?_
      rw [xO_s] at hR
      exact ih (i + 1) S hR (by omega)
set_option maxRecDepth 100000 in
set_option maxHeartbeats 4000000 in
theorem c_X4_crash {S : mm_H} {r : Nat} {ad : Nat → Nat} {X : xx_X} (hR : xx_R S r ad X) (hk : xx_ok X) {W : Nat → Nat → Nat} (hH : X.1 10 < 150 → rH (crX X) W) : MI yX4_crash cX4_crash 3 3 78 0 0 [.ref r] S (fun z S' => ∃ X', xx_R S' r ad X' ∧ sp_crash X W z X') := by
  refine MA.of (by decide) (Nat.le_of_ble_eq_true rfl) ?_
  intro x hx he hini
  have hx : vv_C x cX4_crash RX4 3 78 3 := hx
  show vv_V x 0 0 0 [(0, .ref r)] [] S
  obtain ⟨k0, k1, k2, k3, k4, k5, k6, k7, k8, k9, k10, k11, k12, k13⟩ := id hk
  refine vv_aload_n hx dX4_crash_0 rfl ?_
  refine rr_getr 11 hx dX4_crash_1 kf_X4_32 (by decide) rfl rfl hR ?_
  refine vv_aload_n hx dX4_crash_4 rfl ?_
  refine rr_geti (e0 := X.1 16) 16 hx dX4_crash_5 kf_X4_51 (by decide) rfl rfl hR rfl ?_
  have b_5 : X.1 16 < 2 ^ 31 := hR.li 16
  refine rr_iald (e0 := X.2.1 11 (X.1 16)) (n := 150) 11 hx dX4_crash_8 rfl hR rfl (by omega) (by first | rfl | simp [xA, xI, xE, xW]) ?_
  have b_8 : X.2.1 11 (X.1 16) < 2 ^ 31 := by have h9 := hR.lt 11 (X.1 16); first | exact h9 | simpa [xA, xI, xE, xW] using h9
  refine vv_aload_n hx dX4_crash_9 rfl ?_
  refine rr_geti (e0 := X.1 17) 17 hx dX4_crash_10 kf_X4_101 (by decide) rfl rfl hR rfl ?_
  have b_10 : X.1 17 < 2 ^ 31 := hR.li 17
  refine vv_icmp_geN (tgt := 29) hx dX4_crash_13 (by decide) (by omega) (by omega) (fun c_13 => ?_) (fun c_13 => ?_)
  · refine vv_aload_n hx dX4_crash_29 rfl ?_
    refine rr_geti (e0 := X.1 0) 0 hx dX4_crash_30 kf_X4_58 (by decide) rfl rfl hR rfl ?_
    have b_30 : X.1 0 < 2 ^ 31 := hR.li 0
    refine vv_aload_n hx dX4_crash_33 rfl ?_
    refine rr_geti (e0 := X.1 17) 17 hx dX4_crash_34 kf_X4_101 (by decide) rfl rfl hR rfl ?_
    have b_34 : X.1 17 < 2 ^ 31 := hR.li 17
    refine vv_isubN hx dX4_crash_37 (by omega) ?_
    refine vv_istore_n (lv' := [(0, .ref r), (1, .int (nI ((X.1 0) - (X.1 17))))]) hx dX4_crash_38 (by decide) rfl rfl ?_
    refine vv_aload_n hx dX4_crash_39 rfl ?_
    refine vv_aload_n hx dX4_crash_40 rfl ?_
    refine rr_geti (e0 := X.1 17) 17 hx dX4_crash_41 kf_X4_101 (by decide) rfl rfl hR rfl ?_
    have b_41 : X.1 17 < 2 ^ 31 := hR.li 17
    refine rr_puti 0 hx dX4_crash_44 kf_X4_58 (by decide) rfl rfl rfl rfl hR (by omega) (fun S hR => ?_)
    refine vv_iconst (v := nI 0) hx dX4_crash_47 (by decide) ?_
    refine vv_istore_n (lv' := [(0, .ref r), (1, .int (nI ((X.1 0) - (X.1 17)))), (2, .int (nI (0)))]) hx dX4_crash_48 (by decide) rfl rfl ?_
    refine l_X4_crash hx hk (fun S hR => ?_) (X.1 10) 0 S (by rw [xO_0]; exact hR) (by omega)
    have e16 : (xO (xI X 0 (X.1 17)) (X.1 10)).1 16 = X.1 16 := rfl
    refine vv_aload_n hx dX4_crash_70 rfl ?_
    refine vv_aload_n hx dX4_crash_71 rfl ?_
    refine rr_geti (e0 := (xO (xI X 0 (X.1 17)) (X.1 10)).1 16) 16 hx dX4_crash_72 kf_X4_51 (by decide) rfl rfl hR rfl ?_
    have b_72 : (xO (xI X 0 (X.1 17)) (X.1 10)).1 16 < 2 ^ 31 := hR.li 16
    refine rr_puti 15 hx dX4_crash_75 kf_X4_48 (by decide) rfl rfl rfl rfl hR (by omega) (fun S hR => ?_)
    refine vv_aload_n hx dX4_crash_78 rfl ?_
    change xx_R S r ad (crX X) at hR
    have hn0 : newsB (crX X) = false := by
      unfold newsB
      obtain ⟨c0, c15, cf⟩ := crX_1 X
      rw [c0, c15, crX_2 X (by decide)]
      exact decide_eq_false (by omega)
    refine vv_callV (As := []) hx dX4_crash_79 km_X4_98 kq_X4_renew ki_X4_renew ks_X4_renew kl_4 hR.1 (c_X4_renew0 hR hk.cr hn0) rfl rfl (Nat.le_of_ble_eq_true rfl) (by decide) (by decide) rfl rfl (vv_cdv ?_)
    refine vv_iload_n hx dX4_crash_82 rfl ?_
    exact vv_iret hx he dX4_crash_83 ⟨_, rfl, _, hR, Or.inr ⟨rfl, Or.inl ⟨hn0, rfl⟩⟩⟩
  · refine vv_aload_n hx dX4_crash_16 rfl ?_
    refine rr_geti (e0 := X.1 10) 10 hx dX4_crash_17 kf_X4_29 (by decide) rfl rfl hR rfl ?_
    have b_17 : X.1 10 < 2 ^ 31 := hR.li 10
    refine vv_sipush (v := nI 150) hx dX4_crash_20 (by decide) ?_
    refine vv_icmp_neN (tgt := 29) hx dX4_crash_23 (by decide) (by omega) (by omega) (fun c_23 => ?_) (fun c_23 => ?_)
    · refine vv_aload_n hx dX4_crash_29 rfl ?_
      refine rr_geti (e0 := X.1 0) 0 hx dX4_crash_30 kf_X4_58 (by decide) rfl rfl hR rfl ?_
      have b_30 : X.1 0 < 2 ^ 31 := hR.li 0
      refine vv_aload_n hx dX4_crash_33 rfl ?_
      refine rr_geti (e0 := X.1 17) 17 hx dX4_crash_34 kf_X4_101 (by decide) rfl rfl hR rfl ?_
      have b_34 : X.1 17 < 2 ^ 31 := hR.li 17
      refine vv_isubN hx dX4_crash_37 (by omega) ?_
      refine vv_istore_n (lv' := [(0, .ref r), (1, .int (nI ((X.1 0) - (X.1 17))))]) hx dX4_crash_38 (by decide) rfl rfl ?_
      refine vv_aload_n hx dX4_crash_39 rfl ?_
      refine vv_aload_n hx dX4_crash_40 rfl ?_
      refine rr_geti (e0 := X.1 17) 17 hx dX4_crash_41 kf_X4_101 (by decide) rfl rfl hR rfl ?_
      have b_41 : X.1 17 < 2 ^ 31 := hR.li 17
      refine rr_puti 0 hx dX4_crash_44 kf_X4_58 (by decide) rfl rfl rfl rfl hR (by omega) (fun S hR => ?_)
      refine vv_iconst (v := nI 0) hx dX4_crash_47 (by decide) ?_
      refine vv_istore_n (lv' := [(0, .ref r), (1, .int (nI ((X.1 0) - (X.1 17)))), (2, .int (nI (0)))]) hx dX4_crash_48 (by decide) rfl rfl ?_
      refine l_X4_crash hx hk (fun S hR => ?_) (X.1 10) 0 S (by rw [xO_0]; exact hR) (by omega)
      have e16 : (xO (xI X 0 (X.1 17)) (X.1 10)).1 16 = X.1 16 := rfl
      refine vv_aload_n hx dX4_crash_70 rfl ?_
      refine vv_aload_n hx dX4_crash_71 rfl ?_
      refine rr_geti (e0 := (xO (xI X 0 (X.1 17)) (X.1 10)).1 16) 16 hx dX4_crash_72 kf_X4_51 (by decide) rfl rfl hR rfl ?_
      have b_72 : (xO (xI X 0 (X.1 17)) (X.1 10)).1 16 < 2 ^ 31 := hR.li 16
      refine rr_puti 15 hx dX4_crash_75 kf_X4_48 (by decide) rfl rfl rfl rfl hR (by omega) (fun S hR => ?_)
      refine vv_aload_n hx dX4_crash_78 rfl ?_
      change xx_R S r ad (crX X) at hR
      refine vv_callV (As := []) hx dX4_crash_79 km_X4_98 kq_X4_renew ki_X4_renew ks_X4_renew kl_4 hR.1 (c_X4_renew hR (hH (by omega))) rfl rfl (Nat.le_of_ble_eq_true rfl) (by decide) (by decide) rfl rfl (vv_cv fun S hS => ?_)
      obtain ⟨X2, hR, hX2⟩ := hS
      refine vv_iload_n hx dX4_crash_82 rfl ?_
      exact vv_iret hx he dX4_crash_83 ⟨_, rfl, X2, hR, Or.inr ⟨rfl, hX2.imp (fun h => h) (fun h => ⟨h.1, by omega, h.2⟩)⟩⟩
    · refine vv_bipush (v := -5) hx dX4_crash_26 (by decide) ?_
      exact vv_iret hx he dX4_crash_28 ⟨_, rfl, X, hR, Or.inl ⟨by omega, c_23, rfl, rfl⟩⟩
set_option maxRecDepth 100000 in
set_option maxHeartbeats 4000000 in
theorem l_X4_drop_1 {S : mm_H} {r : Nat} {ad : Nat → Nat} {X : xx_X} (hR : xx_R S r ad X) (hk : xx_ok X) {x : vv_X} {j : Nat} {q : Int32} (hx : vv_C x cX4_drop RX4 3 70 7) (hj : j < 150) (cont : vv_V x 0 0 117 [(0, .ref r), (1, .int (nI (j))), (2, .int (q)), (3, .int (nI (cntN (stillB X j q) 16))), (4, .int (nI (cntN (fun k => hasB X j k q && !(stillB X j q k)) 16))), (5, .int (nI (16)))] [] S) : ∀ d k, k + d = 16 → vv_V x 0 0 33 [(0, .ref r), (1, .int (nI (j))), (2, .int (q)), (3, .int (nI (cntN (stillB X j q) k))), (4, .int (nI (cntN (fun k => hasB X j k q && !(stillB X j q k)) k))), (5, .int (nI (k)))] [] S := by
  obtain ⟨k0, k1, k2, k3, k4, k5, k6, k7, k8, k9, k10, k11, k12, k13⟩ := id hk
  have h11 := k11 j
  intro d
  induction d with
  | zero =>
    intro k hd
    have hc1 := cntN_le (stillB X j q) k
    have hc2 := cntN_le (fun k => hasB X j k q && !(stillB X j q k)) k
    have ek : k = 16 := by omega
    subst ek
    refine vv_iload hx dX4_drop_33 rfl ?_
    refine vv_bipush (v := nI 16) hx dX4_drop_35 (by decide) ?_
    refine vv_icmp_geN (tgt := 117) hx dX4_drop_37 (by decide) (by omega) (by omega) (fun c_37 => ?_) (fun c_37 => ?_)
    · exact cont
    · exfalso; omega
  | succ d ih =>
    intro k hd
    have hc1 := cntN_le (stillB X j q) k
    have hc2 := cntN_le (fun k => hasB X j k q && !(stillB X j q k)) k
    have hwl := wr_le X k (X.2.1 11 j)
    have hcl := cg_le (X.2.1 1) k (X.1 0)
    have h9 := ih (k + 1) (by omega)
    refine vv_iload hx dX4_drop_33 rfl ?_
    refine vv_bipush (v := nI 16) hx dX4_drop_35 (by decide) ?_
    refine vv_icmp_geN (tgt := 117) hx dX4_drop_37 (by decide) (by omega) (by omega) (fun c_37 => ?_) (fun c_37 => ?_)
    · exfalso; omega
    · refine vv_aload_n hx dX4_drop_40 rfl ?_
      refine vv_iload_n hx dX4_drop_41 rfl ?_
      refine vv_iload hx dX4_drop_42 rfl ?_
      refine vv_iload_n hx dX4_drop_44 rfl ?_
      refine vv_callV (As := [.int (nI (j)), .int (nI (k)), .int (q)]) hx dX4_drop_45 km_X4_76 kq_X4_has ki_X4_has ks_X4_has kl_4 hR.1 (c_X4_has hR hk q hj (by omega)) rfl rfl (Nat.le_of_ble_eq_true rfl) (by decide) (by decide) rfl rfl (vv_cd ?_)
      refine vv_if_eqB (tgt := 111) hx dX4_drop_48 (by decide) (fun c_48 => ?_) (fun c_48 => ?_)
      · refine vv_iinc (u := (nI (k + 1))) (lv' := [(0, .ref r), (1, .int (nI (j))), (2, .int (q)), (3, .int (nI (cntN (stillB X j q) k))), (4, .int (nI (cntN (fun k => hasB X j k q && !(stillB X j q k)) k))), (5, .int (nI (k + 1)))]) hx dX4_drop_111 rfl (nI_1 _) (by decide) rfl rfl ?_
        refine vv_goto (tgt := 33) hx dX4_drop_114 (by decide) ?_
        rw [cntN_f (f := stillB X j q) (by simp [stillB, c_48]), cntN_f (f := fun k => hasB X j k q && !(stillB X j q k)) (by simp [c_48])] at h9
        exact vv_sub [0, 1, 2, 3, 4, 5] rfl h9
      · refine vv_aload_n hx dX4_drop_51 rfl ?_
        refine vv_iload hx dX4_drop_52 rfl ?_
        refine vv_aload_n hx dX4_drop_54 rfl ?_
        refine rr_geti (e0 := X.1 0) 0 hx dX4_drop_55 kf_X4_58 (by decide) rfl rfl hR rfl ?_
        have b_55 : X.1 0 < 2 ^ 31 := hR.li 0
        refine vv_callV (As := [.int (nI (k)), .int (nI (X.1 0))]) hx dX4_drop_58 km_X4_54 kq_X4_change ki_X4_change ks_X4_change kl_4 hR.1 (c_X4_change hR (by omega) k0) rfl rfl (Nat.le_of_ble_eq_true rfl) (by decide) (by decide) rfl rfl (vv_cd ?_)
        refine vv_aload_n hx dX4_drop_61 rfl ?_
        refine vv_iload hx dX4_drop_62 rfl ?_
        refine vv_aload_n hx dX4_drop_64 rfl ?_
        refine rr_getr 11 hx dX4_drop_65 kf_X4_32 (by decide) rfl rfl hR ?_
        refine vv_iload_n hx dX4_drop_68 rfl ?_
        refine rr_iald (e0 := X.2.1 11 (j)) (n := 150) 11 hx dX4_drop_69 rfl hR rfl (by omega) (by first | rfl | simp [xA, xI, xE, xW]) ?_
        have b_69 : X.2.1 11 (j) < 2 ^ 31 := by have h9 := hR.lt 11 (j); first | exact h9 | simpa [xA, xI, xE, xW] using h9
        refine vv_callV (As := [.int (nI (k)), .int (nI (X.2.1 11 (j)))]) hx dX4_drop_70 km_X4_61 kq_X4_written ki_X4_written ks_X4_written kl_4 hR.1 (c_X4_written hR (by omega) (by omega)) rfl rfl (Nat.le_of_ble_eq_true rfl) (by decide) (by decide) rfl rfl (vv_cd ?_)
        refine vv_icmp_neN (tgt := 80) hx dX4_drop_73 (by decide) (by omega) (by omega) (fun c_73 => ?_) (fun c_73 => ?_)
        · refine vv_iconst (v := nI 0) hx dX4_drop_80 (by decide) ?_
          refine vv_istore (lv' := [(0, .ref r), (1, .int (nI (j))), (2, .int (q)), (3, .int (nI (cntN (stillB X j q) k))), (4, .int (nI (cntN (fun k => hasB X j k q && !(stillB X j q k)) k))), (5, .int (nI (k))), (6, .int (nI (0)))]) hx dX4_drop_81 (by decide) rfl rfl ?_
          refine vv_iload_n hx dX4_drop_83 rfl ?_
          refine vv_iload hx dX4_drop_84 rfl ?_
          refine vv_if_eqN (tgt := 93) hx dX4_drop_86 (by decide) (by omega) (fun c_86 => ?_) (fun c_86 => ?_)
          · refine vv_iconst (v := nI 0) hx dX4_drop_93 (by decide) ?_
            refine vv_iaddN hx dX4_drop_94 ?_
            refine vv_istore_n (lv' := [(0, .ref r), (1, .int (nI (j))), (2, .int (q)), (3, .int (nI ((cntN (stillB X j q) k) + 0))), (4, .int (nI (cntN (fun k => hasB X j k q && !(stillB X j q k)) k))), (5, .int (nI (k))), (6, .int (nI (0)))]) hx dX4_drop_95 (by decide) rfl rfl ?_
            refine vv_iload hx dX4_drop_96 rfl ?_
            refine vv_iload hx dX4_drop_98 rfl ?_
            refine vv_if_eqN (tgt := 107) hx dX4_drop_100 (by decide) (by omega) (fun c_100 => ?_) (fun c_100 => ?_)
            · refine vv_iconst (v := nI 1) hx dX4_drop_107 (by decide) ?_
              refine vv_iaddN hx dX4_drop_108 ?_
              refine vv_istore (lv' := [(0, .ref r), (1, .int (nI (j))), (2, .int (q)), (3, .int (nI ((cntN (stillB X j q) k) + 0))), (4, .int (nI ((cntN (fun k => hasB X j k q && !(stillB X j q k)) k) + 1))), (5, .int (nI (k))), (6, .int (nI (0)))]) hx dX4_drop_109 (by decide) rfl rfl ?_
              refine vv_iinc (u := (nI (k + 1))) (lv' := [(0, .ref r), (1, .int (nI (j))), (2, .int (q)), (3, .int (nI ((cntN (stillB X j q) k) + 0))), (4, .int (nI ((cntN (fun k => hasB X j k q && !(stillB X j q k)) k) + 1))), (5, .int (nI (k + 1))), (6, .int (nI (0)))]) hx dX4_drop_111 rfl (nI_1 _) (by decide) rfl rfl ?_
              refine vv_goto (tgt := 33) hx dX4_drop_114 (by decide) ?_
              have hst : stillB X j q k = false := by simp [stillB, c_48, c_73]
              rw [cntN_f (f := stillB X j q) hst, cntN_t (f := fun k => hasB X j k q && !(stillB X j q k)) (by simp [c_48, hst])] at h9
              exact vv_sub [0, 1, 2, 3, 4, 5] rfl h9
            · exfalso; omega
          · exfalso; omega
        · refine vv_iconst (v := nI 1) hx dX4_drop_76 (by decide) ?_
          refine vv_goto (tgt := 81) hx dX4_drop_77 (by decide) ?_
          refine vv_istore (lv' := [(0, .ref r), (1, .int (nI (j))), (2, .int (q)), (3, .int (nI (cntN (stillB X j q) k))), (4, .int (nI (cntN (fun k => hasB X j k q && !(stillB X j q k)) k))), (5, .int (nI (k))), (6, .int (nI (1)))]) hx dX4_drop_81 (by decide) rfl rfl ?_
          refine vv_iload_n hx dX4_drop_83 rfl ?_
          refine vv_iload hx dX4_drop_84 rfl ?_
          refine vv_if_eqN (tgt := 93) hx dX4_drop_86 (by decide) (by omega) (fun c_86 => ?_) (fun c_86 => ?_)
          · exfalso; omega
          · refine vv_iconst (v := nI 1) hx dX4_drop_89 (by decide) ?_
            refine vv_goto (tgt := 94) hx dX4_drop_90 (by decide) ?_
            refine vv_iaddN hx dX4_drop_94 ?_
            refine vv_istore_n (lv' := [(0, .ref r), (1, .int (nI (j))), (2, .int (q)), (3, .int (nI ((cntN (stillB X j q) k) + 1))), (4, .int (nI (cntN (fun k => hasB X j k q && !(stillB X j q k)) k))), (5, .int (nI (k))), (6, .int (nI (1)))]) hx dX4_drop_95 (by decide) rfl rfl ?_
            refine vv_iload hx dX4_drop_96 rfl ?_
            refine vv_iload hx dX4_drop_98 rfl ?_
            refine vv_if_eqN (tgt := 107) hx dX4_drop_100 (by decide) (by omega) (fun c_100 => ?_) (fun c_100 => ?_)
            · exfalso; omega
            · refine vv_iconst (v := nI 0) hx dX4_drop_103 (by decide) ?_
              refine vv_goto (tgt := 108) hx dX4_drop_104 (by decide) ?_
              refine vv_iaddN hx dX4_drop_108 ?_
              refine vv_istore (lv' := [(0, .ref r), (1, .int (nI (j))), (2, .int (q)), (3, .int (nI ((cntN (stillB X j q) k) + 1))), (4, .int (nI ((cntN (fun k => hasB X j k q && !(stillB X j q k)) k) + 0))), (5, .int (nI (k))), (6, .int (nI (1)))]) hx dX4_drop_109 (by decide) rfl rfl ?_
              refine vv_iinc (u := (nI (k + 1))) (lv' := [(0, .ref r), (1, .int (nI (j))), (2, .int (q)), (3, .int (nI ((cntN (stillB X j q) k) + 1))), (4, .int (nI ((cntN (fun k => hasB X j k q && !(stillB X j q k)) k) + 0))), (5, .int (nI (k + 1))), (6, .int (nI (1)))]) hx dX4_drop_111 rfl (nI_1 _) (by decide) rfl rfl ?_
              refine vv_goto (tgt := 33) hx dX4_drop_114 (by decide) ?_
              have hst : stillB X j q k = true := by simp [stillB, c_48, c_73]
              rw [cntN_t (f := stillB X j q) hst, cntN_f (f := fun k => hasB X j k q && !(stillB X j q k)) (by simp [c_48, hst])] at h9
              exact vv_sub [0, 1, 2, 3, 4, 5] rfl h9
theorem c_X4_hasw {S : mm_H} {r : Nat} {ad : Nat → Nat} {X : xx_X} (hR : xx_R S r ad X) (k11 : ∀ i, X.2.1 11 i ≤ 600) {v k : Nat} (q : Int32) (hv : v < 150) (hkk : k < 16) : MZ yX4_has cX4_has 5 2 46 0 0 [.ref r, .int (nI v), .int (nI k), .int q] S (fun z S' => z = bI (hasB X v k q) ∧ S' = S) := by
  refine MA.of (by decide) (Nat.le_of_ble_eq_true rfl) ?_
  intro x hx he hini
  have hx : vv_C x cX4_has RX4 2 46 5 := hx
  show vv_V x 0 0 0 [(0, .ref r), (1, .int (nI v)), (2, .int (nI k)), (3, .int q)] [] S
  refine vv_aload_n hx dX4_has_0 rfl ?_
  refine vv_iload_n hx dX4_has_1 rfl ?_
  refine vv_aload_n hx dX4_has_2 rfl ?_
  refine rr_getr 11 hx dX4_has_3 kf_X4_32 (by decide) rfl rfl hR ?_
  refine vv_iload_n hx dX4_has_6 rfl ?_
  refine rr_iald (e0 := X.2.1 11 (v)) (n := 150) 11 hx dX4_has_7 rfl hR rfl (by omega) (by first | rfl | simp [xA, xI, xE, xW]) ?_
  have b_7 : X.2.1 11 (v) < 2 ^ 31 := by have h9 := hR.lt 11 (v); first | exact h9 | simpa [xA, xI, xE, xW] using h9
  refine vv_callV (As := [.int (nI (k)), .int (nI (X.2.1 11 (v)))]) hx dX4_has_8 km_X4_61 kq_X4_written ki_X4_written ks_X4_written kl_4 hR.1 (c_X4_written hR (by omega) (k11 v)) rfl rfl (Nat.le_of_ble_eq_true rfl) (by decide) (by decide) rfl rfl (vv_cd ?_)
  have hwl := wr_le X k (X.2.1 11 v)
  have h11 := k11 v
  refine vv_istore (lv' := [(0, .ref r), (1, .int (nI (v))), (2, .int (nI (k))), (3, .int (q)), (4, .int (nI (wr X k (X.2.1 11 v))))]) hx dX4_has_11 (by decide) rfl rfl ?_
  refine vv_iload hx dX4_has_13 rfl ?_
  refine vv_if_leN (tgt := 35) hx dX4_has_15 (by decide) (by omega) (fun c_15 => ?_) (fun c_15 => ?_)
  · refine vv_iconst (v := nI 0) hx dX4_has_35 (by decide) ?_
    exact vv_zret hx he dX4_has_36 (by first | exact bI_01 _ | exact Or.inl rfl | exact Or.inr rfl) ⟨_, rfl, bI_f (by first | (simp only [hasB, Bool.and_eq_false_iff, decide_eq_false_iff_not]; first | (left; omega) | (right; assumption)) | (simp only [hasB, Bool.and_eq_true, decide_eq_true_eq]; exact ⟨by omega, by assumption⟩)), rfl⟩
  · refine vv_aload_n hx dX4_has_18 rfl ?_
    refine rr_getr 2 hx dX4_has_19 kf_X4_13 (by decide) rfl rfl hR ?_
    refine vv_iload hx dX4_has_22 rfl ?_
    refine rr_iald (e0 := X.2.1 2 (wr X k (X.2.1 11 v))) (n := 601) 2 hx dX4_has_24 rfl hR rfl (by omega) (by first | rfl | simp [xA, xI, xE, xW]) ?_
    have b_24 : X.2.1 2 (wr X k (X.2.1 11 v)) < 2 ^ 31 := by have h9 := hR.lt 2 (wr X k (X.2.1 11 v)); first | exact h9 | simpa [xA, xI, xE, xW] using h9
    refine vv_iload_n hx dX4_has_25 rfl ?_
    refine vv_iand hx dX4_has_26 ?_
    refine vv_iload_n hx dX4_has_27 rfl ?_
    refine vv_icmp_ne (tgt := 35) hx dX4_has_28 (by decide) (fun c_28 => ?_) (fun c_28 => ?_)
    · refine vv_iconst (v := nI 0) hx dX4_has_35 (by decide) ?_
      exact vv_zret hx he dX4_has_36 (by first | exact bI_01 _ | exact Or.inl rfl | exact Or.inr rfl) ⟨_, rfl, bI_f (by first | (simp only [hasB, Bool.and_eq_false_iff, decide_eq_false_iff_not]; first | (left; omega) | (right; assumption)) | (simp only [hasB, Bool.and_eq_true, decide_eq_true_eq]; exact ⟨by omega, by assumption⟩)), rfl⟩
    · refine vv_iconst (v := nI 1) hx dX4_has_31 (by decide) ?_
      refine vv_goto (tgt := 36) hx dX4_has_32 (by decide) ?_
      exact vv_zret hx he dX4_has_36 (by first | exact bI_01 _ | exact Or.inl rfl | exact Or.inr rfl) ⟨_, rfl, bI_t (by first | (simp only [hasB, Bool.and_eq_false_iff, decide_eq_false_iff_not]; first | (left; omega) | (right; assumption)) | (simp only [hasB, Bool.and_eq_true, decide_eq_true_eq]; exact ⟨by omega, by assumption⟩)), rfl⟩
set_option maxRecDepth 100000 in
set_option maxHeartbeats 4000000 in
theorem l_X4_drop_2 {r : Nat} {ad : Nat → Nat} {X : xx_X} {x : vv_X} {j o1 o2 : Nat} {q : Int32} (hx : vv_C x cX4_drop RX4 3 70 7) (hk : xx_ok X) (hj : j < 150) (hja : X.2.1 11 j ≤ X.1 0) (hroom : X.1 0 + cntN (stillB X j q) 16 ≤ 600) (cont : ∀ S, xx_R S r ad (dropX X j q 16) → vv_V x 0 0 195 [(0, .ref r), (1, .int (nI (j))), (2, .int (q)), (3, .int (nI (o1))), (4, .int (nI (o2)))] [] S) : ∀ d k (S : mm_H), xx_R S r ad (dropX X j q k) → k + d = 16 → vv_V x 0 0 141 [(0, .ref r), (1, .int (nI (j))), (2, .int (q)), (3, .int (nI (o1))), (4, .int (nI (o2))), (5, .int (nI (X.1 0))), (6, .int (nI (k)))] [] S := by
  obtain ⟨k0, k1, k2, k3, k4, k5, k6, k7, k8, k9, k10, k11, k12, k13⟩ := id hk
  have h11 := k11 j
  intro d
  induction d with
  | zero =>
    intro k S hR hd
    have ek : k = 16 := by omega
    subst ek
    refine vv_iload hx dX4_drop_141 rfl ?_
    refine vv_bipush (v := nI 16) hx dX4_drop_143 (by decide) ?_
    refine vv_icmp_geN (tgt := 195) hx dX4_drop_145 (by decide) (by omega) (by omega) (fun c_145 => ?_) (fun c_145 => ?_)
    · exact vv_sub [0, 1, 2, 3, 4] rfl (cont S hR)
    · exfalso; omega
  | succ d ih =>
    intro k S hR hd
    obtain ⟨g1, g2, g3, g4, g5⟩ := dropX_fr X j q k
    generalize hYk : dropX X j q k = Y at hR g1 g2 g3 g4 g5
    have e11 : Y.2.1 11 j = X.2.1 11 j := by rw [g3 11 (by decide) (by decide)]
    have ecg : ∀ n, n ≤ X.1 0 → ∀ a, cg (Y.2.1 1) a n = cg (X.2.1 1) a n := fun n hn a => cg_congr (fun i hi => g4 1 i (by omega))
    have ewr : ∀ n, n ≤ X.1 0 → ∀ a, wr Y a n = wr X a n := fun n hn a => by
      have h1 := cg_le (X.2.1 1) a n
      unfold wr
      rw [ecg n hn a, g4 2 _ (by omega)]
    have ehas : hasB Y j k q = hasB X j k q := by
      have h1 := wr_le X k (X.2.1 11 j)
      unfold hasB
      rw [e11, ewr _ hja, g4 2 _ (by omega)]
    have hwl := wr_le X k (X.2.1 11 j)
    have hcl := cg_le (X.2.1 1) k (X.1 0)
    have hcm := cnt_mono (f := stillB X j q) (show k + 1 ≤ 16 by omega)
    have hYok : (∀ i, Y.2.1 11 i ≤ 600) := fun i => by rw [g3 11 (by decide) (by decide)]; exact k11 i
    refine vv_iload hx dX4_drop_141 rfl ?_
    refine vv_bipush (v := nI 16) hx dX4_drop_143 (by decide) ?_
    refine vv_icmp_geN (tgt := 195) hx dX4_drop_145 (by decide) (by omega) (by omega) (fun c_145 => ?_) (fun c_145 => ?_)
    · exfalso; omega
    · refine vv_aload_n hx dX4_drop_148 rfl ?_
      refine vv_iload_n hx dX4_drop_149 rfl ?_
      refine vv_iload hx dX4_drop_150 rfl ?_
      refine vv_iload_n hx dX4_drop_152 rfl ?_
      refine vv_callV (As := [.int (nI (j)), .int (nI (k)), .int (q)]) hx dX4_drop_153 km_X4_76 kq_X4_has ki_X4_has ks_X4_has kl_4 hR.1 (c_X4_hasw hR hYok q hj (by omega)) rfl rfl (Nat.le_of_ble_eq_true rfl) (by decide) (by decide) rfl rfl (vv_cd ?_)
      refine vv_if_eqB (tgt := 189) hx dX4_drop_156 (by decide) (fun c_156 => ?_) (fun c_156 => ?_)
      · refine vv_iinc (u := (nI (k + 1))) (lv' := [(0, .ref r), (1, .int (nI (j))), (2, .int (q)), (3, .int (nI (o1))), (4, .int (nI (o2))), (5, .int (nI (X.1 0))), (6, .int (nI (k + 1)))]) hx dX4_drop_189 rfl (nI_1 _) (by decide) rfl rfl ?_
        refine vv_goto (tgt := 141) hx dX4_drop_192 (by decide) ?_
        have hst : stillB X j q k = false := by simp [stillB, ← ehas, c_156]
        refine ih (k + 1) S ?_ (by omega)
        unfold dropX
        rw [hst, hYk]
        exact hR
      · refine vv_aload_n hx dX4_drop_159 rfl ?_
        refine vv_iload hx dX4_drop_160 rfl ?_
        refine vv_iload hx dX4_drop_162 rfl ?_
        refine vv_callV (As := [.int (nI (k)), .int (nI (X.1 0))]) hx dX4_drop_164 km_X4_54 kq_X4_change ki_X4_change ks_X4_change kl_4 hR.1 ((by have h9 := c_X4_change hR (k := k) (n0 := X.1 0) (by omega) k0; rw [ecg (X.1 0) (Nat.le_refl _) k] at h9; exact h9)) rfl rfl (Nat.le_of_ble_eq_true rfl) (by decide) (by decide) rfl rfl (vv_cd ?_)
        refine vv_aload_n hx dX4_drop_167 rfl ?_
        refine vv_iload hx dX4_drop_168 rfl ?_
        refine vv_aload_n hx dX4_drop_170 rfl ?_
        refine rr_getr 11 hx dX4_drop_171 kf_X4_32 (by decide) rfl rfl hR ?_
        refine vv_iload_n hx dX4_drop_174 rfl ?_
        refine rr_iald (e0 := X.2.1 11 j) (n := 150) 11 hx dX4_drop_175 rfl hR rfl (by omega) e11 ?_
        refine vv_callV (As := [.int (nI (k)), .int (nI (X.2.1 11 j))]) hx dX4_drop_176 km_X4_61 kq_X4_written ki_X4_written ks_X4_written kl_4 hR.1 ((by have h9 := c_X4_written hR (k := k) (n0 := X.2.1 11 j) (by omega) (by omega); rw [ewr _ hja k] at h9; exact h9)) rfl rfl (Nat.le_of_ble_eq_true rfl) (by decide) (by decide) rfl rfl (vv_cd ?_)
        refine vv_icmp_neN (tgt := 189) hx dX4_drop_179 (by decide) (by omega) (by omega) (fun c_179 => ?_) (fun c_179 => ?_)
        · refine vv_iinc (u := (nI (k + 1))) (lv' := [(0, .ref r), (1, .int (nI (j))), (2, .int (q)), (3, .int (nI (o1))), (4, .int (nI (o2))), (5, .int (nI (X.1 0))), (6, .int (nI (k + 1)))]) hx dX4_drop_189 rfl (nI_1 _) (by decide) rfl rfl ?_
          refine vv_goto (tgt := 141) hx dX4_drop_192 (by decide) ?_
          have hst : stillB X j q k = false := by simp only [stillB, Bool.and_eq_false_iff, decide_eq_false_iff_not]; exact Or.inr c_179
          refine ih (k + 1) S ?_ (by omega)
          unfold dropX
          rw [hst, hYk]
          exact hR
        · refine vv_aload_n hx dX4_drop_182 rfl ?_
          refine vv_iload hx dX4_drop_183 rfl ?_
          refine vv_iconst (v := nI 0) hx dX4_drop_185 (by decide) ?_
          have hst : stillB X j q k = true := by simp only [stillB, ← ehas, c_156, Bool.true_and]; exact decide_eq_true c_179
          rw [cntN_t hst] at hcm
          refine vv_callV (As := [.int (nI (k)), .int (nI (0))]) hx dX4_drop_186 km_X4_64 kq_X4_add ki_X4_add ks_X4_add kl_4 hR.1 (c_X4_add hR (by omega) (by decide) (by omega)) rfl rfl (Nat.le_of_ble_eq_true rfl) (by decide) (by decide) rfl rfl (vv_cv fun S hR => ?_)
          refine vv_iinc (u := (nI (k + 1))) (lv' := [(0, .ref r), (1, .int (nI (j))), (2, .int (q)), (3, .int (nI (o1))), (4, .int (nI (o2))), (5, .int (nI (X.1 0))), (6, .int (nI (k + 1)))]) hx dX4_drop_189 rfl (nI_1 _) (by decide) rfl rfl ?_
          refine vv_goto (tgt := 141) hx dX4_drop_192 (by decide) ?_
          refine ih (k + 1) S ?_ (by omega)
          unfold dropX
          rw [hst, hYk]
          exact hR
set_option maxRecDepth 100000 in
set_option maxHeartbeats 4000000 in
theorem c_X4_drop {S : mm_H} {r : Nat} {ad : Nat → Nat} {X : xx_X} (hR : xx_R S r ad X) (hk : xx_ok X) (v q : Int32) (hja : ∀ j, j < X.1 10 → heldN X j = true → X.2.1 11 j ≤ X.1 0) : MI yX4_drop cX4_drop 7 3 70 0 0 [.ref r, .int (v), .int (q)] S (fun z S' => z = (sp_drop X v q).1 ∧ xx_R S' r ad (sp_drop X v q).2) := by
  refine MA.of (by decide) (Nat.le_of_ble_eq_true rfl) ?_
  intro x hx he hini
  have hx : vv_C x cX4_drop RX4 3 70 7 := hx
  show vv_V x 0 0 0 [(0, .ref r), (1, .int (v)), (2, .int (q))] [] S
  obtain ⟨k0, k1, k2, k3, k4, k5, k6, k7, k8, k9, k10, k11, k12, k13⟩ := id hk
  refine vv_aload_n hx dX4_drop_0 rfl ?_
  refine vv_iload_n hx dX4_drop_1 rfl ?_
  refine vv_callV (As := [.int (v)]) hx dX4_drop_2 km_X4_72 kq_X4_isHeld ki_X4_isHeld ks_X4_isHeld kl_4 hR.1 (c_X4_isHeld hR hk _) rfl rfl (Nat.le_of_ble_eq_true rfl) (by decide) (by decide) rfl rfl (vv_cd ?_)
  refine vv_if_neB (tgt := 11) hx dX4_drop_5 (by decide) (fun c_5 => ?_) (fun c_5 => ?_)
  · obtain ⟨j, hj, rfl, hh⟩ := heldB_true c_5 k1 k2
    have hjc : (nI j).toNatClampNeg = j := nI_clamp (by omega)
    refine vv_iload_n hx dX4_drop_11 rfl ?_
    refine vv_iconst (v := nI 0) hx dX4_drop_12 (by decide) ?_
    refine vv_sipush (v := nI 255) hx dX4_drop_13 (by decide) ?_
    refine vv_callS (As := [.int (q), .int (nI (0)), .int (nI (255))]) hx dX4_drop_16 km_X4_44 kq_X4_in kt_X4_in (c_X4_in S _ _ _) rfl rfl (Nat.le_of_ble_eq_true rfl) (by decide) (by decide) rfl rfl (vv_cd ?_)
    refine vv_if_neB (tgt := 25) hx dX4_drop_19 (by decide) (fun c_19 => ?_) (fun c_19 => ?_)
    · refine vv_iconst (v := nI 0) hx dX4_drop_25 (by decide) ?_
      refine vv_istore_n (lv' := [(0, .ref r), (1, .int (nI (j))), (2, .int (q)), (3, .int (nI (0)))]) hx dX4_drop_26 (by decide) rfl rfl ?_
      refine vv_iconst (v := nI 0) hx dX4_drop_27 (by decide) ?_
      refine vv_istore (lv' := [(0, .ref r), (1, .int (nI (j))), (2, .int (q)), (3, .int (nI (0))), (4, .int (nI (0)))]) hx dX4_drop_28 (by decide) rfl rfl ?_
      refine vv_iconst (v := nI 0) hx dX4_drop_30 (by decide) ?_
      refine vv_istore (lv' := [(0, .ref r), (1, .int (nI (j))), (2, .int (q)), (3, .int (nI (0))), (4, .int (nI (0))), (5, .int (nI (0)))]) hx dX4_drop_31 (by decide) rfl rfl ?_
      have hc1 := cntN_le (stillB X j q) 16
      have hc2 := cntN_le (fun k => hasB X j k q && !(stillB X j q k)) 16
      refine l_X4_drop_1 hR hk hx (by omega) ?_ 16 0 rfl
      refine vv_aload_n hx dX4_drop_117 rfl ?_
      refine rr_geti (e0 := X.1 0) 0 hx dX4_drop_118 kf_X4_58 (by decide) rfl rfl hR rfl ?_
      have b_118 : X.1 0 < 2 ^ 31 := hR.li 0
      refine vv_iload_n hx dX4_drop_121 rfl ?_
      refine vv_iaddN hx dX4_drop_122 ?_
      refine vv_sipush (v := nI 600) hx dX4_drop_123 (by decide) ?_
      refine vv_icmp_leN (tgt := 132) hx dX4_drop_126 (by decide) (by omega) (by omega) (fun c_126 => ?_) (fun c_126 => ?_)
      · refine vv_aload_n hx dX4_drop_132 rfl ?_
        refine rr_geti (e0 := X.1 0) 0 hx dX4_drop_133 kf_X4_58 (by decide) rfl rfl hR rfl ?_
        have b_133 : X.1 0 < 2 ^ 31 := hR.li 0
        refine vv_istore (lv' := [(0, .ref r), (1, .int (nI (j))), (2, .int (q)), (3, .int (nI (cntN (stillB X j q) 16))), (4, .int (nI (cntN (fun k => hasB X j k q && !(stillB X j q k)) 16))), (5, .int (nI (X.1 0)))]) hx dX4_drop_136 (by decide) rfl rfl ?_
        refine vv_iconst (v := nI 0) hx dX4_drop_138 (by decide) ?_
        refine vv_istore (lv' := [(0, .ref r), (1, .int (nI (j))), (2, .int (q)), (3, .int (nI (cntN (stillB X j q) 16))), (4, .int (nI (cntN (fun k => hasB X j k q && !(stillB X j q k)) 16))), (5, .int (nI (X.1 0))), (6, .int (nI (0)))]) hx dX4_drop_139 (by decide) rfl rfl ?_
        refine vv_sub [0, 1, 2, 3, 4, 5, 6] rfl (l_X4_drop_2 hx hk (by omega) (hja j hj hh) (by omega) (fun S hR => ?_) 16 0 S hR rfl)
        refine vv_aload_n hx dX4_drop_195 rfl ?_
        refine vv_iload hx dX4_drop_196 rfl ?_
        refine rr_puti 3 hx dX4_drop_198 kf_X4_79 (by decide) rfl rfl rfl rfl hR (by omega) (fun S hR => ?_)
        refine vv_iload_n hx dX4_drop_201 rfl ?_
        exact vv_iret hx he dX4_drop_202 ⟨_, rfl, by rw [show sp_drop X (nI j) q = (nI (cntN (stillB X j q) 16), (xI (dropX X j q 16) 3 (cntN (fun k => hasB X j k q && !(stillB X j q k)) 16))) from by simp [sp_drop, c_5, c_19, hjc, show X.1 0 + cntN (stillB X j q) 16 ≤ 600 from by omega]]; exact ⟨rfl, hR⟩⟩
      · refine vv_bipush (v := -5) hx dX4_drop_129 (by decide) ?_
        exact vv_iret hx he dX4_drop_131 ⟨_, rfl, by rw [show sp_drop X (nI j) q = ((-5), X) from by simp [sp_drop, c_5, c_19, hjc, show ¬ (X.1 0 + cntN (stillB X j q) 16 ≤ 600) from by omega]]; exact ⟨rfl, hR⟩⟩
    · refine vv_bipush (v := -3) hx dX4_drop_22 (by decide) ?_
      exact vv_iret hx he dX4_drop_24 ⟨_, rfl, by rw [show sp_drop X (nI j) q = ((-3), X) from by simp [sp_drop, c_5, c_19, hjc]]; exact ⟨rfl, hR⟩⟩
  · refine vv_bipush (v := -2) hx dX4_drop_8 (by decide) ?_
    exact vv_iret hx he dX4_drop_10 ⟨_, rfl, by rw [show sp_drop X v q = ((-2), X) from by simp [sp_drop, c_5]]; exact ⟨rfl, hR⟩⟩
