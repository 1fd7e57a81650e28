theorem c_X4_isHeldN {S : mm_H} {r : Nat} {ad : Nat → Nat} {X : xx_X} (hR : xx_R S r ad X) (hk : xx_ok X) {j : Nat} (hj : j < X.1 10) : MZ yX4_isHeld cX4_isHeld 2 1 22 0 0 [.ref r, .int (nI j)] S (fun z S' => z = bI (heldN X j) ∧ S' = S) := by
  have h := c_X4_isHeld hR hk (nI j)
  rw [heldB_nI (by have := hk.2.2.1; omega) hk.2.1 hk.2.2.1, decide_eq_true hj, Bool.true_and] at h
  exact h
set_option maxRecDepth 100000 in
set_option maxHeartbeats 4000000 in
theorem l_X4_find {S : mm_H} {r : Nat} {ad : Nat → Nat} {X : xx_X} (hR : xx_R S r ad X) (hk : xx_ok X) {x : vv_X} {j : Nat} {q : Int32} {post : Option Value → mm_H → Prop} (hx : vv_C x cX4_find RX4 3 70 5) (he : vv_E x (some .int) post) (hj : j < 150) (hp : post (some (.int (nI (cntN (fun k => hasB X j k q) 16)))) S) : ∀ d k, k + d = 16 → vv_V x 0 0 30 [(0, .ref r), (1, .int (nI (j))), (2, .int (q)), (3, .int (nI (cntN (fun k => hasB X j k q) k))), (4, .int (nI (k)))] [] S := by
  intro d
  induction d with
  | zero =>
    intro k hd
    have hcn := cntN_le (fun k => hasB X j k q) k
    refine vv_iload hx dX4_find_30 rfl ?_
    refine vv_bipush (v := nI 16) hx dX4_find_32 (by decide) ?_
    refine vv_icmp_geN (tgt := 62) hx dX4_find_34 (by decide) (by omega) (by omega) (fun c_34 => ?_) (fun c_34 => ?_)
    · refine vv_iload_n hx dX4_find_62 rfl ?_
      exact vv_iret hx he dX4_find_63 (by rw [show k = 16 by omega]; exact hp)
    · exfalso; omega
  | succ d ih =>
    intro k hd
    have hcn := cntN_le (fun k => hasB X j k q) k
    refine vv_iload hx dX4_find_30 rfl ?_
    refine vv_bipush (v := nI 16) hx dX4_find_32 (by decide) ?_
    refine vv_icmp_geN (tgt := 62) hx dX4_find_34 (by decide) (by omega) (by omega) (fun c_34 => ?_) (fun c_34 => ?_)
    · exfalso; omega
    · refine vv_iload_n hx dX4_find_37 rfl ?_
      refine vv_aload_n hx dX4_find_38 rfl ?_
      refine vv_iload_n hx dX4_find_39 rfl ?_
      refine vv_iload hx dX4_find_40 rfl ?_
      refine vv_iload_n hx dX4_find_42 rfl ?_
      refine vv_callV (As := [.int (nI (j)), .int (nI (k)), .int (q)]) hx dX4_find_43 km_X4_76 kq_X4_has ki_X4_has ks_X4_has kl_4 hR.1 (c_X4_has hR hk q hj (by omega)) rfl rfl (Nat.le_of_ble_eq_true rfl) (by decide) (by decide) rfl rfl (vv_cd ?_)
      refine vv_if_eqB (tgt := 53) hx dX4_find_46 (by decide) (fun c_46 => ?_) (fun c_46 => ?_)
      · refine vv_iconst (v := nI 0) hx dX4_find_53 (by decide) ?_
        refine vv_iaddN hx dX4_find_54 ?_
        refine vv_istore_n (lv' := [(0, .ref r), (1, .int (nI (j))), (2, .int (q)), (3, .int (nI ((cntN (fun k => hasB X j k q) k) + 0))), (4, .int (nI (k)))]) hx dX4_find_55 (by decide) rfl rfl ?_
        refine vv_iinc (u := (nI (k + 1))) (lv' := [(0, .ref r), (1, .int (nI (j))), (2, .int (q)), (3, .int (nI ((cntN (fun k => hasB X j k q) k) + 0))), (4, .int (nI (k + 1)))]) hx dX4_find_56 rfl (nI_1 _) (by decide) rfl rfl ?_
        refine vv_goto (tgt := 30) hx dX4_find_59 (by decide) ?_
        have e : cntN (fun k => hasB X j k q) (k + 1) = (cntN (fun k => hasB X j k q) k) + 0 := cntN_f (by simp [c_46])
        rw [← e]
        exact vv_sub [0, 1, 2, 3, 4] rfl (ih (k + 1) (by omega))
      · refine vv_iconst (v := nI 1) hx dX4_find_49 (by decide) ?_
        refine vv_goto (tgt := 54) hx dX4_find_50 (by decide) ?_
        refine vv_iaddN hx dX4_find_54 ?_
        refine vv_istore_n (lv' := [(0, .ref r), (1, .int (nI (j))), (2, .int (q)), (3, .int (nI ((cntN (fun k => hasB X j k q) k) + 1))), (4, .int (nI (k)))]) hx dX4_find_55 (by decide) rfl rfl ?_
        refine vv_iinc (u := (nI (k + 1))) (lv' := [(0, .ref r), (1, .int (nI (j))), (2, .int (q)), (3, .int (nI ((cntN (fun k => hasB X j k q) k) + 1))), (4, .int (nI (k + 1)))]) hx dX4_find_56 rfl (nI_1 _) (by decide) rfl rfl ?_
        refine vv_goto (tgt := 30) hx dX4_find_59 (by decide) ?_
        have e : cntN (fun k => hasB X j k q) (k + 1) = (cntN (fun k => hasB X j k q) k) + 1 := cntN_t (by simp [c_46])
        rw [← e]
        exact vv_sub [0, 1, 2, 3, 4] rfl (ih (k + 1) (by omega))
set_option maxRecDepth 100000 in
set_option maxHeartbeats 4000000 in
theorem c_X4_find {S : mm_H} {r : Nat} {ad : Nat → Nat} {X : xx_X} (hR : xx_R S r ad X) (hk : xx_ok X) (v q : Int32) : MI yX4_find cX4_find 5 3 70 0 0 [.ref r, .int (v), .int (q)] S (fun z S' => z = sp_find X v q ∧ S' = S) := by
  refine MA.of (by decide) (Nat.le_of_ble_eq_true rfl) ?_
  intro x hx he hini
  have hx : vv_C x cX4_find RX4 3 70 5 := hx
  show vv_V x 0 0 0 [(0, .ref r), (1, .int (v)), (2, .int (q))] [] S
  obtain ⟨k0, k1, k2, k3, k4, k5, k6, k7, k8, k9, k10, k11, k12, k13⟩ := id hk
  refine vv_aload_n hx dX4_find_0 rfl ?_
  refine vv_iload_n hx dX4_find_1 rfl ?_
  refine vv_callV (As := [.int (v)]) hx dX4_find_2 km_X4_72 kq_X4_isHeld ki_X4_isHeld ks_X4_isHeld kl_4 hR.1 (c_X4_isHeld hR hk _) rfl rfl (Nat.le_of_ble_eq_true rfl) (by decide) (by decide) rfl rfl (vv_cd ?_)
  refine vv_if_neB (tgt := 11) hx dX4_find_5 (by decide) (fun c_5 => ?_) (fun c_5 => ?_)
  · obtain ⟨j, hj, rfl, hh⟩ := heldB_true c_5 k1 k2
    have hjc : (nI j).toNatClampNeg = j := nI_clamp (by omega)
    refine vv_iload_n hx dX4_find_11 rfl ?_
    refine vv_iconst (v := nI 0) hx dX4_find_12 (by decide) ?_
    refine vv_sipush (v := nI 255) hx dX4_find_13 (by decide) ?_
    refine vv_callS (As := [.int (q), .int (nI (0)), .int (nI (255))]) hx dX4_find_16 km_X4_44 kq_X4_in kt_X4_in (c_X4_in S _ _ _) rfl rfl (Nat.le_of_ble_eq_true rfl) (by decide) (by decide) rfl rfl (vv_cd ?_)
    refine vv_if_neB (tgt := 25) hx dX4_find_19 (by decide) (fun c_19 => ?_) (fun c_19 => ?_)
    · refine vv_iconst (v := nI 0) hx dX4_find_25 (by decide) ?_
      refine vv_istore_n (lv' := [(0, .ref r), (1, .int (nI (j))), (2, .int (q)), (3, .int (nI (0)))]) hx dX4_find_26 (by decide) rfl rfl ?_
      refine vv_iconst (v := nI 0) hx dX4_find_27 (by decide) ?_
      refine vv_istore (lv' := [(0, .ref r), (1, .int (nI (j))), (2, .int (q)), (3, .int (nI (0))), (4, .int (nI (0)))]) hx dX4_find_28 (by decide) rfl rfl ?_
      exact l_X4_find hR hk hx he (by omega) ⟨_, rfl, by simp [sp_find, c_5, c_19, hjc], rfl⟩ 16 0 rfl
    · refine vv_bipush (v := -3) hx dX4_find_22 (by decide) ?_
      exact vv_iret hx he dX4_find_24 ⟨_, rfl, by simp [sp_find, c_5, c_19, hjc], rfl⟩
  · refine vv_bipush (v := -2) hx dX4_find_8 (by decide) ?_
    exact vv_iret hx he dX4_find_10 ⟨_, rfl, by simp [sp_find, c_5], rfl⟩
set_option maxRecDepth 100000 in
set_option maxHeartbeats 4000000 in
theorem l_X4_match_in {S : mm_H} {r : Nat} {ad : Nat → Nat} {X : xx_X} (hR : xx_R S r ad X) (hk : xx_ok X) {x : vv_X} {j k : Nat} {q w i : Int32} (hx : vv_C x cX4_match RX4 3 70 8) (hj : j < 150) (hk16 : k < 16) (cont : vv_V x 0 0 116 [(0, .ref r), (1, .int (nI (j))), (2, .int (q)), (3, .int (w)), (4, .int (i)), (5, .int (nI (k))), (6, .int (nI (cntN (fun a => hasB X j a q && decide (worthN X j k w < worthN X j a w)) 16))), (7, .int (nI (16)))] [] S) : ∀ d a, a + d = 16 → vv_V x 0 0 63 [(0, .ref r), (1, .int (nI (j))), (2, .int (q)), (3, .int (w)), (4, .int (i)), (5, .int (nI (k))), (6, .int (nI (cntN (fun a => hasB X j a q && decide (worthN X j k w < worthN X j a w)) a))), (7, .int (nI (a)))] [] S := by
  intro d
  induction d with
  | zero =>
    intro a hd
    have hcn := cntN_le (fun a => hasB X j a q && decide (worthN X j k w < worthN X j a w)) a
    refine vv_iload hx dX4_match_63 rfl ?_
    refine vv_bipush (v := nI 16) hx dX4_match_65 (by decide) ?_
    refine vv_icmp_geN (tgt := 116) hx dX4_match_67 (by decide) (by omega) (by omega) (fun c_67 => ?_) (fun c_67 => ?_)
    · have e16 : a = 16 := by omega
      subst e16
      exact cont
    · exfalso; omega
  | succ d ih =>
    intro a hd
    have hcn := cntN_le (fun a => hasB X j a q && decide (worthN X j k w < worthN X j a w)) a
    refine vv_iload hx dX4_match_63 rfl ?_
    refine vv_bipush (v := nI 16) hx dX4_match_65 (by decide) ?_
    refine vv_icmp_geN (tgt := 116) hx dX4_match_67 (by decide) (by omega) (by omega) (fun c_67 => ?_) (fun c_67 => ?_)
    · exfalso; omega
    · refine vv_iload hx dX4_match_70 rfl ?_
      refine vv_aload_n hx dX4_match_72 rfl ?_
      refine vv_iload_n hx dX4_match_73 rfl ?_
      refine vv_iload hx dX4_match_74 rfl ?_
      refine vv_iload_n hx dX4_match_76 rfl ?_
      refine vv_callV (As := [.int (nI (j)), .int (nI (a)), .int (q)]) hx dX4_match_77 km_X4_76 kq_X4_has ki_X4_has ks_X4_has kl_4 hR.1 (c_X4_has hR hk q hj (by omega)) rfl rfl (Nat.le_of_ble_eq_true rfl) (by decide) (by decide) rfl rfl (vv_cd ?_)
      refine vv_if_eqB (tgt := 106) hx dX4_match_80 (by decide) (fun c_80 => ?_) (fun c_80 => ?_)
      · refine vv_iconst (v := nI 0) hx dX4_match_106 (by decide) ?_
        refine vv_iaddN hx dX4_match_107 ?_
        refine vv_istore (lv' := [(0, .ref r), (1, .int (nI (j))), (2, .int (q)), (3, .int (w)), (4, .int (i)), (5, .int (nI (k))), (6, .int (nI ((cntN (fun a => hasB X j a q && decide (worthN X j k w < worthN X j a w)) a) + 0))), (7, .int (nI (a)))]) hx dX4_match_108 (by decide) rfl rfl ?_
        refine vv_iinc (u := (nI (a + 1))) (lv' := [(0, .ref r), (1, .int (nI (j))), (2, .int (q)), (3, .int (w)), (4, .int (i)), (5, .int (nI (k))), (6, .int (nI ((cntN (fun a => hasB X j a q && decide (worthN X j k w < worthN X j a w)) a) + 0))), (7, .int (nI (a + 1)))]) hx dX4_match_110 rfl (nI_1 _) (by decide) rfl rfl ?_
        refine vv_goto (tgt := 63) hx dX4_match_113 (by decide) ?_
        have e : cntN (fun a => hasB X j a q && decide (worthN X j k w < worthN X j a w)) (a + 1) = (cntN (fun a => hasB X j a q && decide (worthN X j k w < worthN X j a w)) a) + 0 := cntN_f (by simp [← Int32.not_le, c_80])
        rw [← e]
        exact vv_sub [0, 1, 2, 3, 4, 5, 6, 7] rfl (ih (a + 1) (by omega))
      · refine vv_aload_n hx dX4_match_83 rfl ?_
        refine vv_iload_n hx dX4_match_84 rfl ?_
        refine vv_iload hx dX4_match_85 rfl ?_
        refine vv_iload_n hx dX4_match_87 rfl ?_
        refine vv_callV (As := [.int (nI (j)), .int (nI (a)), .int (w)]) hx dX4_match_88 km_X4_108 kq_X4_worth ki_X4_worth ks_X4_worth kl_4 hR.1 (c_X4_worth hR hk w hj (by omega)) rfl rfl (Nat.le_of_ble_eq_true rfl) (by decide) (by decide) rfl rfl (vv_cd ?_)
        refine vv_aload_n hx dX4_match_91 rfl ?_
        refine vv_iload_n hx dX4_match_92 rfl ?_
        refine vv_iload hx dX4_match_93 rfl ?_
        refine vv_iload_n hx dX4_match_95 rfl ?_
        refine vv_callV (As := [.int (nI (j)), .int (nI (k)), .int (w)]) hx dX4_match_96 km_X4_108 kq_X4_worth ki_X4_worth ks_X4_worth kl_4 hR.1 (c_X4_worth hR hk w hj hk16) rfl rfl (Nat.le_of_ble_eq_true rfl) (by decide) (by decide) rfl rfl (vv_cd ?_)
        refine vv_icmp_le (tgt := 106) hx dX4_match_99 (by decide) (fun c_99 => ?_) (fun c_99 => ?_)
        · refine vv_iconst (v := nI 0) hx dX4_match_106 (by decide) ?_
          refine vv_iaddN hx dX4_match_107 ?_
          refine vv_istore (lv' := [(0, .ref r), (1, .int (nI (j))), (2, .int (q)), (3, .int (w)), (4, .int (i)), (5, .int (nI (k))), (6, .int (nI ((cntN (fun a => hasB X j a q && decide (worthN X j k w < worthN X j a w)) a) + 0))), (7, .int (nI (a)))]) hx dX4_match_108 (by decide) rfl rfl ?_
          refine vv_iinc (u := (nI (a + 1))) (lv' := [(0, .ref r), (1, .int (nI (j))), (2, .int (q)), (3, .int (w)), (4, .int (i)), (5, .int (nI (k))), (6, .int (nI ((cntN (fun a => hasB X j a q && decide (worthN X j k w < worthN X j a w)) a) + 0))), (7, .int (nI (a + 1)))]) hx dX4_match_110 rfl (nI_1 _) (by decide) rfl rfl ?_
          refine vv_goto (tgt := 63) hx dX4_match_113 (by decide) ?_
          have e : cntN (fun a => hasB X j a q && decide (worthN X j k w < worthN X j a w)) (a + 1) = (cntN (fun a => hasB X j a q && decide (worthN X j k w < worthN X j a w)) a) + 0 := cntN_f (by simp [← Int32.not_le, c_80, c_99])
          rw [← e]
          exact vv_sub [0, 1, 2, 3, 4, 5, 6, 7] rfl (ih (a + 1) (by omega))
        · refine vv_iconst (v := nI 1) hx dX4_match_102 (by decide) ?_
          refine vv_goto (tgt := 107) hx dX4_match_103 (by decide) ?_
          refine vv_iaddN hx dX4_match_107 ?_
          refine vv_istore (lv' := [(0, .ref r), (1, .int (nI (j))), (2, .int (q)), (3, .int (w)), (4, .int (i)), (5, .int (nI (k))), (6, .int (nI ((cntN (fun a => hasB X j a q && decide (worthN X j k w < worthN X j a w)) a) + 1))), (7, .int (nI (a)))]) hx dX4_match_108 (by decide) rfl rfl ?_
          refine vv_iinc (u := (nI (a + 1))) (lv' := [(0, .ref r), (1, .int (nI (j))), (2, .int (q)), (3, .int (w)), (4, .int (i)), (5, .int (nI (k))), (6, .int (nI ((cntN (fun a => hasB X j a q && decide (worthN X j k w < worthN X j a w)) a) + 1))), (7, .int (nI (a + 1)))]) hx dX4_match_110 rfl (nI_1 _) (by decide) rfl rfl ?_
          refine vv_goto (tgt := 63) hx dX4_match_113 (by decide) ?_
          have e : cntN (fun a => hasB X j a q && decide (worthN X j k w < worthN X j a w)) (a + 1) = (cntN (fun a => hasB X j a q && decide (worthN X j k w < worthN X j a w)) a) + 1 := cntN_t (by simp [← Int32.not_le, c_80, c_99])
          rw [← e]
          exact vv_sub [0, 1, 2, 3, 4, 5, 6, 7] rfl (ih (a + 1) (by omega))
set_option maxRecDepth 100000 in
set_option maxHeartbeats 4000000 in
theorem l_X4_match {S : mm_H} {r : Nat} {ad : Nat → Nat} {X : xx_X} (hR : xx_R S r ad X) (hk : xx_ok X) {x : vv_X} {j : Nat} {q w i : Int32} {post : Option Value → mm_H → Prop} (hx : vv_C x cX4_match RX4 3 70 8) (he : vv_E x (some .int) post) (hj : j < 150) (hp : post (some (.int (firstN (fun k => hasB X j k q && decide (nI (aheadN X j q w k) = i)) 0 16))) S) : ∀ d k, k + d = 16 → firstN (fun k => hasB X j k q && decide (nI (aheadN X j q w k) = i)) 0 16 = firstN (fun k => hasB X j k q && decide (nI (aheadN X j q w k) = i)) k d → vv_V x 0 0 39 [(0, .ref r), (1, .int (nI (j))), (2, .int (q)), (3, .int (w)), (4, .int (i)), (5, .int (nI (k)))] [] S := by
  intro d
  induction d with
  | zero =>
    intro k hd hf
    refine vv_iload hx dX4_match_39 rfl ?_
    refine vv_bipush (v := nI 16) hx dX4_match_41 (by decide) ?_
    refine vv_icmp_geN (tgt := 132) hx dX4_match_43 (by decide) (by omega) (by omega) (fun c_43 => ?_) (fun c_43 => ?_)
    · refine vv_iconst (v := -1) hx dX4_match_132 (by decide) ?_
      exact vv_iret hx he dX4_match_133 (by rw [hf] at hp; exact hp)
    · exfalso; omega
  | succ d ih =>
    intro k hd hf
    skip
    refine vv_iload hx dX4_match_39 rfl ?_
    refine vv_bipush (v := nI 16) hx dX4_match_41 (by decide) ?_
    refine vv_icmp_geN (tgt := 132) hx dX4_match_43 (by decide) (by omega) (by omega) (fun c_43 => ?_) (fun c_43 => ?_)
    · exfalso; omega
    · refine vv_aload_n hx dX4_match_46 rfl ?_
      refine vv_iload_n hx dX4_match_47 rfl ?_
      refine vv_iload hx dX4_match_48 rfl ?_
      refine vv_iload_n hx dX4_match_50 rfl ?_
      refine vv_callV (As := [.int (nI (j)), .int (nI (k)), .int (q)]) hx dX4_match_51 km_X4_76 kq_X4_has ki_X4_has ks_X4_has kl_4 hR.1 (c_X4_has hR hk q hj (by omega)) rfl rfl (Nat.le_of_ble_eq_true rfl) (by decide) (by decide) rfl rfl (vv_cd ?_)
      refine vv_if_eqB (tgt := 126) hx dX4_match_54 (by decide) (fun c_54 => ?_) (fun c_54 => ?_)
      · refine vv_iinc (u := (nI (k + 1))) (lv' := [(0, .ref r), (1, .int (nI (j))), (2, .int (q)), (3, .int (w)), (4, .int (i)), (5, .int (nI (k + 1)))]) hx dX4_match_126 rfl (nI_1 _) (by decide) rfl rfl ?_
        refine vv_goto (tgt := 39) hx dX4_match_129 (by decide) ?_
        exact vv_sub [0, 1, 2, 3, 4, 5] rfl (ih (k + 1) (by omega) (hf.trans (firstN_f (by simp [c_54]))))
      · refine vv_iconst (v := nI 0) hx dX4_match_57 (by decide) ?_
        refine vv_istore (lv' := [(0, .ref r), (1, .int (nI (j))), (2, .int (q)), (3, .int (w)), (4, .int (i)), (5, .int (nI (k))), (6, .int (nI (0)))]) hx dX4_match_58 (by decide) rfl rfl ?_
        refine vv_iconst (v := nI 0) hx dX4_match_60 (by decide) ?_
        refine vv_istore (lv' := [(0, .ref r), (1, .int (nI (j))), (2, .int (q)), (3, .int (w)), (4, .int (i)), (5, .int (nI (k))), (6, .int (nI (0))), (7, .int (nI (0)))]) hx dX4_match_61 (by decide) rfl rfl ?_
        refine l_X4_match_in hR hk hx hj (by omega) ?_ 16 0 rfl
        show vv_V x 0 0 116 [(0, .ref r), (1, .int (nI (j))), (2, .int (q)), (3, .int (w)), (4, .int (i)), (5, .int (nI (k))), (6, .int (nI (aheadN X j q w k))), (7, .int (nI (16)))] [] S
        refine vv_iload hx dX4_match_116 rfl ?_
        refine vv_iload hx dX4_match_118 rfl ?_
        refine vv_icmp_ne (tgt := 126) hx dX4_match_120 (by decide) (fun c_120 => ?_) (fun c_120 => ?_)
        · refine vv_iinc (u := (nI (k + 1))) (lv' := [(0, .ref r), (1, .int (nI (j))), (2, .int (q)), (3, .int (w)), (4, .int (i)), (5, .int (nI (k + 1))), (6, .int (nI (aheadN X j q w k))), (7, .int (nI (16)))]) hx dX4_match_126 rfl (nI_1 _) (by decide) rfl rfl ?_
          refine vv_goto (tgt := 39) hx dX4_match_129 (by decide) ?_
          exact vv_sub [0, 1, 2, 3, 4, 5] rfl (ih (k + 1) (by omega) (hf.trans (firstN_f (by simp [c_54, c_120]))))
        · refine vv_iload hx dX4_match_123 rfl ?_
          exact vv_iret hx he dX4_match_125 (by have h9 := hf.trans (firstN_t (by simp [c_54, c_120])); rw [h9] at hp; exact hp)
set_option maxRecDepth 100000 in
set_option maxHeartbeats 4000000 in
theorem c_X4_match {S : mm_H} {r : Nat} {ad : Nat → Nat} {X : xx_X} (hR : xx_R S r ad X) (hk : xx_ok X) (v q w i : Int32) : MI yX4_match cX4_match 8 3 70 0 0 [.ref r, .int (v), .int (q), .int (w), .int (i)] S (fun z S' => z = sp_match X v q w i ∧ S' = S) := by
  refine MA.of (by decide) (Nat.le_of_ble_eq_true rfl) ?_
  intro x hx he hini
  have hx : vv_C x cX4_match RX4 3 70 8 := hx
  show vv_V x 0 0 0 [(0, .ref r), (1, .int (v)), (2, .int (q)), (3, .int (w)), (4, .int (i))] [] S
  obtain ⟨k0, k1, k2, k3, k4, k5, k6, k7, k8, k9, k10, k11, k12, k13⟩ := id hk
  refine vv_aload_n hx dX4_match_0 rfl ?_
  refine vv_iload_n hx dX4_match_1 rfl ?_
  refine vv_callV (As := [.int (v)]) hx dX4_match_2 km_X4_72 kq_X4_isHeld ki_X4_isHeld ks_X4_isHeld kl_4 hR.1 (c_X4_isHeld hR hk _) rfl rfl (Nat.le_of_ble_eq_true rfl) (by decide) (by decide) rfl rfl (vv_cd ?_)
  refine vv_if_neB (tgt := 11) hx dX4_match_5 (by decide) (fun c_5 => ?_) (fun c_5 => ?_)
  · obtain ⟨j, hj, rfl, hh⟩ := heldB_true c_5 k1 k2
    have hjc : (nI j).toNatClampNeg = j := nI_clamp (by omega)
    refine vv_iload_n hx dX4_match_11 rfl ?_
    refine vv_iconst (v := nI 0) hx dX4_match_12 (by decide) ?_
    refine vv_sipush (v := nI 255) hx dX4_match_13 (by decide) ?_
    refine vv_callS (As := [.int (q), .int (nI (0)), .int (nI (255))]) hx dX4_match_16 km_X4_44 kq_X4_in kt_X4_in (c_X4_in S _ _ _) rfl rfl (Nat.le_of_ble_eq_true rfl) (by decide) (by decide) rfl rfl (vv_cd ?_)
    refine vv_if_eqB (tgt := 33) hx dX4_match_19 (by decide) (fun c_19 => ?_) (fun c_19 => ?_)
    · refine vv_bipush (v := -3) hx dX4_match_33 (by decide) ?_
      exact vv_iret hx he dX4_match_35 ⟨_, rfl, by simp [sp_match, c_5, c_19, hjc], rfl⟩
    · refine vv_iload_n hx dX4_match_22 rfl ?_
      refine vv_iconst (v := nI 0) hx dX4_match_23 (by decide) ?_
      refine vv_sipush (v := nI 255) hx dX4_match_24 (by decide) ?_
      refine vv_callS (As := [.int (w), .int (nI (0)), .int (nI (255))]) hx dX4_match_27 km_X4_44 kq_X4_in kt_X4_in (c_X4_in S _ _ _) rfl rfl (Nat.le_of_ble_eq_true rfl) (by decide) (by decide) rfl rfl (vv_cd ?_)
      refine vv_if_neB (tgt := 36) hx dX4_match_30 (by decide) (fun c_30 => ?_) (fun c_30 => ?_)
      · refine vv_iconst (v := nI 0) hx dX4_match_36 (by decide) ?_
        refine vv_istore (lv' := [(0, .ref r), (1, .int (nI (j))), (2, .int (q)), (3, .int (w)), (4, .int (i)), (5, .int (nI (0)))]) hx dX4_match_37 (by decide) rfl rfl ?_
        exact l_X4_match hR hk hx he (by omega) ⟨_, rfl, by simp [sp_match, c_5, c_19, c_30, hjc], rfl⟩ 16 0 rfl rfl
      · refine vv_bipush (v := -3) hx dX4_match_33 (by decide) ?_
        exact vv_iret hx he dX4_match_35 ⟨_, rfl, by simp [sp_match, c_5, c_19, c_30, hjc], rfl⟩
  · refine vv_bipush (v := -2) hx dX4_match_8 (by decide) ?_
    exact vv_iret hx he dX4_match_10 ⟨_, rfl, by simp [sp_match, c_5], rfl⟩
set_option maxRecDepth 100000 in
set_option maxHeartbeats 4000000 in
theorem c_X4_segment {S : mm_H} {r : Nat} {ad : Nat → Nat} {X : xx_X} (hR : xx_R S r ad X) (hk : xx_ok X) (v i a : Int32) : MI yX4_segment cX4_segment 5 2 48 0 0 [.ref r, .int (v), .int (i), .int (a)] S (fun z S' => z = sp_segment X v i a ∧ S' = S) := by
  refine MA.of (by decide) (Nat.le_of_ble_eq_true rfl) ?_
  intro x hx he hini
  have hx : vv_C x cX4_segment RX4 2 48 5 := hx
  show vv_V x 0 0 0 [(0, .ref r), (1, .int (v)), (2, .int (i)), (3, .int (a))] [] S
  obtain ⟨k0, k1, k2, k3, k4, k5, k6, k7, k8, k9, k10, k11, k12, k13⟩ := id hk
  refine vv_aload_n hx dX4_segment_0 rfl ?_
  refine vv_iload_n hx dX4_segment_1 rfl ?_
  refine vv_callV (As := [.int (v)]) hx dX4_segment_2 km_X4_72 kq_X4_isHeld ki_X4_isHeld ks_X4_isHeld kl_4 hR.1 (c_X4_isHeld hR hk _) rfl rfl (Nat.le_of_ble_eq_true rfl) (by decide) (by decide) rfl rfl (vv_cd ?_)
  refine vv_if_neB (tgt := 11) hx dX4_segment_5 (by decide) (fun c_5 => ?_) (fun c_5 => ?_)
  · obtain ⟨j, hj, rfl, hh⟩ := heldB_true c_5 k1 k2
    have hjc : (nI j).toNatClampNeg = j := nI_clamp (by omega)
    refine vv_iload_n hx dX4_segment_11 rfl ?_
    refine vv_iconst (v := nI 0) hx dX4_segment_12 (by decide) ?_
    refine vv_aload_n hx dX4_segment_13 rfl ?_
    refine rr_getr 12 hx dX4_segment_14 kf_X4_35 (by decide) rfl rfl hR ?_
    refine vv_iload_n hx dX4_segment_17 rfl ?_
    refine rr_iald (e0 := X.2.1 12 (j)) (n := 150) 12 hx dX4_segment_18 rfl hR rfl (by omega) (by first | rfl | simp [xA, xI, xE, xW]) ?_
    have b_18 : X.2.1 12 (j) < 2 ^ 31 := by have h9 := hR.lt 12 (j); first | exact h9 | simpa [xA, xI, xE, xW] using h9
    refine vv_iconst (v := nI 1) hx dX4_segment_19 (by decide) ?_
    refine vv_isub hx dX4_segment_20 ?_
    refine vv_callS (As := [.int (i), .int (nI (0)), .int (nI (X.2.1 12 (j)) - nI (1))]) hx dX4_segment_21 km_X4_44 kq_X4_in kt_X4_in (c_X4_in S _ _ _) rfl rfl (Nat.le_of_ble_eq_true rfl) (by decide) (by decide) rfl rfl (vv_cd ?_)
    refine vv_if_neB (tgt := 30) hx dX4_segment_24 (by decide) (fun c_24 => ?_) (fun c_24 => ?_)
    · obtain ⟨ii, hii, rfl⟩ := inb_m1 c_24 (by have := k12 j; omega)
      have hm3 := k12 j
      have hs320 := k13 (4 * j + ii)
      have hiic : (nI ii).toNatClampNeg = ii := nI_clamp (by omega)
      have hr16 := k9 (X.2.1 13 (4 * j + ii))
      refine vv_aload_n hx dX4_segment_30 rfl ?_
      refine rr_getr 13 hx dX4_segment_31 kf_X4_38 (by decide) rfl rfl hR ?_
      refine vv_iconst (v := nI 4) hx dX4_segment_34 (by decide) ?_
      refine vv_iload_n hx dX4_segment_35 rfl ?_
      refine vv_imulN hx dX4_segment_36 ?_
      refine vv_iload_n hx dX4_segment_37 rfl ?_
      refine vv_iaddN hx dX4_segment_38 ?_
      refine rr_iald (e0 := X.2.1 13 ((4 * j) + ii)) (n := 600) 13 hx dX4_segment_39 rfl hR rfl (by omega) (by first | rfl | simp [xA, xI, xE, xW]) ?_
      have b_39 : X.2.1 13 ((4 * j) + ii) < 2 ^ 31 := by have h9 := hR.lt 13 ((4 * j) + ii); first | exact h9 | simpa [xA, xI, xE, xW] using h9
      refine vv_istore (lv' := [(0, .ref r), (1, .int (nI (j))), (2, .int (nI (ii))), (3, .int (a)), (4, .int (nI (X.2.1 13 ((4 * j) + ii))))]) hx dX4_segment_40 (by decide) rfl rfl ?_
      refine vv_iload_n hx dX4_segment_42 rfl ?_
      refine vv_if_ne (tgt := 49) hx dX4_segment_43 (by decide) (fun c_43 => ?_) (fun c_43 => ?_)
      · refine vv_iload_n hx dX4_segment_49 rfl ?_
        refine vv_iconst (v := nI 1) hx dX4_segment_50 (by decide) ?_
        refine vv_icmp_ne (tgt := 62) hx dX4_segment_51 (by decide) (fun c_51 => ?_) (fun c_51 => ?_)
        · refine vv_iload_n hx dX4_segment_62 rfl ?_
          refine vv_iconst (v := nI 2) hx dX4_segment_63 (by decide) ?_
          refine vv_icmp_ne (tgt := 80) hx dX4_segment_64 (by decide) (fun c_64 => ?_) (fun c_64 => ?_)
          · refine vv_iload_n hx dX4_segment_80 rfl ?_
            refine vv_bipush (v := nI 10) hx dX4_segment_81 (by decide) ?_
            refine vv_icmp_lt (tgt := 123) hx dX4_segment_83 (by decide) (fun c_83 => ?_) (fun c_83 => ?_)
            · refine vv_bipush (v := -3) hx dX4_segment_123 (by decide) ?_
              exact vv_iret hx he dX4_segment_125 ⟨_, rfl, by rw [show sp_segment X (nI j) (nI ii) a = sg_ans X j (X.2.1 13 (4 * j + ii)) a from by simp [sp_segment, c_5, c_24, hjc, hiic]]; unfold sg_ans; rw [if_neg c_43, if_neg c_51, if_neg c_64, if_neg (fun q => q.1 c_83)], rfl⟩
            · obtain ⟨m, hm10, hmb, rfl⟩ := ge_nI c_83 (by decide)
              have hmc : (nI m).toNatClampNeg = m := nI_clamp hmb
              have hrow := k10 (16 * X.2.1 13 (4 * j + ii) + m - 10)
              refine vv_iload_n hx dX4_segment_86 rfl ?_
              refine vv_bipush (v := nI 10) hx dX4_segment_87 (by decide) ?_
              refine vv_isubN hx dX4_segment_89 (by omega) ?_
              refine vv_aload_n hx dX4_segment_90 rfl ?_
              refine rr_getr 7 hx dX4_segment_91 kf_X4_23 (by decide) rfl rfl hR ?_
              refine vv_iload hx dX4_segment_94 rfl ?_
              refine rr_iald (e0 := X.2.1 7 (X.2.1 13 ((4 * j) + ii))) (n := 320) 7 hx dX4_segment_96 rfl hR rfl (by omega) (by first | rfl | simp [xA, xI, xE, xW]) ?_
              have b_96 : X.2.1 7 (X.2.1 13 ((4 * j) + ii)) < 2 ^ 31 := by have h9 := hR.lt 7 (X.2.1 13 ((4 * j) + ii)); first | exact h9 | simpa [xA, xI, xE, xW] using h9
              refine vv_icmp_geN (tgt := 123) hx dX4_segment_97 (by decide) (by omega) (by omega) (fun c_97 => ?_) (fun c_97 => ?_)
              · refine vv_bipush (v := -3) hx dX4_segment_123 (by decide) ?_
                exact vv_iret hx he dX4_segment_125 ⟨_, rfl, by rw [show sp_segment X (nI j) (nI ii) (nI m) = sg_ans X j (X.2.1 13 (4 * j + ii)) (nI m) from by simp [sp_segment, c_5, c_24, hjc, hiic]]; unfold sg_ans; rw [if_neg c_43, if_neg c_51, if_neg c_64, hmc, if_neg (fun q => by omega)], rfl⟩
              · refine vv_aload_n hx dX4_segment_100 rfl ?_
                refine rr_getr 1 hx dX4_segment_101 kf_X4_7 (by decide) rfl rfl hR ?_
                refine vv_aload_n hx dX4_segment_104 rfl ?_
                refine rr_getr 8 hx dX4_segment_105 kf_X4_26 (by decide) rfl rfl hR ?_
                refine vv_bipush (v := nI 16) hx dX4_segment_108 (by decide) ?_
                refine vv_iload hx dX4_segment_110 rfl ?_
                refine vv_imulN hx dX4_segment_112 ?_
                refine vv_iload_n hx dX4_segment_113 rfl ?_
                refine vv_iaddN hx dX4_segment_114 ?_
                refine vv_bipush (v := nI 10) hx dX4_segment_115 (by decide) ?_
                refine vv_isubN hx dX4_segment_117 (by omega) ?_
                refine rr_iald (e0 := X.2.1 8 (((16 * (X.2.1 13 ((4 * j) + ii))) + m) - 10)) (n := 5120) 8 hx dX4_segment_118 rfl hR rfl (by omega) (by first | rfl | simp [xA, xI, xE, xW]) ?_
                have b_118 : X.2.1 8 (((16 * (X.2.1 13 ((4 * j) + ii))) + m) - 10) < 2 ^ 31 := by have h9 := hR.lt 8 (((16 * (X.2.1 13 ((4 * j) + ii))) + m) - 10); first | exact h9 | simpa [xA, xI, xE, xW] using h9
                refine rr_iald (e0 := X.2.1 1 (X.2.1 8 (((16 * (X.2.1 13 ((4 * j) + ii))) + m) - 10))) (n := 601) 1 hx dX4_segment_119 rfl hR rfl (by omega) (by first | rfl | simp [xA, xI, xE, xW]) ?_
                have b_119 : X.2.1 1 (X.2.1 8 (((16 * (X.2.1 13 ((4 * j) + ii))) + m) - 10)) < 2 ^ 31 := by have h9 := hR.lt 1 (X.2.1 8 (((16 * (X.2.1 13 ((4 * j) + ii))) + m) - 10)); first | exact h9 | simpa [xA, xI, xE, xW] using h9
                refine vv_goto (tgt := 125) hx dX4_segment_120 (by decide) ?_
                exact vv_iret hx he dX4_segment_125 ⟨_, rfl, by rw [show sp_segment X (nI j) (nI ii) (nI m) = sg_ans X j (X.2.1 13 (4 * j + ii)) (nI m) from by simp [sp_segment, c_5, c_24, hjc, hiic]]; unfold sg_ans; rw [if_neg c_43, if_neg c_51, if_neg c_64, hmc, if_pos ⟨c_83, by omega⟩], rfl⟩
          · refine vv_aload_n hx dX4_segment_67 rfl ?_
            refine vv_iload hx dX4_segment_68 rfl ?_
            refine vv_aload_n hx dX4_segment_70 rfl ?_
            refine rr_getr 11 hx dX4_segment_71 kf_X4_32 (by decide) rfl rfl hR ?_
            refine vv_iload_n hx dX4_segment_74 rfl ?_
            refine rr_iald (e0 := X.2.1 11 (j)) (n := 150) 11 hx dX4_segment_75 rfl hR rfl (by omega) (by first | rfl | simp [xA, xI, xE, xW]) ?_
            have b_75 : X.2.1 11 (j) < 2 ^ 31 := by have h9 := hR.lt 11 (j); first | exact h9 | simpa [xA, xI, xE, xW] using h9
            refine vv_callV (As := [.int (nI (X.2.1 13 ((4 * j) + ii))), .int (nI (X.2.1 11 (j)))]) hx dX4_segment_76 km_X4_92 kq_X4_live ki_X4_live ks_X4_live kl_4 hR.1 (c_X4_live hR k9 k10 k7 hs320 (k11 j)) rfl rfl (Nat.le_of_ble_eq_true rfl) (by decide) (by decide) rfl rfl (vv_cd ?_)
            exact vv_iret hx he dX4_segment_79 ⟨_, rfl, by rw [show sp_segment X (nI j) (nI ii) a = sg_ans X j (X.2.1 13 (4 * j + ii)) a from by simp [sp_segment, c_5, c_24, hjc, hiic]]; unfold sg_ans; rw [if_neg c_43, if_neg c_51, if_pos c_64], rfl⟩
        · refine vv_aload_n hx dX4_segment_54 rfl ?_
          refine rr_getr 7 hx dX4_segment_55 kf_X4_23 (by decide) rfl rfl hR ?_
          refine vv_iload hx dX4_segment_58 rfl ?_
          refine rr_iald (e0 := X.2.1 7 (X.2.1 13 ((4 * j) + ii))) (n := 320) 7 hx dX4_segment_60 rfl hR rfl (by omega) (by first | rfl | simp [xA, xI, xE, xW]) ?_
          have b_60 : X.2.1 7 (X.2.1 13 ((4 * j) + ii)) < 2 ^ 31 := by have h9 := hR.lt 7 (X.2.1 13 ((4 * j) + ii)); first | exact h9 | simpa [xA, xI, xE, xW] using h9
          exact vv_iret hx he dX4_segment_61 ⟨_, rfl, by rw [show sp_segment X (nI j) (nI ii) a = sg_ans X j (X.2.1 13 (4 * j + ii)) a from by simp [sp_segment, c_5, c_24, hjc, hiic]]; unfold sg_ans; rw [if_neg c_43, if_pos c_51], rfl⟩
      · refine vv_iload hx dX4_segment_46 rfl ?_
        exact vv_iret hx he dX4_segment_48 ⟨_, rfl, by rw [show sp_segment X (nI j) (nI ii) a = sg_ans X j (X.2.1 13 (4 * j + ii)) a from by simp [sp_segment, c_5, c_24, hjc, hiic]]; unfold sg_ans; rw [if_pos c_43], rfl⟩
    · refine vv_bipush (v := -3) hx dX4_segment_27 (by decide) ?_
      exact vv_iret hx he dX4_segment_29 ⟨_, rfl, by simp [sp_segment, c_5, c_24, hjc], rfl⟩
  · refine vv_bipush (v := -2) hx dX4_segment_8 (by decide) ?_
    exact vv_iret hx he dX4_segment_10 ⟨_, rfl, by simp [sp_segment, c_5], rfl⟩
set_option maxRecDepth 100000 in
set_option maxHeartbeats 4000000 in
theorem l_X4_isThere_in {S : mm_H} {r : Nat} {ad : Nat → Nat} {X : xx_X} (hR : xx_R S r ad X) (hk : xx_ok X) {x : vv_X} {sg v : Nat} {post : Option Value → mm_H → Prop} (hx : vv_C x cX4_isThere RX4 2 43 4) (he : vv_E x (some .boolean) post) (hs : sg < 2 ^ 31) (hv : v < X.1 10) (ht : (fun v => heldN X v && anyN (fun i => decide (X.2.1 13 (4 * v + i) = sg)) (X.2.1 12 v)) v = true → post (some (.int (nI 1))) S) (cont : ∀ i, (fun v => heldN X v && anyN (fun i => decide (X.2.1 13 (4 * v + i) = sg)) (X.2.1 12 v)) v = false → vv_V x 0 0 52 [(0, .ref r), (1, .int (nI (sg))), (2, .int (nI (v))), (3, .int (nI (i)))] [] S) : ∀ d i, i + d = X.2.1 12 v → anyN (fun i => decide (X.2.1 13 (4 * v + i) = sg)) i = false → vv_V x 0 0 12 [(0, .ref r), (1, .int (nI (sg))), (2, .int (nI (v))), (3, .int (nI (i)))] [] S := by
  obtain ⟨k0, k1, k2, k3, k4, k5, k6, k7, k8, k9, k10, k11, k12, k13⟩ := id hk
  have hm3 := k12 v
  intro d
  induction d with
  | zero =>
    intro i hd ha
    refine vv_iload_n hx dX4_isThere_12 rfl ?_
    refine vv_aload_n hx dX4_isThere_13 rfl ?_
    refine rr_getr 12 hx dX4_isThere_14 kf_X4_35 (by decide) rfl rfl hR ?_
    refine vv_iload_n hx dX4_isThere_17 rfl ?_
    refine rr_iald (e0 := X.2.1 12 (v)) (n := 150) 12 hx dX4_isThere_18 rfl hR rfl (by omega) (by first | rfl | simp [xA, xI, xE, xW]) ?_
    have b_18 : X.2.1 12 (v) < 2 ^ 31 := by have h9 := hR.lt 12 (v); first | exact h9 | simpa [xA, xI, xE, xW] using h9
    refine vv_icmp_geN (tgt := 52) hx dX4_isThere_19 (by decide) (by omega) (by omega) (fun c_19 => ?_) (fun c_19 => ?_)
    · have e : X.2.1 12 v = i := by omega
      exact cont i (by simp only [e, ha, Bool.and_false])
    · exfalso; omega
  | succ d ih =>
    intro i hd ha
    refine vv_iload_n hx dX4_isThere_12 rfl ?_
    refine vv_aload_n hx dX4_isThere_13 rfl ?_
    refine rr_getr 12 hx dX4_isThere_14 kf_X4_35 (by decide) rfl rfl hR ?_
    refine vv_iload_n hx dX4_isThere_17 rfl ?_
    refine rr_iald (e0 := X.2.1 12 (v)) (n := 150) 12 hx dX4_isThere_18 rfl hR rfl (by omega) (by first | rfl | simp [xA, xI, xE, xW]) ?_
    have b_18 : X.2.1 12 (v) < 2 ^ 31 := by have h9 := hR.lt 12 (v); first | exact h9 | simpa [xA, xI, xE, xW] using h9
    refine vv_icmp_geN (tgt := 52) hx dX4_isThere_19 (by decide) (by omega) (by omega) (fun c_19 => ?_) (fun c_19 => ?_)
    · exfalso; omega
    · refine vv_aload_n hx dX4_isThere_22 rfl ?_
      refine vv_iload_n hx dX4_isThere_23 rfl ?_
      refine vv_callV (As := [.int (nI (v))]) hx dX4_isThere_24 km_X4_72 kq_X4_isHeld ki_X4_isHeld ks_X4_isHeld kl_4 hR.1 (c_X4_isHeldN hR hk hv) rfl rfl (Nat.le_of_ble_eq_true rfl) (by decide) (by decide) rfl rfl (vv_cd ?_)
      refine vv_if_eqB (tgt := 52) hx dX4_isThere_27 (by decide) (fun c_27 => ?_) (fun c_27 => ?_)
      · exact cont i (by simp only [c_27, Bool.false_and])
      · refine vv_aload_n hx dX4_isThere_30 rfl ?_
        refine rr_getr 13 hx dX4_isThere_31 kf_X4_38 (by decide) rfl rfl hR ?_
        refine vv_iconst (v := nI 4) hx dX4_isThere_34 (by decide) ?_
        refine vv_iload_n hx dX4_isThere_35 rfl ?_
        refine vv_imulN hx dX4_isThere_36 ?_
        refine vv_iload_n hx dX4_isThere_37 rfl ?_
        refine vv_iaddN hx dX4_isThere_38 ?_
        refine rr_iald (e0 := X.2.1 13 ((4 * v) + i)) (n := 600) 13 hx dX4_isThere_39 rfl hR rfl (by omega) (by first | rfl | simp [xA, xI, xE, xW]) ?_
        have b_39 : X.2.1 13 ((4 * v) + i) < 2 ^ 31 := by have h9 := hR.lt 13 ((4 * v) + i); first | exact h9 | simpa [xA, xI, xE, xW] using h9
        refine vv_iload_n hx dX4_isThere_40 rfl ?_
        refine vv_icmp_neN (tgt := 46) hx dX4_isThere_41 (by decide) (by omega) (by omega) (fun c_41 => ?_) (fun c_41 => ?_)
        · refine vv_iinc (u := (nI (i + 1))) (lv' := [(0, .ref r), (1, .int (nI (sg))), (2, .int (nI (v))), (3, .int (nI (i + 1)))]) hx dX4_isThere_46 rfl (nI_1 _) (by decide) rfl rfl ?_
          refine vv_goto (tgt := 12) hx dX4_isThere_49 (by decide) ?_
          exact ih (i + 1) (by omega) (by unfold anyN; rw [ha, Bool.false_or]; exact decide_eq_false c_41)
        · refine vv_iconst (v := nI 1) hx dX4_isThere_44 (by decide) ?_
          exact vv_zret hx he dX4_isThere_45 (by first | exact bI_01 _ | exact Or.inl rfl | exact Or.inr rfl) (ht (by simp only [c_27, Bool.true_and]; exact anyN_true (i := i) (by omega) (decide_eq_true c_41)))
set_option maxRecDepth 100000 in
set_option maxHeartbeats 4000000 in
theorem l_X4_isThere {S : mm_H} {r : Nat} {ad : Nat → Nat} {X : xx_X} (hR : xx_R S r ad X) (hk : xx_ok X) {x : vv_X} {sg : Nat} (hx : vv_C x cX4_isThere RX4 2 43 4) (he : vv_E x (some .boolean) (fun zz S' => ∃ r0 : Int32, zz = some (.int r0) ∧ (fun z S' => z = bI (thereB X sg) ∧ S' = S) r0 S')) (hs : sg < 2 ^ 31) : ∀ d v, v + d = X.1 10 → anyN (fun v => heldN X v && anyN (fun i => decide (X.2.1 13 (4 * v + i) = sg)) (X.2.1 12 v)) v = false → vv_V x 0 0 2 [(0, .ref r), (1, .int (nI (sg))), (2, .int (nI (v)))] [] S := by
  obtain ⟨k0, k1, k2, k3, k4, k5, k6, k7, k8, k9, k10, k11, k12, k13⟩ := id hk
  intro d
  induction d with
  | zero =>
    intro v hd ha
    refine vv_iload_n hx dX4_isThere_2 rfl ?_
    refine vv_aload_n hx dX4_isThere_3 rfl ?_
    refine rr_geti (e0 := X.1 10) 10 hx dX4_isThere_4 kf_X4_29 (by decide) rfl rfl hR rfl ?_
    have b_4 : X.1 10 < 2 ^ 31 := hR.li 10
    refine vv_icmp_geN (tgt := 58) hx dX4_isThere_7 (by decide) (by omega) (by omega) (fun c_7 => ?_) (fun c_7 => ?_)
    · refine vv_iconst (v := nI 0) hx dX4_isThere_58 (by decide) ?_
      exact vv_zret hx he dX4_isThere_59 (by first | exact bI_01 _ | exact Or.inl rfl | exact Or.inr rfl) ⟨_, rfl, bI_f (by unfold thereB; rw [show X.1 10 = v by omega]; exact ha), rfl⟩
    · exfalso; omega
  | succ d ih =>
    intro v hd ha
    refine vv_iload_n hx dX4_isThere_2 rfl ?_
    refine vv_aload_n hx dX4_isThere_3 rfl ?_
    refine rr_geti (e0 := X.1 10) 10 hx dX4_isThere_4 kf_X4_29 (by decide) rfl rfl hR rfl ?_
    have b_4 : X.1 10 < 2 ^ 31 := hR.li 10
    refine vv_icmp_geN (tgt := 58) hx dX4_isThere_7 (by decide) (by omega) (by omega) (fun c_7 => ?_) (fun c_7 => ?_)
    · exfalso; omega
    · refine vv_iconst (v := nI 0) hx dX4_isThere_10 (by decide) ?_
      refine vv_istore_n (lv' := [(0, .ref r), (1, .int (nI (sg))), (2, .int (nI (v))), (3, .int (nI (0)))]) hx dX4_isThere_11 (by decide) rfl rfl ?_
      refine l_X4_isThere_in hR hk hx he hs (by omega) (fun hf => ⟨_, rfl, bI_t (anyN_true (i := v) (by omega) hf), rfl⟩) (fun i hf => ?_) (X.2.1 12 v) 0 (by omega) rfl
      refine vv_iinc (u := (nI (v + 1))) (lv' := [(0, .ref r), (1, .int (nI (sg))), (2, .int (nI (v + 1))), (3, .int (nI (i)))]) hx dX4_isThere_52 rfl (nI_1 _) (by decide) rfl rfl ?_
      refine vv_goto (tgt := 2) hx dX4_isThere_55 (by decide) ?_
      exact vv_sub [0, 1, 2] rfl (ih (v + 1) (by omega) (by unfold anyN; rw [ha, Bool.false_or]; exact hf))
set_option maxRecDepth 100000 in
set_option maxHeartbeats 4000000 in
theorem c_X4_isThere {S : mm_H} {r : Nat} {ad : Nat → Nat} {X : xx_X} (hR : xx_R S r ad X) (hk : xx_ok X) {sg : Nat} (hs : sg < 2 ^ 31) : MZ yX4_isThere cX4_isThere 4 2 43 0 0 [.ref r, .int (nI (sg))] S (fun z S' => z = bI (thereB X sg) ∧ S' = S) := by
  refine MA.of (by decide) (Nat.le_of_ble_eq_true rfl) ?_
  intro x hx he hini
  have hx : vv_C x cX4_isThere RX4 2 43 4 := hx
  show vv_V x 0 0 0 [(0, .ref r), (1, .int (nI (sg)))] [] S
  refine vv_iconst (v := nI 0) hx dX4_isThere_0 (by decide) ?_
  refine vv_istore_n (lv' := [(0, .ref r), (1, .int (nI (sg))), (2, .int (nI (0)))]) hx dX4_isThere_1 (by decide) rfl rfl ?_
  exact l_X4_isThere hR hk hx he hs (X.1 10) 0 (by omega) rfl
set_option maxRecDepth 100000 in
set_option maxHeartbeats 4000000 in
theorem l_X4_told_5 {S : mm_H} {r : Nat} {ad : Nat → Nat} {X : xx_X} (hR : xx_R S r ad X) (hk : xx_ok X) {x : vv_X} {a : Int32} {post : Option Value → mm_H → Prop} (hx : vv_C x cX4_told_ RX4 3 66 4) (he : vv_E x (some .int) post) (hp : post (some (.int (nI (cntN (thereB X) (X.1 6))))) S) : ∀ d k, k + d = X.1 6 → vv_V x 0 0 75 [(0, .ref r), (1, .int (a)), (2, .int (nI (cntN (thereB X) k))), (3, .int (nI (k)))] [] S := by
  obtain ⟨k0, k1, k2, k3, k4, k5, k6, k7, k8, k9, k10, k11, k12, k13⟩ := id hk
  intro d
  induction d with
  | zero =>
    intro k hd
    have hcn := cntN_le (thereB X) k
    refine vv_iload_n hx dX4_told__75 rfl ?_
    refine vv_aload_n hx dX4_told__76 rfl ?_
    refine rr_geti (e0 := X.1 6) 6 hx dX4_told__77 kf_X4_82 (by decide) rfl rfl hR rfl ?_
    have b_77 : X.1 6 < 2 ^ 31 := hR.li 6
    refine vv_icmp_geN (tgt := 105) hx dX4_told__80 (by decide) (by omega) (by omega) (fun c_80 => ?_) (fun c_80 => ?_)
    · refine vv_iload_n hx dX4_told__105 rfl ?_
      exact vv_iret hx he dX4_told__106 (by rw [show X.1 6 = k by omega] at hp; exact hp)
    · exfalso; omega
  | succ d ih =>
    intro k hd
    have hcn := cntN_le (thereB X) k
    refine vv_iload_n hx dX4_told__75 rfl ?_
    refine vv_aload_n hx dX4_told__76 rfl ?_
    refine rr_geti (e0 := X.1 6) 6 hx dX4_told__77 kf_X4_82 (by decide) rfl rfl hR rfl ?_
    have b_77 : X.1 6 < 2 ^ 31 := hR.li 6
    refine vv_icmp_geN (tgt := 105) hx dX4_told__80 (by decide) (by omega) (by omega) (fun c_80 => ?_) (fun c_80 => ?_)
    · exfalso; omega
    · refine vv_iload_n hx dX4_told__83 rfl ?_
      refine vv_aload_n hx dX4_told__84 rfl ?_
      refine vv_iload_n hx dX4_told__85 rfl ?_
      refine vv_callV (As := [.int (nI (k))]) hx dX4_told__86 km_X4_111 kq_X4_isThere ki_X4_isThere ks_X4_isThere kl_4 hR.1 (c_X4_isThere hR hk (by omega)) rfl rfl (Nat.le_of_ble_eq_true rfl) (by decide) (by decide) rfl rfl (vv_cd ?_)
      refine vv_if_eqB (tgt := 96) hx dX4_told__89 (by decide) (fun c_89 => ?_) (fun c_89 => ?_)
      · refine vv_iconst (v := nI 0) hx dX4_told__96 (by decide) ?_
        refine vv_iaddN hx dX4_told__97 ?_
        refine vv_istore_n (lv' := [(0, .ref r), (1, .int (a)), (2, .int (nI ((cntN (thereB X) k) + 0))), (3, .int (nI (k)))]) hx dX4_told__98 (by decide) rfl rfl ?_
        refine vv_iinc (u := (nI (k + 1))) (lv' := [(0, .ref r), (1, .int (a)), (2, .int (nI ((cntN (thereB X) k) + 0))), (3, .int (nI (k + 1)))]) hx dX4_told__99 rfl (nI_1 _) (by decide) rfl rfl ?_
        refine vv_goto (tgt := 75) hx dX4_told__102 (by decide) ?_
        have e : cntN (thereB X) (k + 1) = (cntN (thereB X) k) + 0 := cntN_f (by simp [c_89])
        rw [← e]
        exact vv_sub [0, 1, 2, 3] rfl (ih (k + 1) (by omega))
      · refine vv_iconst (v := nI 1) hx dX4_told__92 (by decide) ?_
        refine vv_goto (tgt := 97) hx dX4_told__93 (by decide) ?_
        refine vv_iaddN hx dX4_told__97 ?_
        refine vv_istore_n (lv' := [(0, .ref r), (1, .int (a)), (2, .int (nI ((cntN (thereB X) k) + 1))), (3, .int (nI (k)))]) hx dX4_told__98 (by decide) rfl rfl ?_
        refine vv_iinc (u := (nI (k + 1))) (lv' := [(0, .ref r), (1, .int (a)), (2, .int (nI ((cntN (thereB X) k) + 1))), (3, .int (nI (k + 1)))]) hx dX4_told__99 rfl (nI_1 _) (by decide) rfl rfl ?_
        refine vv_goto (tgt := 75) hx dX4_told__102 (by decide) ?_
        have e : cntN (thereB X) (k + 1) = (cntN (thereB X) k) + 1 := cntN_t (by simp [c_89])
        rw [← e]
        exact vv_sub [0, 1, 2, 3] rfl (ih (k + 1) (by omega))
set_option maxRecDepth 100000 in
set_option maxHeartbeats 4000000 in
theorem l_X4_told_7 {S : mm_H} {r : Nat} {ad : Nat → Nat} {X : xx_X} (hR : xx_R S r ad X) (hk : xx_ok X) {x : vv_X} {a : Int32} {post : Option Value → mm_H → Prop} (hx : vv_C x cX4_told_ RX4 3 66 4) (he : vv_E x (some .int) post) (hp : post (some (.int (nI (cntN (heldN X) (X.1 10))))) S) : ∀ d k, k + d = X.1 10 → vv_V x 0 0 114 [(0, .ref r), (1, .int (a)), (2, .int (nI (cntN (heldN X) k))), (3, .int (nI (k)))] [] S := by
  obtain ⟨k0, k1, k2, k3, k4, k5, k6, k7, k8, k9, k10, k11, k12, k13⟩ := id hk
  intro d
  induction d with
  | zero =>
    intro k hd
    have hcn := cntN_le (heldN X) k
    refine vv_iload_n hx dX4_told__114 rfl ?_
    refine vv_aload_n hx dX4_told__115 rfl ?_
    refine rr_geti (e0 := X.1 10) 10 hx dX4_told__116 kf_X4_29 (by decide) rfl rfl hR rfl ?_
    have b_116 : X.1 10 < 2 ^ 31 := hR.li 10
    refine vv_icmp_geN (tgt := 144) hx dX4_told__119 (by decide) (by omega) (by omega) (fun c_119 => ?_) (fun c_119 => ?_)
    · refine vv_iload_n hx dX4_told__144 rfl ?_
      exact vv_iret hx he dX4_told__145 (by rw [show X.1 10 = k by omega] at hp; exact hp)
    · exfalso; omega
  | succ d ih =>
    intro k hd
    have hcn := cntN_le (heldN X) k
    refine vv_iload_n hx dX4_told__114 rfl ?_
    refine vv_aload_n hx dX4_told__115 rfl ?_
    refine rr_geti (e0 := X.1 10) 10 hx dX4_told__116 kf_X4_29 (by decide) rfl rfl hR rfl ?_
    have b_116 : X.1 10 < 2 ^ 31 := hR.li 10
    refine vv_icmp_geN (tgt := 144) hx dX4_told__119 (by decide) (by omega) (by omega) (fun c_119 => ?_) (fun c_119 => ?_)
    · exfalso; omega
    · refine vv_iload_n hx dX4_told__122 rfl ?_
      refine vv_aload_n hx dX4_told__123 rfl ?_
      refine vv_iload_n hx dX4_told__124 rfl ?_
      refine vv_callV (As := [.int (nI (k))]) hx dX4_told__125 km_X4_72 kq_X4_isHeld ki_X4_isHeld ks_X4_isHeld kl_4 hR.1 (c_X4_isHeldN hR hk (by omega)) rfl rfl (Nat.le_of_ble_eq_true rfl) (by decide) (by decide) rfl rfl (vv_cd ?_)
      refine vv_if_eqB (tgt := 135) hx dX4_told__128 (by decide) (fun c_128 => ?_) (fun c_128 => ?_)
      · refine vv_iconst (v := nI 0) hx dX4_told__135 (by decide) ?_
        refine vv_iaddN hx dX4_told__136 ?_
        refine vv_istore_n (lv' := [(0, .ref r), (1, .int (a)), (2, .int (nI ((cntN (heldN X) k) + 0))), (3, .int (nI (k)))]) hx dX4_told__137 (by decide) rfl rfl ?_
        refine vv_iinc (u := (nI (k + 1))) (lv' := [(0, .ref r), (1, .int (a)), (2, .int (nI ((cntN (heldN X) k) + 0))), (3, .int (nI (k + 1)))]) hx dX4_told__138 rfl (nI_1 _) (by decide) rfl rfl ?_
        refine vv_goto (tgt := 114) hx dX4_told__141 (by decide) ?_
        have e : cntN (heldN X) (k + 1) = (cntN (heldN X) k) + 0 := cntN_f (by simp [c_128])
        rw [← e]
        exact vv_sub [0, 1, 2, 3] rfl (ih (k + 1) (by omega))
      · refine vv_iconst (v := nI 1) hx dX4_told__131 (by decide) ?_
        refine vv_goto (tgt := 136) hx dX4_told__132 (by decide) ?_
        refine vv_iaddN hx dX4_told__136 ?_
        refine vv_istore_n (lv' := [(0, .ref r), (1, .int (a)), (2, .int (nI ((cntN (heldN X) k) + 1))), (3, .int (nI (k)))]) hx dX4_told__137 (by decide) rfl rfl ?_
        refine vv_iinc (u := (nI (k + 1))) (lv' := [(0, .ref r), (1, .int (a)), (2, .int (nI ((cntN (heldN X) k) + 1))), (3, .int (nI (k + 1)))]) hx dX4_told__138 rfl (nI_1 _) (by decide) rfl rfl ?_
        refine vv_goto (tgt := 114) hx dX4_told__141 (by decide) ?_
        have e : cntN (heldN X) (k + 1) = (cntN (heldN X) k) + 1 := cntN_t (by simp [c_128])
        rw [← e]
        exact vv_sub [0, 1, 2, 3] rfl (ih (k + 1) (by omega))
set_option maxRecDepth 100000 in
set_option maxHeartbeats 4000000 in
theorem c_X4_told_ {S : mm_H} {r : Nat} {ad : Nat → Nat} {X : xx_X} (hR : xx_R S r ad X) (hk : xx_ok X) (a : Int32) : MI yX4_told_ cX4_told_ 4 3 66 0 0 [.ref r, .int (a)] S (fun z S' => z = sp_told X a ∧ S' = S) := by
  refine MA.of (by decide) (Nat.le_of_ble_eq_true rfl) ?_
  intro x hx he hini
  have hx : vv_C x cX4_told_ RX4 3 66 4 := hx
  show vv_V x 0 0 0 [(0, .ref r), (1, .int (a))] [] S
  obtain ⟨k0, k1, k2, k3, k4, k5, k6, k7, k8, k9, k10, k11, k12, k13⟩ := id hk
  refine vv_iconst (v := nI 0) hx dX4_told__0 (by decide) ?_
  refine vv_istore_n (lv' := [(0, .ref r), (1, .int (a)), (2, .int (nI (0)))]) hx dX4_told__1 (by decide) rfl rfl ?_
  refine vv_iload_n hx dX4_told__2 rfl ?_
  rcases sw_cases (n := 8) (a) (by decide) with c_3 | ⟨j, hj, c_3⟩
  · refine vv_tabOut (tgt := 146) hx dX4_told__3 (by first | exact c_3 | (have h9 := c_3; omega)) (by decide) ?_
    refine vv_bipush (v := -3) hx dX4_told__146 (by decide) ?_
    exact vv_iret hx he dX4_told__148 ⟨_, rfl, by simp only [sp_told]; first | (simp [c_3]; done) | (rcases c_3 with h9 | h9 <;> simp [show ¬ a.toInt = 0 by omega, show ¬ a.toInt = 1 by omega, show ¬ a.toInt = 2 by omega, show ¬ a.toInt = 3 by omega, show ¬ a.toInt = 4 by omega, show ¬ a.toInt = 5 by omega, show ¬ a.toInt = 6 by omega, show ¬ a.toInt = 7 by omega]), rfl⟩
  · rcases (show j = 0 ∨ j = 1 ∨ j = 2 ∨ j = 3 ∨ j = 4 ∨ j = 5 ∨ j = 6 ∨ j = 7 by omega) with rfl | rfl | rfl | rfl | rfl | rfl | rfl | rfl
    · refine vv_tabIn (off := 45) (tgt := 48) hx dX4_told__3 (by rw [c_3]; decide) (by rw [c_3]; decide) (by rw [c_3]; decide) (by decide) ?_
      refine vv_aload_n hx dX4_told__48 rfl ?_
      refine rr_geti (e0 := X.1 15) 15 hx dX4_told__49 kf_X4_48 (by decide) rfl rfl hR rfl ?_
      have b_49 : X.1 15 < 2 ^ 31 := hR.li 15
      exact vv_iret hx he dX4_told__52 ⟨_, rfl, by simp only [sp_told]; first | (simp [c_3]; done) | (rcases c_3 with h9 | h9 <;> simp [show ¬ a.toInt = 0 by omega, show ¬ a.toInt = 1 by omega, show ¬ a.toInt = 2 by omega, show ¬ a.toInt = 3 by omega, show ¬ a.toInt = 4 by omega, show ¬ a.toInt = 5 by omega, show ¬ a.toInt = 6 by omega, show ¬ a.toInt = 7 by omega]), rfl⟩
    · refine vv_tabIn (off := 50) (tgt := 53) hx dX4_told__3 (by rw [c_3]; decide) (by rw [c_3]; decide) (by rw [c_3]; decide) (by decide) ?_
      refine vv_aload_n hx dX4_told__53 rfl ?_
      refine rr_geti (e0 := X.1 16) 16 hx dX4_told__54 kf_X4_51 (by decide) rfl rfl hR rfl ?_
      have b_54 : X.1 16 < 2 ^ 31 := hR.li 16
      exact vv_iret hx he dX4_told__57 ⟨_, rfl, by simp only [sp_told]; first | (simp [c_3]; done) | (rcases c_3 with h9 | h9 <;> simp [show ¬ a.toInt = 0 by omega, show ¬ a.toInt = 1 by omega, show ¬ a.toInt = 2 by omega, show ¬ a.toInt = 3 by omega, show ¬ a.toInt = 4 by omega, show ¬ a.toInt = 5 by omega, show ¬ a.toInt = 6 by omega, show ¬ a.toInt = 7 by omega]), rfl⟩
    · refine vv_tabIn (off := 55) (tgt := 58) hx dX4_told__3 (by rw [c_3]; decide) (by rw [c_3]; decide) (by rw [c_3]; decide) (by decide) ?_
      refine vv_aload_n hx dX4_told__58 rfl ?_
      refine rr_geti (e0 := X.1 17) 17 hx dX4_told__59 kf_X4_101 (by decide) rfl rfl hR rfl ?_
      have b_59 : X.1 17 < 2 ^ 31 := hR.li 17
      exact vv_iret hx he dX4_told__62 ⟨_, rfl, by simp only [sp_told]; first | (simp [c_3]; done) | (rcases c_3 with h9 | h9 <;> simp [show ¬ a.toInt = 0 by omega, show ¬ a.toInt = 1 by omega, show ¬ a.toInt = 2 by omega, show ¬ a.toInt = 3 by omega, show ¬ a.toInt = 4 by omega, show ¬ a.toInt = 5 by omega, show ¬ a.toInt = 6 by omega, show ¬ a.toInt = 7 by omega]), rfl⟩
    · refine vv_tabIn (off := 60) (tgt := 63) hx dX4_told__3 (by rw [c_3]; decide) (by rw [c_3]; decide) (by rw [c_3]; decide) (by decide) ?_
      refine vv_aload_n hx dX4_told__63 rfl ?_
      refine rr_geti (e0 := X.1 0) 0 hx dX4_told__64 kf_X4_58 (by decide) rfl rfl hR rfl ?_
      have b_64 : X.1 0 < 2 ^ 31 := hR.li 0
      exact vv_iret hx he dX4_told__67 ⟨_, rfl, by simp only [sp_told]; first | (simp [c_3]; done) | (rcases c_3 with h9 | h9 <;> simp [show ¬ a.toInt = 0 by omega, show ¬ a.toInt = 1 by omega, show ¬ a.toInt = 2 by omega, show ¬ a.toInt = 3 by omega, show ¬ a.toInt = 4 by omega, show ¬ a.toInt = 5 by omega, show ¬ a.toInt = 6 by omega, show ¬ a.toInt = 7 by omega]), rfl⟩
    · refine vv_tabIn (off := 65) (tgt := 68) hx dX4_told__3 (by rw [c_3]; decide) (by rw [c_3]; decide) (by rw [c_3]; decide) (by decide) ?_
      refine vv_aload_n hx dX4_told__68 rfl ?_
      refine rr_geti (e0 := X.1 9) 9 hx dX4_told__69 kf_X4_85 (by decide) rfl rfl hR rfl ?_
      have b_69 : X.1 9 < 2 ^ 31 := hR.li 9
      exact vv_iret hx he dX4_told__72 ⟨_, rfl, by simp only [sp_told]; first | (simp [c_3]; done) | (rcases c_3 with h9 | h9 <;> simp [show ¬ a.toInt = 0 by omega, show ¬ a.toInt = 1 by omega, show ¬ a.toInt = 2 by omega, show ¬ a.toInt = 3 by omega, show ¬ a.toInt = 4 by omega, show ¬ a.toInt = 5 by omega, show ¬ a.toInt = 6 by omega, show ¬ a.toInt = 7 by omega]), rfl⟩
    · refine vv_tabIn (off := 70) (tgt := 73) hx dX4_told__3 (by rw [c_3]; decide) (by rw [c_3]; decide) (by rw [c_3]; decide) (by decide) ?_
      refine vv_iconst (v := nI 0) hx dX4_told__73 (by decide) ?_
      refine vv_istore_n (lv' := [(0, .ref r), (1, .int (a)), (2, .int (nI (0))), (3, .int (nI (0)))]) hx dX4_told__74 (by decide) rfl rfl ?_
      exact l_X4_told_5 hR hk hx he ⟨_, rfl, by simp [sp_told, c_3], rfl⟩ (X.1 6) 0 (by omega)
    · refine vv_tabIn (off := 104) (tgt := 107) hx dX4_told__3 (by rw [c_3]; decide) (by rw [c_3]; decide) (by rw [c_3]; decide) (by decide) ?_
      refine vv_aload_n hx dX4_told__107 rfl ?_
      refine rr_geti (e0 := X.1 6) 6 hx dX4_told__108 kf_X4_82 (by decide) rfl rfl hR rfl ?_
      have b_108 : X.1 6 < 2 ^ 31 := hR.li 6
      exact vv_iret hx he dX4_told__111 ⟨_, rfl, by simp only [sp_told]; first | (simp [c_3]; done) | (rcases c_3 with h9 | h9 <;> simp [show ¬ a.toInt = 0 by omega, show ¬ a.toInt = 1 by omega, show ¬ a.toInt = 2 by omega, show ¬ a.toInt = 3 by omega, show ¬ a.toInt = 4 by omega, show ¬ a.toInt = 5 by omega, show ¬ a.toInt = 6 by omega, show ¬ a.toInt = 7 by omega]), rfl⟩
    · refine vv_tabIn (off := 109) (tgt := 112) hx dX4_told__3 (by rw [c_3]; decide) (by rw [c_3]; decide) (by rw [c_3]; decide) (by decide) ?_
      refine vv_iconst (v := nI 0) hx dX4_told__112 (by decide) ?_
      refine vv_istore_n (lv' := [(0, .ref r), (1, .int (a)), (2, .int (nI (0))), (3, .int (nI (0)))]) hx dX4_told__113 (by decide) rfl rfl ?_
      exact l_X4_told_7 hR hk hx he ⟨_, rfl, by simp [sp_told, c_3], rfl⟩ (X.1 10) 0 (by omega)
