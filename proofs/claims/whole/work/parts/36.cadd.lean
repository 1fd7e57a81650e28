set_option maxRecDepth 100000 in
set_option maxHeartbeats 4000000 in
theorem l_X3_merge1 {T0 : mm_H} {o nw n rw a b : Nat} {ch wd gr sn rn : Nat → Nat} {ws : Nat → Nat → Nat} (hoK0 : mm_K T0 o = 4) (hoP00 : mm_P T0 o 0 = some nw) (hst0 : stA T0 nw n ch wd) (hI6 : mm_I T0 o 6 = nI a) (hI7 : mm_I T0 o 7 = nI b) (hUQ : UQ T0) (hrK : mm_K T0 rw = 7) (hrL : mm_L T0 rw = 4) (hrE : ∀ t, t < 4 → mm_P T0 rw t = some (gr t)) (hsg : ∀ t, t < 4 → sgA T0 (gr t) (sn t) (rn t) (ws t)) (hsum : ∀ t, t < 3 → fqN ch ws t ≤ 16) {x : vv_X} (hx : vv_C x cX3_mergeFewest RX3 4 86 7) (cont : vv_V x 2 20 64 [(0, .ref o), (1, .ref rw), (2, .int (nI (4))), (3, .int (nI ((bst (fqN ch ws) 3).1)))] [] T0) : ∀ d i, i + d = 3 → vv_V x 2 20 9 [(0, .ref o), (1, .ref rw), (2, .int (nI (4))), (3, .int (nI ((bst (fqN ch ws) i).1))), (4, .int (nI (min 17 (bst (fqN ch ws) i).2))), (5, .int (nI (i)))] [] T0 := by
  intro d
  induction d with
  | zero =>
    intro i hd
    have ei : i = 3 := by omega
    subst ei
    refine vv_iload hx dX3_mergeFewest_9 rfl ?_
    refine vv_iconst (v := nI 1) hx dX3_mergeFewest_11 (by decide) ?_
    refine vv_iaddN hx dX3_mergeFewest_12 ?_
    refine vv_iload_n hx dX3_mergeFewest_13 rfl ?_
    refine vv_icmp_geN (tgt := 64) hx dX3_mergeFewest_14 (by decide) (by omega) (by omega) (fun c_14 => ?_) (fun c_14 => ?_)
    · exact vv_sub [0, 1, 2, 3] rfl cont
    · exfalso; omega
  | succ d ih =>
    intro i hd
    have h9 := ih (i + 1) (by omega)
    have hbl := bst_lt (fqN ch ws) i
    have hsi := hsum i (by omega)
    have hfi : fqN ch ws i = cntN (ilB (ws i) ch) 16 + cntN (ilB (ws (i + 1)) ch) 16 := rfl
    refine vv_iload hx dX3_mergeFewest_9 rfl ?_
    refine vv_iconst (v := nI 1) hx dX3_mergeFewest_11 (by decide) ?_
    refine vv_iaddN hx dX3_mergeFewest_12 ?_
    refine vv_iload_n hx dX3_mergeFewest_13 rfl ?_
    refine vv_icmp_geN (tgt := 64) hx dX3_mergeFewest_14 (by decide) (by omega) (by omega) (fun c_14 => ?_) (fun c_14 => ?_)
    · exfalso; omega
    · refine vv_aload_n hx dX3_mergeFewest_17 rfl ?_
      refine vv_iload hx dX3_mergeFewest_18 rfl ?_
      refine vv_aald (j := 1) hx dX3_mergeFewest_20 hrK (by decide) (fun _ => rfl) rfl (by rw [hrL]; omega) (by rw [hrL]; decide) ?_
      rw [hrE (i) (by omega)]
      show vv_V x _ _ _ _ (.ref (gr (i)) :: _) T0
      refine vv_aload_n hx dX3_mergeFewest_21 rfl ?_
      refine vv_getr (b := nw) 0 hx dX3_mergeFewest_22 kf_X3_10 kl_3 (by decide) rfl hoK0 hoP00 ?_
      refine vv_callVN (As := [.ref nw]) hx dX3_mergeFewest_25 km_X3_139 kq_X0_countLive ki_X0_countLive ks_X0_countLive kl_0 (hsg (i) (by omega)).1 (c_X0_countLive (hsg (i) (by omega)) hst0) rfl rfl (Nat.le_of_ble_eq_true rfl) (by decide) (by decide) rfl rfl (vv_cd ?_)
      have hcl_25 := cntN_le (ilB (ws (i)) ch) 16
      refine vv_aload_n hx dX3_mergeFewest_28 rfl ?_
      refine vv_iload hx dX3_mergeFewest_29 rfl ?_
      refine vv_iconst (v := nI 1) hx dX3_mergeFewest_31 (by decide) ?_
      refine vv_iaddN hx dX3_mergeFewest_32 ?_
      refine vv_aald (j := 1) hx dX3_mergeFewest_33 hrK (by decide) (fun _ => rfl) rfl (by rw [hrL]; omega) (by rw [hrL]; decide) ?_
      rw [hrE (i + 1) (by omega)]
      show vv_V x _ _ _ _ (.ref (gr (i + 1)) :: _) T0
      refine vv_aload_n hx dX3_mergeFewest_34 rfl ?_
      refine vv_getr (b := nw) 0 hx dX3_mergeFewest_35 kf_X3_10 kl_3 (by decide) rfl hoK0 hoP00 ?_
      refine vv_callVN (As := [.ref nw]) hx dX3_mergeFewest_38 km_X3_139 kq_X0_countLive ki_X0_countLive ks_X0_countLive kl_0 (hsg (i + 1) (by omega)).1 (c_X0_countLive (hsg (i + 1) (by omega)) hst0) rfl rfl (Nat.le_of_ble_eq_true rfl) (by decide) (by decide) rfl rfl (vv_cd ?_)
      have hcl_38 := cntN_le (ilB (ws (i + 1)) ch) 16
      refine vv_iaddN hx dX3_mergeFewest_41 ?_
      refine vv_istore (lv' := [(0, .ref o), (1, .ref rw), (2, .int (nI (4))), (3, .int (nI ((bst (fqN ch ws) i).1))), (4, .int (nI (min 17 (bst (fqN ch ws) i).2))), (5, .int (nI (i))), (6, .int (nI ((cntN (ilB (ws (i)) ch) 16) + (cntN (ilB (ws (i + 1)) ch) 16))))]) hx dX3_mergeFewest_42 (by decide) rfl rfl ?_
      refine vv_iload hx dX3_mergeFewest_44 rfl ?_
      refine vv_iload hx dX3_mergeFewest_46 rfl ?_
      refine vv_icmp_geN (tgt := 58) hx dX3_mergeFewest_48 (by decide) (by omega) (by omega) (fun c_48 => ?_) (fun c_48 => ?_)
      · refine vv_iinc (u := (nI (i + 1))) (lv' := [(0, .ref o), (1, .ref rw), (2, .int (nI (4))), (3, .int (nI ((bst (fqN ch ws) i).1))), (4, .int (nI (min 17 (bst (fqN ch ws) i).2))), (5, .int (nI (i + 1))), (6, .int (nI ((cntN (ilB (ws (i)) ch) 16) + (cntN (ilB (ws (i + 1)) ch) 16))))]) hx dX3_mergeFewest_58 rfl (nI_1 _) (by decide) rfl rfl ?_
        refine vv_goto (tgt := 9) hx dX3_mergeFewest_61 (by decide) ?_
        have hlt : ¬ fqN ch ws i < (bst (fqN ch ws) i).2 := by rw [hfi] at hsi ⊢; omega
        rw [bst_s, if_neg hlt] at h9
        exact vv_sub [0, 1, 2, 3, 4, 5] rfl h9
      · refine vv_iload hx dX3_mergeFewest_51 rfl ?_
        refine vv_istore (lv' := [(0, .ref o), (1, .ref rw), (2, .int (nI (4))), (3, .int (nI ((bst (fqN ch ws) i).1))), (4, .int (nI ((cntN (ilB (ws (i)) ch) 16) + (cntN (ilB (ws (i + 1)) ch) 16)))), (5, .int (nI (i))), (6, .int (nI ((cntN (ilB (ws (i)) ch) 16) + (cntN (ilB (ws (i + 1)) ch) 16))))]) hx dX3_mergeFewest_53 (by decide) rfl rfl ?_
        refine vv_iload hx dX3_mergeFewest_55 rfl ?_
        refine vv_istore_n (lv' := [(0, .ref o), (1, .ref rw), (2, .int (nI (4))), (3, .int (nI (i))), (4, .int (nI ((cntN (ilB (ws (i)) ch) 16) + (cntN (ilB (ws (i + 1)) ch) 16)))), (5, .int (nI (i))), (6, .int (nI ((cntN (ilB (ws (i)) ch) 16) + (cntN (ilB (ws (i + 1)) ch) 16))))]) hx dX3_mergeFewest_57 (by decide) rfl rfl ?_
        refine vv_iinc (u := (nI (i + 1))) (lv' := [(0, .ref o), (1, .ref rw), (2, .int (nI (4))), (3, .int (nI (i))), (4, .int (nI ((cntN (ilB (ws (i)) ch) 16) + (cntN (ilB (ws (i + 1)) ch) 16)))), (5, .int (nI (i + 1))), (6, .int (nI ((cntN (ilB (ws (i)) ch) 16) + (cntN (ilB (ws (i + 1)) ch) 16))))]) hx dX3_mergeFewest_58 rfl (nI_1 _) (by decide) rfl rfl ?_
        refine vv_goto (tgt := 9) hx dX3_mergeFewest_61 (by decide) ?_
        have hlt : fqN ch ws i < (bst (fqN ch ws) i).2 := by rw [hfi]; omega
        have e1 : (bst (fqN ch ws) (i + 1)).1 = i := by rw [bst_s, if_pos hlt]
        have e2 : min 17 (bst (fqN ch ws) (i + 1)).2 = cntN (ilB (ws i) ch) 16 + cntN (ilB (ws (i + 1)) ch) 16 := by rw [bst_s, if_pos hlt]; show min 17 (fqN ch ws i) = _; rw [hfi] at hsi ⊢; omega
        rw [e1, e2] at h9
        exact vv_sub [0, 1, 2, 3, 4, 5] rfl h9
set_option maxRecDepth 100000 in
set_option maxHeartbeats 4000000 in
theorem l_X3_merge2 {T : mm_H} {o rw bb g : Nat} {gr : Nat → Nat} {x : vv_X} {post : Option Value → mm_H → Prop} (hx : vv_C x cX3_mergeFewest RX3 4 86 7) (he : vv_E x none post) (hrK : mm_K T rw = 7) (hrL : mm_L T rw = 4) (hgK : ∀ t, t < 4 → mm_K T (gr t) = 1) (hb2 : bb ≤ 2) (hp : ∀ U, vsO T U rw → (∀ t, t < 3 → mm_P U rw t = some (if t < bb then gr t else if t = bb then g else gr (t + 1))) → post none U) : ∀ d i U, i + d = 3 → bb + 1 ≤ i → vsO T U rw → (∀ t, t < 4 → mm_P U rw t = some (if t < i then (if t < bb then gr t else if t = bb then g else gr (t + 1)) else gr t)) → vv_V x 0 0 84 [(0, .ref o), (1, .ref rw), (2, .int (nI (4))), (3, .int (nI (bb))), (5, .int (nI (i)))] [] U := by
  intro d
  induction d with
  | zero =>
    intro i U hd hi hO hE
    have ei : i = 3 := by omega
    subst ei
    refine vv_iload hx dX3_mergeFewest_84 rfl ?_
    refine vv_iconst (v := nI 1) hx dX3_mergeFewest_86 (by decide) ?_
    refine vv_iaddN hx dX3_mergeFewest_87 ?_
    refine vv_iload_n hx dX3_mergeFewest_88 rfl ?_
    refine vv_icmp_geN (tgt := 108) hx dX3_mergeFewest_89 (by decide) (by omega) (by omega) (fun c_89 => ?_) (fun c_89 => ?_)
    · exact vv_vret hx he dX3_mergeFewest_108 (hp U hO (fun t ht => by rw [hE t (by omega), if_pos ht]))
    · exfalso; omega
  | succ d ih =>
    intro i U hd hi hO hE
    have hrKU : mm_K U rw = 7 := (hO.1 rw).trans hrK
    have hrLU : mm_L U rw = 4 := (hO.2.2.1 rw).trans hrL
    have hEi : ∀ j, j < 4 → j = i + 1 → mm_P U rw j = some (gr (i + 1)) := fun j hj e => by rw [hE j hj, if_neg (by omega), e]
    refine vv_iload hx dX3_mergeFewest_84 rfl ?_
    refine vv_iconst (v := nI 1) hx dX3_mergeFewest_86 (by decide) ?_
    refine vv_iaddN hx dX3_mergeFewest_87 ?_
    refine vv_iload_n hx dX3_mergeFewest_88 rfl ?_
    refine vv_icmp_geN (tgt := 108) hx dX3_mergeFewest_89 (by decide) (by omega) (by omega) (fun c_89 => ?_) (fun c_89 => ?_)
    · exfalso; omega
    · refine vv_aload_n hx dX3_mergeFewest_92 rfl ?_
      refine vv_iload hx dX3_mergeFewest_93 rfl ?_
      refine vv_aload_n hx dX3_mergeFewest_95 rfl ?_
      refine vv_iload hx dX3_mergeFewest_96 rfl ?_
      refine vv_iconst (v := nI 1) hx dX3_mergeFewest_98 (by decide) ?_
      refine vv_iaddN hx dX3_mergeFewest_99 ?_
      refine vv_aald (j := 1) hx dX3_mergeFewest_100 hrKU (by decide) (fun _ => rfl) rfl (by rw [hrLU]; omega) (by rw [hrLU]; decide) ?_
      rw [hEi (i + 1) (by omega) rfl]
      show vv_V x _ _ _ _ (.ref (gr (i + 1)) :: _) U
      refine vv_aast (j := 1) hx dX3_mergeFewest_101 hrKU (by decide) (fun _ => rfl) rfl (by rw [hrLU]; omega) (by rw [hrLU]; decide) kl_0 ((hO.1 _).trans (hgK (i + 1) (by omega))) ?_
      refine vv_iinc (u := (nI (i + 1))) (lv' := [(0, .ref o), (1, .ref rw), (2, .int (nI (4))), (3, .int (nI (bb))), (5, .int (nI (i + 1)))]) hx dX3_mergeFewest_102 rfl (nI_1 _) (by decide) rfl rfl ?_
      refine vv_goto (tgt := 84) hx dX3_mergeFewest_105 (by decide) ?_
      refine ih (i + 1) _ (by omega) (by omega) ⟨hO.1, hO.2.1, hO.2.2.1, fun y k hy => by rw [mm_P_sP, if_neg (fun e => hy e.1)]; exact hO.2.2.2 y k hy⟩ (fun t ht => ?_)
      rw [mm_P_sP]
      by_cases e : t = i
      · subst e; rw [if_pos ⟨rfl, rfl⟩, if_pos (Nat.lt_succ_self t), if_neg (by omega), if_neg (by omega)]
      · rw [if_neg (fun q => e q.2), hE t ht]
        by_cases e2 : t < i
        · rw [if_pos e2, if_pos (show t < i + 1 by omega)]
        · rw [if_neg e2, if_neg (show ¬ t < i + 1 by omega)]
set_option maxRecDepth 100000 in
set_option maxHeartbeats 4000000 in
theorem c_X3_mergeFewest {T0 : mm_H} {o nw n rw a b : Nat} {ch wd gr sn rn : Nat → Nat} {ws : Nat → Nat → Nat} (hoK0 : mm_K T0 o = 4) (hoP00 : mm_P T0 o 0 = some nw) (hst0 : stA T0 nw n ch wd) (hI6 : mm_I T0 o 6 = nI a) (hI7 : mm_I T0 o 7 = nI b) (hUQ : UQ T0) (hrK : mm_K T0 rw = 7) (hrL : mm_L T0 rw = 4) (hrE : ∀ t, t < 4 → mm_P T0 rw t = some (gr t)) (hsg : ∀ t, t < 4 → sgA T0 (gr t) (sn t) (rn t) (ws t)) (hsum : ∀ t, t < 3 → fqN ch ws t ≤ 16) : MV yX3_mergeFewest cX3_mergeFewest 7 4 86 2 20 [.ref o, .ref rw, .int (nI (4))] T0 (fun T' => ∃ g, gR T0 T' o rw (a + 1) (b + cntN (nz (lwW ch (ws (bst (fqN ch ws) 3).1) (ws ((bst (fqN ch ws) 3).1 + 1)))) 16) ∧ mm_K T' rw = 7 ∧ mm_L T' rw = 4 ∧ (∀ t, t < 3 → mm_P T' rw t = some (if t < (bst (fqN ch ws) 3).1 then gr t else if t = (bst (fqN ch ws) 3).1 then g else gr (t + 1))) ∧ sgN T0 T' g a 16 (lwW ch (ws (bst (fqN ch ws) 3).1) (ws ((bst (fqN ch ws) 3).1 + 1)))) := by
  refine MA.of (by decide) (Nat.le_of_ble_eq_true rfl) ?_
  intro x hx he hini
  have hx : vv_C x cX3_mergeFewest RX3 4 86 7 := hx
  show vv_V x 2 20 0 [(0, .ref o), (1, .ref rw), (2, .int (nI (4)))] [] T0
  refine vv_iconst (v := nI 0) hx dX3_mergeFewest_0 (by decide) ?_
  refine vv_istore_n (lv' := [(0, .ref o), (1, .ref rw), (2, .int (nI (4))), (3, .int (nI (0)))]) hx dX3_mergeFewest_1 (by decide) rfl rfl ?_
  refine vv_bipush (v := nI 17) hx dX3_mergeFewest_2 (by decide) ?_
  refine vv_istore (lv' := [(0, .ref o), (1, .ref rw), (2, .int (nI (4))), (3, .int (nI (0))), (4, .int (nI (17)))]) hx dX3_mergeFewest_4 (by decide) rfl rfl ?_
  refine vv_iconst (v := nI 0) hx dX3_mergeFewest_6 (by decide) ?_
  refine vv_istore (lv' := [(0, .ref o), (1, .ref rw), (2, .int (nI (4))), (3, .int (nI (0))), (4, .int (nI (17))), (5, .int (nI (0)))]) hx dX3_mergeFewest_7 (by decide) rfl rfl ?_
  refine l_X3_merge1 hoK0 hoP00 hst0 hI6 hI7 hUQ hrK hrL hrE hsg hsum hx ?_ 3 0 rfl
  have hb2 : (bst (fqN ch ws) 3).1 ≤ 2 := (bst_lt (fqN ch ws) 3).1
  generalize hbb : (bst (fqN ch ws) 3).1 = bb at hb2 he
  refine vv_aload_n hx dX3_mergeFewest_64 rfl ?_
  refine vv_iload_n hx dX3_mergeFewest_65 rfl ?_
  refine vv_aload_n hx dX3_mergeFewest_66 rfl ?_
  refine vv_aload_n hx dX3_mergeFewest_67 rfl ?_
  refine vv_iload_n hx dX3_mergeFewest_68 rfl ?_
  refine vv_aald (j := 1) hx dX3_mergeFewest_69 hrK (by decide) (fun _ => rfl) rfl (by rw [hrL]; omega) (by rw [hrL]; decide) ?_
  rw [hrE (bb) (by omega)]
  show vv_V x _ _ _ _ (.ref (gr (bb)) :: _) T0
  refine vv_aload_n hx dX3_mergeFewest_70 rfl ?_
  refine vv_iload_n hx dX3_mergeFewest_71 rfl ?_
  refine vv_iconst (v := nI 1) hx dX3_mergeFewest_72 (by decide) ?_
  refine vv_iaddN hx dX3_mergeFewest_73 ?_
  refine vv_aald (j := 1) hx dX3_mergeFewest_74 hrK (by decide) (fun _ => rfl) rfl (by rw [hrL]; omega) (by rw [hrL]; decide) ?_
  rw [hrE (bb + 1) (by omega)]
  show vv_V x _ _ _ _ (.ref (gr (bb + 1)) :: _) T0
  refine vv_callV (As := [.ref (gr (bb)), .ref (gr (bb + 1))]) hx dX3_mergeFewest_75 km_X3_191 kq_X3_segmentOfLiveRows ki_X3_segmentOfLiveRows ks_X3_segmentOfLiveRows kl_3 hoK0 (c_X3_segmentOfLiveRows hoK0 hoP00 hst0 (hsg bb (by omega)) (hsg (bb + 1) (by omega)) hI6 hI7 hUQ) rfl rfl (Nat.le_of_ble_eq_true rfl) (by decide) (by decide) rfl rfl (vv_cr fun z T hz => ?_)
  obtain ⟨g, rfl, hG, hN⟩ := hz
  show vv_V x 0 0 _ _ (.ref g :: _) T
  have nro : rw ≠ o := fun e => by rw [e] at hrK; omega
  obtain ⟨r1, r2, r3, r4⟩ := hG.1 rw (by omega) (fun e => by rcases e with e | e <;> exact nro e)
  have hrKT := r1.trans hrK
  have hrLT := r4.trans hrL
  refine vv_aast (j := 1) hx dX3_mergeFewest_78 hrKT (by decide) (fun _ => rfl) rfl (by rw [hrLT]; omega) (by rw [hrLT]; decide) kl_0 hN.2.1 ?_
  refine vv_iload_n hx dX3_mergeFewest_79 rfl ?_
  refine vv_iconst (v := nI 1) hx dX3_mergeFewest_80 (by decide) ?_
  refine vv_iaddN hx dX3_mergeFewest_81 ?_
  refine vv_istore (lv' := [(0, .ref o), (1, .ref rw), (2, .int (nI (4))), (3, .int (nI (bb))), (5, .int (nI (bb + 1)))]) hx dX3_mergeFewest_82 (by decide) rfl rfl ?_
  refine vv_sub [0, 1, 2, 3, 4] rfl (l_X3_merge2 (T := T) (g := g) (gr := gr) hx he hrKT hrLT (fun t ht => (hG.sg hoK0 (Or.inl rfl) (hsg t ht)).1.1) hb2 (fun U hO hE => ⟨rfl, g, hG.vs hO hrKT, (hO.1 rw).trans hrKT, (hO.2.2.1 rw).trans hrLT, hE, hN.vs hO (fun e => by have := hN.1; rw [e] at this; omega)⟩) (2 - bb) (bb + 1) _ (by omega) (Nat.le_refl _) ⟨fun _ => rfl, fun _ _ => rfl, fun _ => rfl, fun y k hy => by rw [mm_P_sP, if_neg (fun e => hy e.1)]⟩ (fun t ht => ?_))
  rw [mm_P_sP]
  by_cases e : t = bb
  · subst e; rw [if_pos ⟨rfl, rfl⟩, if_pos (Nat.lt_succ_self t), if_neg (Nat.lt_irrefl t), if_pos rfl]
  · rw [if_neg (fun q => e q.2), r3 t, hrE t ht]
    by_cases e2 : t < bb
    · rw [if_pos (show t < bb + 1 by omega), if_pos e2]
    · rw [if_neg (show ¬ t < bb + 1 by omega)]
set_option maxRecDepth 100000 in
set_option maxHeartbeats 4000000 in
theorem l_X3_firstOf {T : mm_H} {rw c : Nat} {gt : Nat → Nat} (hrK : mm_K T rw = 7) (hrL : c ≤ mm_L T rw) (hrL4 : mm_L T rw ≤ 4) (hrE : ∀ t, t < c → mm_P T rw t = some (gt t)) (hgK : ∀ t, t < c → mm_K T (gt t) = 1) {f : Nat} (hf : mm_K T f = 0) {x : vv_X} {ks : Nat} (hx : vv_C x cX3_firstOf RX3 0 0 4) (he : vv_E x (some (.array (.object "LiveViews$Segment"))) (fun zz S' => ∃ r0 : Option Nat, zz = some (va_rf r0) ∧ (fun z T' => ∃ f, z = some f ∧ mm_K T f = 0 ∧ Fr T T' (fun _ => False) ∧ mm_K T' f = 7 ∧ mm_L T' f = c ∧ (∀ t, t < c → mm_P T' f t = some (gt t)) ∧ (UQ T → UQ T')) r0 S')) : ∀ d i U, i + d = c → vsO (mm_sN T f 7 c) U f → (∀ t, t < i → mm_P U f t = some (gt t)) → vv_V x 0 ks 7 [(0, .ref rw), (1, .int (nI (c))), (2, .ref f), (3, .int (nI (i)))] [] U := by
  have rf : rw ≠ f := fun e => by rw [e] at hrK; omega
  intro d
  induction d with
  | zero =>
    intro i U hd hO hE
    have ei : i = c := by omega
    subst ei
    refine vv_iload_n hx dX3_firstOf_7 rfl ?_
    refine vv_iload_n hx dX3_firstOf_8 rfl ?_
    refine vv_icmp_geN (tgt := 24) hx dX3_firstOf_9 (by decide) (by omega) (by omega) (fun c_9 => ?_) (fun c_9 => ?_)
    · refine vv_aload_n hx dX3_firstOf_24 rfl ?_
      exact vv_aret (r := some f) hx he (Or.inr ⟨_, rfl⟩) dX3_firstOf_25 ⟨_, rfl, f, rfl, hf, ((Fr.sN T 7 i hf).trans hO.fr).mono (fun y hy e => by
        rcases e with e | e
        · exact e
        · exact hy (by rw [e]; exact hf)), by rw [hO.1, mm_K_sN, if_pos rfl], by rw [hO.2.2.1, mm_L_sN, if_pos rfl], hE, fun hU => (hU.sN hf 7 i).vs hO (by rw [mm_K_sN, if_pos rfl]; decide) (by rw [mm_K_sN, if_pos rfl]; decide)⟩
    · exfalso; omega
  | succ d ih =>
    intro i U hd hO hE
    have hrKU : mm_K U rw = 7 := by rw [hO.1, mm_K_sN, if_neg rf]; exact hrK
    have hrLU : mm_L U rw = mm_L T rw := by rw [hO.2.2.1, mm_L_sN, if_neg rf]
    have hfKU : mm_K U f = 7 := by rw [hO.1, mm_K_sN, if_pos rfl]
    have hfLU : mm_L U f = c := by rw [hO.2.2.1, mm_L_sN, if_pos rfl]
    have hEi : mm_P U rw i = some (gt i) := by rw [hO.2.2.2 rw i rf, mm_P_sN, if_neg rf]; exact hrE i (by omega)
    have hgi := hgK i (by omega)
    have hgiU : mm_K U (gt i) = 1 := by rw [hO.1, mm_K_sN, if_neg (fun e => by rw [e] at hgi; omega)]; exact hgi
    refine vv_iload_n hx dX3_firstOf_7 rfl ?_
    refine vv_iload_n hx dX3_firstOf_8 rfl ?_
    refine vv_icmp_geN (tgt := 24) hx dX3_firstOf_9 (by decide) (by omega) (by omega) (fun c_9 => ?_) (fun c_9 => ?_)
    · exfalso; omega
    · refine vv_aload_n hx dX3_firstOf_12 rfl ?_
      refine vv_iload_n hx dX3_firstOf_13 rfl ?_
      refine vv_aload_n hx dX3_firstOf_14 rfl ?_
      refine vv_iload_n hx dX3_firstOf_15 rfl ?_
      refine vv_aald (j := 1) hx dX3_firstOf_16 hrKU (by decide) (fun _ => rfl) rfl (by rw [hrLU]; omega) (by rw [hrLU]; omega) ?_
      rw [hEi]
      show vv_V x _ _ _ _ (.ref (gt i) :: _) U
      refine vv_aast (j := 1) hx dX3_firstOf_17 hfKU (by decide) (fun _ => rfl) rfl (by rw [hfLU]; omega) (by rw [hfLU]; omega) kl_0 hgiU ?_
      refine vv_iinc (u := (nI (i + 1))) (lv' := [(0, .ref rw), (1, .int (nI (c))), (2, .ref f), (3, .int (nI (i + 1)))]) hx dX3_firstOf_18 rfl (nI_1 _) (by decide) rfl rfl ?_
      refine vv_goto (tgt := 7) hx dX3_firstOf_21 (by decide) ?_
      refine ih (i + 1) _ (by omega) ⟨hO.1, hO.2.1, hO.2.2.1, fun y k hy => by rw [mm_P_sP, if_neg (fun e => hy e.1)]; exact hO.2.2.2 y k hy⟩ (fun t ht => ?_)
      rw [mm_P_sP]
      by_cases e : t = i
      · subst e; rw [if_pos ⟨rfl, rfl⟩]
      · rw [if_neg (fun q => e q.2)]; exact hE t (by omega)
set_option maxRecDepth 100000 in
set_option maxHeartbeats 4000000 in
theorem c_X3_firstOf {T : mm_H} {rw c : Nat} {gt : Nat → Nat} (hrK : mm_K T rw = 7) (hrL : c ≤ mm_L T rw) (hrL4 : mm_L T rw ≤ 4) (hrE : ∀ t, t < c → mm_P T rw t = some (gt t)) (hgK : ∀ t, t < c → mm_K T (gt t) = 1) : MR yX3_firstOf cX3_firstOf 4 (.array (.object "LiveViews$Segment")) 0 0 1 4 [.ref rw, .int (nI (c))] T (fun z T' => ∃ f, z = some f ∧ mm_K T f = 0 ∧ Fr T T' (fun _ => False) ∧ mm_K T' f = 7 ∧ mm_L T' f = c ∧ (∀ t, t < c → mm_P T' f t = some (gt t)) ∧ (UQ T → UQ T')) := by
  refine MA.of (by decide) (Nat.le_of_ble_eq_true rfl) ?_
  intro x hx he hini
  have hx : vv_C x cX3_firstOf RX3 0 0 4 := hx
  show vv_V x 1 4 0 [(0, .ref rw), (1, .int (nI (c)))] [] T
  refine vv_iload_n hx dX3_firstOf_0 rfl ?_
  refine vv_room (kc' := 0 + 1) (ks' := 0 + c) (by omega) (by omega) ?_
  refine vv_newq (j := 1) (z := c) hx dX3_firstOf_1 kc_X3_47 (by decide) (fun _ => rfl) (Or.inl rfl) rfl (by omega) rfl rfl (fun f hf => ?_)
  refine vv_astore_n (lv' := [(0, .ref rw), (1, .int (nI (c))), (2, .ref f)]) hx dX3_firstOf_4 (by decide) rfl rfl ?_
  refine vv_iconst (v := nI 0) hx dX3_firstOf_5 (by decide) ?_
  refine vv_istore_n (lv' := [(0, .ref rw), (1, .int (nI (c))), (2, .ref f), (3, .int (nI (0)))]) hx dX3_firstOf_6 (by decide) rfl rfl ?_
  exact l_X3_firstOf hrK hrL hrL4 hrE hgK hf hx he c 0 _ (by omega) (vsO.refl _ _) (fun t ht => by omega)
set_option maxRecDepth 100000 in
set_option maxHeartbeats 4000000 in
theorem c_X3_addView {T : mm_H} {o nw vs f vm n : Nat} {ch wd : Nat → Nat} (hoK : mm_K T o = 4) (hoP0 : mm_P T o 0 = some nw) (hst : stA T nw n ch wd) (hoP2 : mm_P T o 2 = some vs) (hvK : mm_K T vs = 8) (hvL : mm_L T vs = 150) (hoI3 : mm_I T o 3 = nI vm) (hvm : vm < 150) (hUQ : UQ T) : MV yX3_addView cX3_addView 3 2 61 4 39 [.ref o, .ref f] T (fun T' => ∃ st v, avP T T' o vs f vm st v n ch wd) := by
  refine MA.of (by decide) (Nat.le_of_ble_eq_true rfl) ?_
  intro x hx he hini
  have hx : vv_C x cX3_addView RX3 2 61 3 := hx
  show vv_V x 4 39 0 [(0, .ref o), (1, .ref f)] [] T
  refine vv_new (N := 3) hx dX3_addView_0 kc_X3_7 kl_1 kn_X1 kz_X1 rfl rfl (fun st hst_ => ?_)
  refine vv_dup hx dX3_addView_3 rfl ?_
  refine vv_callIN (As := []) hx dX3_addView_4 km_X3_9 kq_X1_init rfl ki_X1_init (c_X1_init (by rw [mm_K_sN, if_pos rfl])) rfl rfl (Nat.le_of_ble_eq_true rfl) (by decide) (by decide) rfl rfl (vv_cv fun T2 hT => ?_)
  obtain ⟨q1, q2, hq1, hq2, hT2⟩ := hT
  obtain ⟨u1, u2, u3, u4, u5, u6, u7, u8, u9, u10, u11, u12, u13, u14⟩ := nst hUQ hst_ hq1 hq2 hT2
  obtain ⟨o1, o2, o3, o4⟩ := u2 o (by omega) (fun e => e)
  have hnw2 := hst.fr u2 (fun e => e) (fun _ _ _ _ e => e)
  have hoK2 := o1.trans hoK
  have hoP02 := (o3 0).trans hoP0
  obtain ⟨hmK, hmI, mc, mw, hmP1, hmP2, hmKc, hmLc, hmKw, hmLw, hmC, hmW, hmn, hmch, hmwd⟩ := id hnw2
  refine vv_astore_n (lv' := [(0, .ref o), (1, .ref f), (2, .ref st)]) hx dX3_addView_7 (by decide) rfl rfl ?_
  refine vv_aload_n hx dX3_addView_8 rfl ?_
  refine vv_aload_n hx dX3_addView_9 rfl ?_
  refine vv_getr (b := nw) 0 hx dX3_addView_10 kf_X3_10 kl_3 (by decide) rfl hoK2 hoP02 ?_
  refine vv_callVN (As := [.ref nw]) hx dX3_addView_13 km_X3_107 kq_X1_copyFrom ki_X1_copyFrom ks_X1_copyFrom kl_1 u3 (c_X1_copyFrom u3 hmK hmI u5 u6 hmP1 hmP2 u7 u8 u9 u10 hmKc hmLc hmKw hmLw) rfl rfl (Nat.le_of_ble_eq_true rfl) (by decide) (by decide) rfl rfl (vv_cv fun T3 hT3 => ?_)
  have hF3 := nst.cp u1 hst_ u2 u3 u5 u6 u7 u8 u9 u10 u11 u12 hnw2 hst.1 hmP1 hmP2 rfl hT3
  obtain ⟨p1, p2, p3, p4⟩ := hF3.2.1 o (by omega) (fun e => e)
  obtain ⟨w1, w2, w3, w4⟩ := hF3.2.1 vs (by omega) (fun e => e)
  have hoK3 := p1.trans hoK
  have hoP23 := (p3 2).trans hoP2
  have hoI33 := (p2 3).trans hoI3
  have hvK3 := w1.trans hvK
  have hvL3 := w4.trans hvL
  have ovs : o ≠ vs := fun e => by rw [e] at hoK; omega
  refine vv_aload_n hx dX3_addView_16 rfl ?_
  refine vv_new (N := 4) hx dX3_addView_17 kc_X3_19 kl_2 kn_X2 kz_X2 rfl rfl (fun v hv => ?_)
  have vo : v ≠ o := fun e => by rw [e] at hv; omega
  have vvs : v ≠ vs := fun e => by rw [e] at hv; omega
  refine vv_dup hx dX3_addView_20 rfl ?_
  refine vv_aload_n hx dX3_addView_21 rfl ?_
  refine cc_geti (e0 := nI (vm)) 3 hx dX3_addView_22 kf_X3_25 kl_3 (by decide) rfl (by rw [mm_K_sN, if_neg (Ne.symm vo)]; exact hoK3) (by rw [mm_I_sN, if_neg (Ne.symm vo)]; exact hoI33) ?_
  refine vv_aload_n hx dX3_addView_25 rfl ?_
  refine vv_aload_n hx dX3_addView_26 rfl ?_
  refine vv_callIN (As := [.int (nI (vm)), .ref st, .ref f]) hx dX3_addView_27 km_X3_49 kq_X2_init rfl ki_X2_init (c_X2_init (v := nI vm) (by rw [mm_K_sN, if_pos rfl])) rfl rfl (Nat.le_of_ble_eq_true rfl) (by decide) (by decide) rfl rfl (vv_cdv ?_)
  have hoK5 : mm_K (mm_sN T3 v 3 0) o = 4 := by rw [mm_K_sN, if_neg (Ne.symm vo)]; exact hoK3
  have hvK5 : mm_K (mm_sN T3 v 3 0) vs = 8 := by rw [mm_K_sN, if_neg (Ne.symm vvs)]; exact hvK3
  have hvL5 : mm_L (mm_sN T3 v 3 0) vs = 150 := by rw [mm_L_sN, if_neg (Ne.symm vvs)]; exact hvL3
  refine vv_putr 4 hx dX3_addView_30 kf_X3_52 kl_3 (by decide) rfl rfl rfl rfl rfl hoK5 ?_
  refine vv_aload_n hx dX3_addView_33 rfl ?_
  refine vv_getr (b := vs) 2 hx dX3_addView_34 kf_X3_21 kl_3 (by decide) rfl hoK5 (by rw [mm_P_sP, if_neg (fun e => by omega), mm_P_sP, if_neg (fun e => vo e.1.symm), mm_P_sP, if_neg (fun e => vo e.1.symm), mm_P_sI, mm_P_sI, mm_P_sN, if_neg (Ne.symm vo)]; exact hoP23) ?_
  refine vv_aload_n hx dX3_addView_37 rfl ?_
  refine cc_geti (e0 := nI (vm)) 3 hx dX3_addView_38 kf_X3_25 kl_3 (by decide) rfl hoK5 (by rw [mm_I_sP, mm_I_sP, mm_I_sP, mm_I_a (Ne.symm vo), mm_I_a (Ne.symm vo), mm_I_sN, if_neg (Ne.symm vo)]; exact hoI33) ?_
  refine vv_aload_n hx dX3_addView_41 rfl ?_
  refine vv_getr (b := v) 4 hx dX3_addView_42 kf_X3_52 kl_3 (by decide) rfl hoK5 (by rw [mm_P_sP, if_pos ⟨rfl, rfl⟩]) ?_
  refine vv_aast (j := 2) hx dX3_addView_45 hvK5 (by decide) (fun _ => rfl) rfl (by show vm < mm_L (mm_sN T3 v 3 0) vs; rw [hvL5]; exact hvm) (by show mm_L (mm_sN T3 v 3 0) vs < 2 ^ 31; rw [hvL5]; decide) kl_2 (by show mm_K (mm_sN T3 v 3 0) v = 3; rw [mm_K_sN, if_pos rfl]) ?_
  refine vv_aload_n hx dX3_addView_46 rfl ?_
  refine vv_dup hx dX3_addView_47 rfl ?_
  refine cc_geti (e0 := nI (vm)) 3 hx dX3_addView_48 kf_X3_25 kl_3 (by decide) rfl hoK5 (by rw [mm_I_sP, mm_I_sP, mm_I_sP, mm_I_sP, mm_I_a (Ne.symm vo), mm_I_a (Ne.symm vo), mm_I_sN, if_neg (Ne.symm vo)]; exact hoI33) ?_
  refine vv_iconst (v := nI 1) hx dX3_addView_51 (by decide) ?_
  refine vv_iaddN hx dX3_addView_52 ?_
  refine vv_puti 3 hx dX3_addView_53 kf_X3_25 kl_3 (by decide) rfl rfl rfl hoK5 ?_
  exact vv_vret hx he dX3_addView_56 ⟨rfl, st, v, avP.mk hF3 hoK hvK hvL hv rfl⟩
