theorem firstN_at {f : Nat → Bool} {k : Nat} (hk : f k = true) : ∀ d a, (∀ b, a ≤ b → b < k → f b = false) → a ≤ k → k < a + d → firstN f a d = nI k
  | 0, a, _, h1, h2 => by omega
  | d + 1, a, hb, h1, h2 => by
    by_cases e : a = k
    · subst e; exact firstN_t hk
    · rw [firstN_f (hb a (Nat.le_refl _) (by omega))]
      exact firstN_at hk d (a + 1) (fun b q1 q2 => hb b (by omega) q2) (by omega) (by omega)
theorem row_key {w : Nat → Nat} {m k : Nat} (hk : k < 16) (hz : nz w k = true) (hc : cntN (nz w) k = m) : firstN (fun k => nz w k && decide (cntN (nz w) k = m)) 0 16 = nI k := by
  refine firstN_at (by simp [hz, hc]) 16 0 (fun b _ hb => ?_) (Nat.zero_le _) (by omega)
  cases hzb : nz w b with
  | false => rw [Bool.false_and]
  | true =>
    rw [Bool.true_and]
    exact decide_eq_false (fun e => by have := cnt_inj hzb hz (e.trans hc.symm); omega)
theorem inb_m1_iff {i : Int32} {m : Nat} (hm : m < 2 ^ 30) : inb i (nI 0) (nI m - nI 1) = true ↔ (¬ i < 0 ∧ i < nI m) := by
  constructor
  · intro h
    obtain ⟨j, hj, rfl⟩ := inb_m1 h hm
    exact ⟨nI_pos (by omega), nI_lt hj (by omega)⟩
  · rintro ⟨h1, h2⟩
    obtain ⟨j, hj, rfl⟩ := nI_of h1
    have h3 := (nI_ltI hj (by omega)).mp h2
    rw [pk_sub (by omega), inb_of hj (by omega) (by omega)]
    simp
    omega
theorem lvW_il (X : xx_X) (w : Nat → Nat) (n : Nat) : lvW (X.2.1 1) w n = cntN (ilB w (picC X n)) 16 := cntN_congr (fun k _ => by
  unfold ilB
  congr 1
  exact decide_eq_decide.mpr ⟨fun e => e.symm, fun e => e.symm⟩)
def koN (rows : Nat) (w : Nat → Nat) (a : Int32) : Int32 := if ¬ a < nI 10 ∧ a.toNatClampNeg - 10 < rows then firstN (fun k => nz w k && decide (cntN (nz w) k = a.toNatClampNeg - 10)) 0 16 else -3
theorem ko_sg {X : xx_X} {j s : Nat} {w : Nat → Nat} {a : Int32} (hsR : sgR X s w) (n0 : ¬ a = 0) (n1 : ¬ a = nI 1) (n2 : ¬ a = nI 2) : koN (cntN (nz w) 16) w a = sg_ans X j s a := by
  unfold sg_ans
  rw [if_neg n0, if_neg n1, if_neg n2, hsR.1]
  unfold koN
  by_cases e : ¬ a < nI 10 ∧ a.toNatClampNeg - 10 < cntN (nz w) 16
  · rw [if_pos e, if_pos e]
    obtain ⟨e1, e2⟩ := e
    obtain ⟨m, hm10, hmb, rfl⟩ := ge_nI e1 (by decide)
    rw [nI_clamp hmb] at e2 ⊢
    obtain ⟨k, hk16, hkz, hkc⟩ := cnt_surj e2
    obtain ⟨q1, q2⟩ := hsR.2 k hk16 (nz_t.mp hkz)
    rw [row_key hk16 hkz hkc, show 16 * s + m - 10 = 16 * s + cntN (nz w) k by omega, q1, q2]
  · rw [if_neg e, if_neg e]
set_option maxRecDepth 100000 in
set_option maxHeartbeats 4000000 in
theorem c_X3_keyOrOutside {S : mm_H} {g s rows : Nat} {w : Nat → Nat} (hsg : sgA S g s rows w) (a : Int32) : MI yX3_keyOrOutside cX3_keyOrOutside 2 1 23 0 0 [.ref g, .int (a)] S (fun z S' => z = koN rows w a ∧ S' = S) := by
  refine MA.of (by decide) (Nat.le_of_ble_eq_true rfl) ?_
  intro x hx he hini
  have hx : vv_C x cX3_keyOrOutside RX3 1 23 2 := hx
  show vv_V x 0 0 0 [(0, .ref g), (1, .int (a))] [] S
  obtain ⟨hgK, hgI0, hgI2, gc, hgP1, hgKc, hgLc, hgC, hgr, hgw⟩ := id hsg
  refine vv_iload_n hx dX3_keyOrOutside_0 rfl ?_
  refine vv_bipush (v := nI 10) hx dX3_keyOrOutside_1 (by decide) ?_
  refine vv_icmp_lt (tgt := 17) hx dX3_keyOrOutside_3 (by decide) (fun c_3 => ?_) (fun c_3 => ?_)
  · refine vv_bipush (v := -3) hx dX3_keyOrOutside_17 (by decide) ?_
    exact vv_iret hx he dX3_keyOrOutside_19 ⟨_, rfl, by unfold koN; rw [if_neg (fun q => q.1 c_3)], rfl⟩
  · obtain ⟨m, hm10, hmb, rfl⟩ := ge_nI c_3 (by decide)
    have hmc : (nI m).toNatClampNeg = m := nI_clamp hmb
    refine vv_iload_n hx dX3_keyOrOutside_6 rfl ?_
    refine vv_bipush (v := nI 10) hx dX3_keyOrOutside_7 (by decide) ?_
    refine vv_isubN hx dX3_keyOrOutside_9 (by omega) ?_
    refine vv_aload_n hx dX3_keyOrOutside_10 rfl ?_
    refine cc_getiN (e0 := nI (rows)) 2 hx dX3_keyOrOutside_11 kf_X3_136 kl_0 (by decide) rfl hgK hgI2 ?_
    refine vv_icmp_ltN (tgt := 20) hx dX3_keyOrOutside_14 (by decide) (by omega) (by omega) (fun c_14 => ?_) (fun c_14 => ?_)
    · refine vv_aload_n hx dX3_keyOrOutside_20 rfl ?_
      refine vv_iload_n hx dX3_keyOrOutside_21 rfl ?_
      refine vv_bipush (v := nI 10) hx dX3_keyOrOutside_22 (by decide) ?_
      refine vv_isubN hx dX3_keyOrOutside_24 (by omega) ?_
      refine vv_callVN (As := [.int (nI (m - 10))]) hx dX3_keyOrOutside_25 km_X3_154 kq_X0_keyOfRow ki_X0_keyOfRow ks_X0_keyOfRow kl_0 hgK (c_X0_keyOfRow hsg (m := m - 10) (by omega)) rfl rfl (Nat.le_of_ble_eq_true rfl) (by decide) (by decide) rfl rfl (vv_cd ?_)
      exact vv_iret hx he dX3_keyOrOutside_28 ⟨_, rfl, by unfold koN; rw [hmc, if_pos ⟨c_3, c_14⟩], rfl⟩
    · refine vv_bipush (v := -3) hx dX3_keyOrOutside_17 (by decide) ?_
      exact vv_iret hx he dX3_keyOrOutside_19 ⟨_, rfl, by unfold koN; rw [hmc, if_neg (fun q => c_14 q.2)], rfl⟩
set_option maxRecDepth 100000 in
set_option maxHeartbeats 4000000 in
theorem c_X3_segment {S : mm_H} {X : xx_X} {W : Nat → Nat → Nat} {o nw sf vs cn : Nat} {va ga : Nat → Nat} (hL : Rel S X W o nw sf vs cn va ga) (v i a : Int32) : MI yX3_segment cX3_segment 6 2 45 0 0 [.ref o, .int (v), .int (i), .int (a)] S (fun z S' => z = sp_segment X v i a ∧ S' = S) := by
  refine MA.of (by decide) (Nat.le_of_ble_eq_true rfl) ?_
  intro x hx he hini
  have hx : vv_C x cX3_segment RX3 2 45 6 := hx
  show vv_V x 0 0 0 [(0, .ref o), (1, .int (v)), (2, .int (i)), (3, .int (a))] [] S
  obtain ⟨⟨hoK, hoP0, hoP1, hoP2, hoI3, hoP4, hoP5, hoI6, hoI7, hoI8, hoI9, hoI10, hoI11⟩, hns, hnw, hsf, hvK, hvL, hvs, hview, hsegs, hUQ, hXI⟩ := id hL
  obtain ⟨hk, hbd, hw0, hc9, hm3, hcs, hheld⟩ := id hXI
  obtain ⟨k0, k1, k2, k3, k4, k5, k6, k7, k8, k9, k10, k11, k12, k13⟩ := id hk
  refine vv_aload_n hx dX3_segment_0 rfl ?_
  refine vv_iload_n hx dX3_segment_1 rfl ?_
  refine vv_callV (As := [.int (v)]) hx dX3_segment_2 km_X3_67 kq_X3_heldView ki_X3_heldView ks_X3_heldView kl_3 hoK (c_X3_heldView hL _) rfl rfl (Nat.le_of_ble_eq_true rfl) (by decide) (by decide) rfl rfl (vv_cdr ?_)
  cases hB : heldB X v with
  | false =>
    show vv_V x 0 0 _ _ (.null :: _) S
    refine vv_astoreN (lv' := [(0, .ref o), (1, .int (v)), (2, .int (i)), (3, .int (a)), (4, .null)]) hx dX3_segment_5 (by decide) rfl rfl ?_
    refine vv_aloadN hx dX3_segment_7 rfl ?_
    refine vv_ifnonnullN hx dX3_segment_9 ?_
    refine vv_bipush (v := -2) hx dX3_segment_12 (by decide) ?_
    exact vv_iret hx he dX3_segment_14 ⟨_, rfl, by simp [sp_segment, hB], rfl⟩
  | true =>
    obtain ⟨j, hj, rfl, hh⟩ := heldB_true hB k1 k2
    have hjc : (nI j).toNatClampNeg = j := nI_clamp (by omega)
    obtain ⟨hvVK, hvV0, hvV3, ust, upr, hvP1, hvP2, hvn, hvf, hust, hprK, hprL, hprE⟩ := hview j hj hh
    obtain ⟨huK, huI, uc, uw, huP1, huP2, huKc, huLc, huKw, huLw, huC, huW, hun, huch, huwd⟩ := id hust
    show vv_V x 0 0 _ _ (.ref (va (nI j).toNatClampNeg) :: _) S
    rw [hjc]
    refine vv_astore (lv' := [(0, .ref o), (1, .int (nI (j))), (2, .int (i)), (3, .int (a)), (4, .ref (va j))]) hx dX3_segment_5 (by decide) rfl rfl ?_
    refine vv_aload hx dX3_segment_7 rfl ?_
    refine vv_ifnonnull (tgt := 15) hx dX3_segment_9 (by decide) ?_
    refine vv_iload_n hx dX3_segment_15 rfl ?_
    refine vv_if_lt (tgt := 29) hx dX3_segment_16 (by decide) (fun c_16 => ?_) (fun c_16 => ?_)
    · refine vv_bipush (v := -3) hx dX3_segment_29 (by decide) ?_
      exact vv_iret hx he dX3_segment_31 ⟨_, rfl, by rw [sp_segment, if_pos hB, hjc, if_neg (fun q => ((inb_m1_iff (by have := k12 j; omega)).mp q).1 c_16)], rfl⟩
    · refine vv_iload_n hx dX3_segment_19 rfl ?_
      refine vv_aload hx dX3_segment_20 rfl ?_
      refine vv_getrN (b := upr) 2 hx dX3_segment_22 kf_X3_131 kl_2 (by decide) rfl hvVK hvP2 ?_
      refine vv_alen (j := 1) hx dX3_segment_25 hprK (by decide) (fun _ => rfl) ?_
      rw [hprL]
      refine vv_icmp_lt (tgt := 32) hx dX3_segment_26 (by decide) (fun c_26 => ?_) (fun c_26 => ?_)
      · obtain ⟨ii, hi31, rfl⟩ := nI_of c_16
        have hm9 := k12 j
        have hii : ii < X.2.1 12 j := (nI_ltI hi31 (by omega)).mp c_26
        have hiic : (nI ii).toNatClampNeg = ii := nI_clamp hi31
        have hin : inb (nI ii) (nI 0) (nI (X.2.1 12 j) - nI 1) = true := (inb_m1_iff (by omega)).mpr ⟨c_16, c_26⟩
        obtain ⟨hsg, -⟩ := hsegs j hj hh ii hii
        obtain ⟨-, hsR, -⟩ := ((hheld j hj hh).2.1 ii hii)
        obtain ⟨hgK, hgI0, hgI2, gc, hgP1, hgKc, hgLc, hgC, hgr, hgw⟩ := id hsg
        have hans : sp_segment X (nI j) (nI ii) a = sg_ans X j (X.2.1 13 (4 * j + ii)) a := by simp only [sp_segment, hB, if_true, hjc, hin, hiic]
        refine vv_aload hx dX3_segment_32 rfl ?_
        refine vv_getrN (b := upr) 2 hx dX3_segment_34 kf_X3_131 kl_2 (by decide) rfl hvVK hvP2 ?_
        refine vv_iload_n hx dX3_segment_37 rfl ?_
        refine vv_aald (j := 1) hx dX3_segment_38 hprK (by decide) (fun _ => rfl) rfl (by rw [hprL]; exact hii) (by rw [hprL]; omega) ?_
        rw [hprE ii hii]
        show vv_V x 0 0 _ _ (.ref (ga (X.2.1 13 (4 * j + ii))) :: _) S
        refine vv_astore (lv' := [(0, .ref o), (1, .int (nI (j))), (2, .int (nI (ii))), (3, .int (a)), (4, .ref (va j)), (5, .ref (ga (X.2.1 13 (4 * j + ii))))]) hx dX3_segment_39 (by decide) rfl rfl ?_
        refine vv_iload_n hx dX3_segment_41 rfl ?_
        rcases sw_cases (n := 3) (a) (by decide) with c_42 | ⟨j, hj, c_42⟩
        · refine vv_tabOut (tgt := 91) hx dX3_segment_42 (by first | exact c_42 | (have h9 := c_42; omega)) (by decide) ?_
          refine vv_aload hx dX3_segment_91 rfl ?_
          refine vv_iload_n hx dX3_segment_93 rfl ?_
          refine vv_callS (As := [.ref (ga (X.2.1 13 (4 * j + ii))), .int (a)]) hx dX3_segment_94 km_X3_143 kq_X3_keyOrOutside kt_X3_keyOrOutside (c_X3_keyOrOutside hsg a) rfl rfl (Nat.le_of_ble_eq_true rfl) (by decide) (by decide) rfl rfl (vv_cd ?_)
          exact vv_iret hx he dX3_segment_97 ⟨_, rfl, by rw [hans]; exact ko_sg hsR (fun e => by rw [e] at c_42; exact absurd c_42 (by decide)) (fun e => by rw [e] at c_42; exact absurd c_42 (by decide)) (fun e => by rw [e] at c_42; exact absurd c_42 (by decide)), rfl⟩
        · rcases (show j = 0 ∨ j = 1 ∨ j = 2 by omega) with rfl | rfl | rfl
          · refine vv_tabIn (off := 26) (tgt := 68) hx dX3_segment_42 (by rw [c_42]; decide) (by rw [c_42]; decide) (by rw [c_42]; decide) (by decide) ?_
            refine vv_aload hx dX3_segment_68 rfl ?_
            refine cc_getiN (e0 := nI (X.2.1 13 (4 * j + ii))) 0 hx dX3_segment_70 kf_X3_135 kl_0 (by decide) rfl hgK hgI0 ?_
            exact vv_iret hx he dX3_segment_73 ⟨_, rfl, by rw [hans]; unfold sg_ans; rw [toInt_nI c_42 (by decide)]; rfl, rfl⟩
          · refine vv_tabIn (off := 32) (tgt := 74) hx dX3_segment_42 (by rw [c_42]; decide) (by rw [c_42]; decide) (by rw [c_42]; decide) (by decide) ?_
            refine vv_aload hx dX3_segment_74 rfl ?_
            refine cc_getiN (e0 := nI (cntN (nz (W (X.2.1 13 (4 * j + ii)))) 16)) 2 hx dX3_segment_76 kf_X3_136 kl_0 (by decide) rfl hgK hgI2 ?_
            exact vv_iret hx he dX3_segment_79 ⟨_, rfl, by rw [hans]; unfold sg_ans; rw [toInt_nI c_42 (by decide), if_neg (by decide), if_pos rfl, hsR.1], rfl⟩
          · refine vv_tabIn (off := 38) (tgt := 80) hx dX3_segment_42 (by rw [c_42]; decide) (by rw [c_42]; decide) (by rw [c_42]; decide) (by decide) ?_
            refine vv_aload hx dX3_segment_80 rfl ?_
            refine vv_aload hx dX3_segment_82 rfl ?_
            refine vv_getrN (b := ust) 1 hx dX3_segment_84 kf_X3_74 kl_2 (by decide) rfl hvVK hvP1 ?_
            refine vv_callVN (As := [.ref ust]) hx dX3_segment_87 km_X3_139 kq_X0_countLive ki_X0_countLive ks_X0_countLive kl_0 hgK (c_X0_countLive hsg hust) rfl rfl (Nat.le_of_ble_eq_true rfl) (by decide) (by decide) rfl rfl (vv_cd ?_)
            exact vv_iret hx he dX3_segment_90 ⟨_, rfl, by rw [hans]; unfold sg_ans; rw [toInt_nI c_42 (by decide), if_neg (by decide), if_neg (by decide), if_pos rfl, lvW_of hsR, lvW_il], rfl⟩
      · refine vv_bipush (v := -3) hx dX3_segment_29 (by decide) ?_
        exact vv_iret hx he dX3_segment_31 ⟨_, rfl, by rw [sp_segment, if_pos hB, hjc, if_neg (fun q => c_26 ((inb_m1_iff (by have := k12 j; omega)).mp q).2)], rfl⟩
set_option maxRecDepth 100000 in
set_option maxHeartbeats 4000000 in
theorem l_X3_countHeld {S : mm_H} {X : xx_X} {x : vv_X} {o vs : Nat} {va : Nat → Nat} (hx : vv_C x cX3_countHeld RX3 0 0 3) (he : vv_E x (some .int) (fun zz S' => ∃ r0 : Int32, zz = some (.int r0) ∧ (fun z S' => z = nI (cntN (heldN X) (X.1 10)) ∧ S' = S) r0 S')) (hoK : mm_K S o = 4) (hoP2 : mm_P S o 2 = some vs) (hoI3 : mm_I S o 3 = nI (X.1 10)) (hvK : mm_K S vs = 8) (hvL : mm_L S vs = 150) (k2 : X.1 10 ≤ 150) (hvs : ∀ v, v < 150 → mm_P S vs v = bif decide (v < X.1 10) && heldN X v then some (va v) else none) : ∀ d k, k + d = X.1 10 → vv_V x 0 0 4 [(0, .ref o), (1, .int (nI (cntN (heldN X) k))), (2, .int (nI (k)))] [] S := by
  intro d
  induction d with
  | zero =>
    intro k hd
    have hcn := cntN_le (heldN X) k
    refine vv_iload_n hx dX3_countHeld_4 rfl ?_
    refine vv_aload_n hx dX3_countHeld_5 rfl ?_
    refine cc_geti (e0 := nI (X.1 10)) 3 hx dX3_countHeld_6 kf_X3_25 kl_3 (by decide) rfl hoK hoI3 ?_
    refine vv_icmp_geN (tgt := 30) hx dX3_countHeld_9 (by decide) (by omega) (by omega) (fun c_9 => ?_) (fun c_9 => ?_)
    · refine vv_iload_n hx dX3_countHeld_30 rfl ?_
      exact vv_iret hx he dX3_countHeld_31 ⟨_, rfl, by rw [show X.1 10 = k by omega], rfl⟩
    · exfalso; omega
  | succ d ih =>
    intro k hd
    have hcn := cntN_le (heldN X) k
    have h9 := ih (k + 1) (by omega)
    have hvk := hvs k (by omega)
    rw [decide_eq_true (show k < X.1 10 by omega), Bool.true_and] at hvk
    refine vv_iload_n hx dX3_countHeld_4 rfl ?_
    refine vv_aload_n hx dX3_countHeld_5 rfl ?_
    refine cc_geti (e0 := nI (X.1 10)) 3 hx dX3_countHeld_6 kf_X3_25 kl_3 (by decide) rfl hoK hoI3 ?_
    refine vv_icmp_geN (tgt := 30) hx dX3_countHeld_9 (by decide) (by omega) (by omega) (fun c_9 => ?_) (fun c_9 => ?_)
    · exfalso; omega
    · refine vv_aload_n hx dX3_countHeld_12 rfl ?_
      refine vv_getr (b := vs) 2 hx dX3_countHeld_13 kf_X3_21 kl_3 (by decide) rfl hoK hoP2 ?_
      refine vv_iload_n hx dX3_countHeld_16 rfl ?_
      refine vv_aald (j := 2) hx dX3_countHeld_17 hvK (by decide) (fun _ => rfl) rfl (by rw [hvL]; omega) (by rw [hvL]; decide) ?_
      rw [hvk]
      cases hh : heldN X k with
      | false =>
        show vv_V x 0 0 _ _ (.null :: _) S
        refine vv_ifnullN (tgt := 24) hx dX3_countHeld_18 (by decide) ?_
        refine vv_iinc (u := (nI (k + 1))) (lv' := [(0, .ref o), (1, .int (nI (cntN (heldN X) k))), (2, .int (nI (k + 1)))]) hx dX3_countHeld_24 rfl (nI_1 _) (by decide) rfl rfl ?_
        refine vv_goto (tgt := 4) hx dX3_countHeld_27 (by decide) ?_
        rw [cntN_f0 hh] at h9
        exact h9
      | true =>
        show vv_V x 0 0 _ _ (.ref (va k) :: _) S
        refine vv_ifnull hx dX3_countHeld_18 ?_
        refine vv_iinc (u := (nI (cntN (heldN X) k + 1))) (lv' := [(0, .ref o), (1, .int (nI (cntN (heldN X) k + 1))), (2, .int (nI (k)))]) hx dX3_countHeld_21 rfl (nI_1 _) (by decide) rfl rfl ?_
        refine vv_iinc (u := (nI (k + 1))) (lv' := [(0, .ref o), (1, .int (nI (cntN (heldN X) k + 1))), (2, .int (nI (k + 1)))]) hx dX3_countHeld_24 rfl (nI_1 _) (by decide) rfl rfl ?_
        refine vv_goto (tgt := 4) hx dX3_countHeld_27 (by decide) ?_
        rw [cntN_t hh] at h9
        exact h9
set_option maxRecDepth 100000 in
set_option maxHeartbeats 4000000 in
theorem c_X3_countHeld {S : mm_H} {X : xx_X} {W : Nat → Nat → Nat} {o nw sf vs cn : Nat} {va ga : Nat → Nat} (hL : Rel S X W o nw sf vs cn va ga) : MI yX3_countHeld cX3_countHeld 3 0 0 0 0 [.ref o] S (fun z S' => z = nI (cntN (heldN X) (X.1 10)) ∧ S' = S) := by
  refine MA.of (by decide) (Nat.le_of_ble_eq_true rfl) ?_
  intro x hx he hini
  have hx : vv_C x cX3_countHeld RX3 0 0 3 := hx
  show vv_V x 0 0 0 [(0, .ref o)] [] S
  obtain ⟨⟨hoK, hoP0, hoP1, hoP2, hoI3, hoP4, hoP5, hoI6, hoI7, hoI8, hoI9, hoI10, hoI11⟩, hns, hnw, hsf, hvK, hvL, hvs, hview, hsegs, hUQ, hXI⟩ := id hL
  obtain ⟨hk, hbd, hw0, hc9, hm3, hcs, hheld⟩ := id hXI
  obtain ⟨k0, k1, k2, k3, k4, k5, k6, k7, k8, k9, k10, k11, k12, k13⟩ := id hk
  refine vv_iconst (v := nI 0) hx dX3_countHeld_0 (by decide) ?_
  refine vv_istore_n (lv' := [(0, .ref o), (1, .int (nI (0)))]) hx dX3_countHeld_1 (by decide) rfl rfl ?_
  refine vv_iconst (v := nI 0) hx dX3_countHeld_2 (by decide) ?_
  refine vv_istore_n (lv' := [(0, .ref o), (1, .int (nI (0))), (2, .int (nI (0)))]) hx dX3_countHeld_3 (by decide) rfl rfl ?_
  exact l_X3_countHeld hx he hoK hoP2 hoI3 hvK hvL k2 hvs (X.1 10) 0 (by omega)
