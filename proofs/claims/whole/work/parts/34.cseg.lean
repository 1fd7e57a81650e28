set_option maxRecDepth 100000 in
set_option maxHeartbeats 4000000 in
theorem c_X3_hasRoomToRefresh {S : mm_H} {o v st u n m vm : Nat} (hoK : mm_K S o = 4) (hoI3 : mm_I S o 3 = nI vm) (hvm : vm ≤ 150) (hvK : mm_K S v = 3) (hvP1 : mm_P S v 1 = some st) (hstK : mm_K S st = 2) (hstI : mm_I S st 0 = nI m) (hm : m ≤ 600) (huK : mm_K S u = 2) (huI : mm_I S u 0 = nI n) (hn : n ≤ 600) : MZ yX3_hasRoomToRefresh cX3_hasRoomToRefresh 3 0 0 0 0 [.ref o, .ref v, .ref u] S (fun z S' => z = bI (decide (m = n) || decide (vm < 150)) ∧ S' = S) := by
  refine MA.of (by decide) (Nat.le_of_ble_eq_true rfl) ?_
  intro x hx he hini
  have hx : vv_C x cX3_hasRoomToRefresh RX3 0 0 3 := hx
  show vv_V x 0 0 0 [(0, .ref o), (1, .ref v), (2, .ref u)] [] S
  refine vv_aload_n hx dX3_hasRoomToRefresh_0 rfl ?_
  refine vv_getrN (b := st) 1 hx dX3_hasRoomToRefresh_1 kf_X3_74 kl_2 (by decide) rfl hvK hvP1 ?_
  refine cc_getiN (e0 := nI (m)) 0 hx dX3_hasRoomToRefresh_4 kf_X3_84 kl_1 (by decide) rfl hstK hstI ?_
  refine vv_aload_n hx dX3_hasRoomToRefresh_7 rfl ?_
  refine cc_getiN (e0 := nI (n)) 0 hx dX3_hasRoomToRefresh_8 kf_X3_84 kl_1 (by decide) rfl huK huI ?_
  refine vv_icmp_eqN (tgt := 24) hx dX3_hasRoomToRefresh_11 (by decide) (by omega) (by omega) (fun c_11 => ?_) (fun c_11 => ?_)
  · refine vv_iconst (v := nI 1) hx dX3_hasRoomToRefresh_24 (by decide) ?_
    refine vv_goto (tgt := 29) hx dX3_hasRoomToRefresh_25 (by decide) ?_
    exact vv_zret hx he dX3_hasRoomToRefresh_29 (by first | exact bI_01 _ | exact Or.inl rfl | exact Or.inr rfl) ⟨_, rfl, bI_t (by simp only [Bool.or_eq_true, Bool.or_eq_false_iff, decide_eq_true_eq, decide_eq_false_iff_not]; omega), rfl⟩
  · refine vv_aload_n hx dX3_hasRoomToRefresh_14 rfl ?_
    refine cc_geti (e0 := nI (vm)) 3 hx dX3_hasRoomToRefresh_15 kf_X3_25 kl_3 (by decide) rfl hoK hoI3 ?_
    refine vv_sipush (v := nI 150) hx dX3_hasRoomToRefresh_18 (by decide) ?_
    refine vv_icmp_geN (tgt := 28) hx dX3_hasRoomToRefresh_21 (by decide) (by omega) (by omega) (fun c_21 => ?_) (fun c_21 => ?_)
    · refine vv_iconst (v := nI 0) hx dX3_hasRoomToRefresh_28 (by decide) ?_
      exact vv_zret hx he dX3_hasRoomToRefresh_29 (by first | exact bI_01 _ | exact Or.inl rfl | exact Or.inr rfl) ⟨_, rfl, bI_f (by simp only [Bool.or_eq_true, Bool.or_eq_false_iff, decide_eq_true_eq, decide_eq_false_iff_not]; omega), rfl⟩
    · refine vv_iconst (v := nI 1) hx dX3_hasRoomToRefresh_24 (by decide) ?_
      refine vv_goto (tgt := 29) hx dX3_hasRoomToRefresh_25 (by decide) ?_
      exact vv_zret hx he dX3_hasRoomToRefresh_29 (by first | exact bI_01 _ | exact Or.inl rfl | exact Or.inr rfl) ⟨_, rfl, bI_t (by simp only [Bool.or_eq_true, Bool.or_eq_false_iff, decide_eq_true_eq, decide_eq_false_iff_not]; omega), rfl⟩
theorem waN_le {S : mm_H} {a n : Nat} {ch wd : Nat → Nat} (h : stA S a n ch wd) (k : Nat) : waN ch wd k ≤ 600 := by
  obtain ⟨-, -, c, w, -, -, -, -, -, -, -, -, -, h2, -⟩ := h
  unfold waN
  split
  · exact h2 k
  · omega
theorem waN_ch {ch wd : Nat → Nat} {k : Nat} (h : 0 < waN ch wd k) : waN ch wd k = ch k := by
  unfold waN at h ⊢
  split
  · rfl
  · rename_i h9
    rw [if_neg h9] at h
    omega
def nwW (m : Nat) (ch wd : Nat → Nat) (k : Nat) : Nat := if m < waN ch wd k then waN ch wd k else 0
def lwW (ch w1 w2 : Nat → Nat) (k : Nat) : Nat := bif ilB w1 ch k || ilB w2 ch k then ch k else 0
set_option maxRecDepth 100000 in
set_option maxHeartbeats 4000000 in
theorem c_X3_isNewRow {T : mm_H} {o nw v st n m : Nat} {ch wd : Nat → Nat} (hl : lf T o nw v st n m ch wd) {k : Nat} (hk : k < 16) : MZ yX3_isNewRow cX3_isNewRow 2 2 42 0 0 [.ref o, .int (nI (k))] T (fun z T' => z = bI (decide (m < waN ch wd k)) ∧ T' = T) := by
  refine MA.of (by decide) (Nat.le_of_ble_eq_true rfl) ?_
  intro x hx he hini
  have hx : vv_C x cX3_isNewRow RX3 2 42 2 := hx
  show vv_V x 0 0 0 [(0, .ref o), (1, .int (nI (k)))] [] T
  obtain ⟨hoK, hoP0, hst, hoP4, hvK, hvP1, hstK, hstI, hm⟩ := id hl
  have hwb := waN_le hst k
  refine vv_aload_n hx dX3_isNewRow_0 rfl ?_
  refine vv_getr (b := nw) 0 hx dX3_isNewRow_1 kf_X3_10 kl_3 (by decide) rfl hoK hoP0 ?_
  refine vv_iload_n hx dX3_isNewRow_4 rfl ?_
  refine vv_callVN (As := [.int (nI (k))]) hx dX3_isNewRow_5 km_X3_158 kq_X1_writtenAs ki_X1_writtenAs ks_X1_writtenAs kl_1 hst.1 (c_X1_writtenAs hst hk) rfl rfl (Nat.le_of_ble_eq_true rfl) (by decide) (by decide) rfl rfl (vv_cd ?_)
  refine vv_aload_n hx dX3_isNewRow_8 rfl ?_
  refine vv_getr (b := v) 4 hx dX3_isNewRow_9 kf_X3_52 kl_3 (by decide) rfl hoK hoP4 ?_
  refine vv_getrN (b := st) 1 hx dX3_isNewRow_12 kf_X3_74 kl_2 (by decide) rfl hvK hvP1 ?_
  refine cc_getiN (e0 := nI (m)) 0 hx dX3_isNewRow_15 kf_X3_84 kl_1 (by decide) rfl hstK hstI ?_
  refine vv_icmp_leN (tgt := 25) hx dX3_isNewRow_18 (by decide) (by omega) (by omega) (fun c_18 => ?_) (fun c_18 => ?_)
  · refine vv_iconst (v := nI 0) hx dX3_isNewRow_25 (by decide) ?_
    exact vv_zret hx he dX3_isNewRow_26 (by first | exact bI_01 _ | exact Or.inl rfl | exact Or.inr rfl) ⟨_, rfl, bI_f (by first | exact decide_eq_true (by omega) | exact decide_eq_false (by omega)), rfl⟩
  · refine vv_iconst (v := nI 1) hx dX3_isNewRow_21 (by decide) ?_
    refine vv_goto (tgt := 26) hx dX3_isNewRow_22 (by decide) ?_
    exact vv_zret hx he dX3_isNewRow_26 (by first | exact bI_01 _ | exact Or.inl rfl | exact Or.inr rfl) ⟨_, rfl, bI_t (by first | exact decide_eq_true (by omega) | exact decide_eq_false (by omega)), rfl⟩
set_option maxRecDepth 100000 in
set_option maxHeartbeats 4000000 in
theorem l_X3_hasNewRow {T : mm_H} {o nw v st n m : Nat} {ch wd : Nat → Nat} (hl : lf T o nw v st n m ch wd) {x : vv_X} (hx : vv_C x cX3_hasNewRow RX3 3 63 2) (he : vv_E x (some .boolean) (fun zz S' => ∃ r0 : Int32, zz = some (.int r0) ∧ (fun z T' => z = bI (anyN (fun k => decide (m < waN ch wd k)) 16) ∧ T' = T) r0 S')) : ∀ d k, k + d = 16 → anyN (fun k => decide (m < waN ch wd k)) k = false → vv_V x 0 0 2 [(0, .ref o), (1, .int (nI (k)))] [] T := by
  have hoK := hl.1
  intro d
  induction d with
  | zero =>
    intro k hd ha
    refine vv_iload_n hx dX3_hasNewRow_2 rfl ?_
    refine vv_bipush (v := nI 16) hx dX3_hasNewRow_3 (by decide) ?_
    refine vv_icmp_geN (tgt := 24) hx dX3_hasNewRow_5 (by decide) (by omega) (by omega) (fun c_5 => ?_) (fun c_5 => ?_)
    · refine vv_iconst (v := nI 0) hx dX3_hasNewRow_24 (by decide) ?_
      exact vv_zret hx he dX3_hasNewRow_25 (by first | exact bI_01 _ | exact Or.inl rfl | exact Or.inr rfl) ⟨_, rfl, bI_f (by rw [show 16 = k by omega]; exact ha), rfl⟩
    · exfalso; omega
  | succ d ih =>
    intro k hd ha
    refine vv_iload_n hx dX3_hasNewRow_2 rfl ?_
    refine vv_bipush (v := nI 16) hx dX3_hasNewRow_3 (by decide) ?_
    refine vv_icmp_geN (tgt := 24) hx dX3_hasNewRow_5 (by decide) (by omega) (by omega) (fun c_5 => ?_) (fun c_5 => ?_)
    · exfalso; omega
    · refine vv_aload_n hx dX3_hasNewRow_8 rfl ?_
      refine vv_iload_n hx dX3_hasNewRow_9 rfl ?_
      refine vv_callV (As := [.int (nI (k))]) hx dX3_hasNewRow_10 km_X3_181 kq_X3_isNewRow ki_X3_isNewRow ks_X3_isNewRow kl_3 hoK (c_X3_isNewRow hl (by omega)) rfl rfl (Nat.le_of_ble_eq_true rfl) (by decide) (by decide) rfl rfl (vv_cd ?_)
      refine vv_if_eqB (tgt := 18) hx dX3_hasNewRow_13 (by decide) (fun c_13 => ?_) (fun c_13 => ?_)
      · refine vv_iinc (u := (nI (k + 1))) (lv' := [(0, .ref o), (1, .int (nI (k + 1)))]) hx dX3_hasNewRow_18 rfl (nI_1 _) (by decide) rfl rfl ?_
        refine vv_goto (tgt := 2) hx dX3_hasNewRow_21 (by decide) ?_
        exact ih (k + 1) (by omega) (by unfold anyN; rw [ha]; exact c_13)
      · refine vv_iconst (v := nI 1) hx dX3_hasNewRow_16 (by decide) ?_
        exact vv_zret hx he dX3_hasNewRow_17 (by first | exact bI_01 _ | exact Or.inl rfl | exact Or.inr rfl) ⟨_, rfl, bI_t (anyN_true (i := k) (by omega) c_13), rfl⟩
set_option maxRecDepth 100000 in
set_option maxHeartbeats 4000000 in
theorem c_X3_hasNewRow {T : mm_H} {o nw v st n m : Nat} {ch wd : Nat → Nat} (hl : lf T o nw v st n m ch wd) : MZ yX3_hasNewRow cX3_hasNewRow 2 3 63 0 0 [.ref o] T (fun z T' => z = bI (anyN (fun k => decide (m < waN ch wd k)) 16) ∧ T' = T) := by
  refine MA.of (by decide) (Nat.le_of_ble_eq_true rfl) ?_
  intro x hx he hini
  have hx : vv_C x cX3_hasNewRow RX3 3 63 2 := hx
  show vv_V x 0 0 0 [(0, .ref o)] [] T
  refine vv_iconst (v := nI 0) hx dX3_hasNewRow_0 (by decide) ?_
  refine vv_istore_n (lv' := [(0, .ref o), (1, .int (nI (0)))]) hx dX3_hasNewRow_1 (by decide) rfl rfl ?_
  exact l_X3_hasNewRow hl hx he 16 0 rfl rfl
set_option maxRecDepth 100000 in
set_option maxHeartbeats 4000000 in
theorem c_X3_makeSegment {T : mm_H} {o a b : Nat} (hoK : mm_K T o = 4) (hI6 : mm_I T o 6 = nI a) (hI7 : mm_I T o 7 = nI b) (hUQ : UQ T) : MR yX3_makeSegment cX3_makeSegment 2 (.object "LiveViews$Segment") 2 41 2 20 [.ref o] T (fun z T' => ∃ g, z = some g ∧ gR T T' o o (a + 1) b ∧ ∀ w, sgN T T' g a 0 w) := by
  refine MA.of (by decide) (Nat.le_of_ble_eq_true rfl) ?_
  intro x hx he hini
  have hx : vv_C x cX3_makeSegment RX3 2 41 2 := hx
  show vv_V x 2 20 0 [(0, .ref o)] [] T
  refine vv_new (N := 4) hx dX3_makeSegment_0 kc_X3_47 kl_0 kn_X0 kz_X0 rfl rfl (fun g hg => ?_)
  have go : g ≠ o := fun e => by rw [e] at hg; omega
  refine vv_dup hx dX3_makeSegment_3 rfl ?_
  refine vv_aload_n hx dX3_makeSegment_4 rfl ?_
  refine cc_geti (e0 := nI (a)) 6 hx dX3_makeSegment_5 kf_X3_29 kl_3 (by decide) rfl (by rw [mm_K_sN, if_neg (Ne.symm go)]; exact hoK) (by rw [mm_I_sN, if_neg (Ne.symm go)]; exact hI6) ?_
  refine vv_callIN (As := [.int (nI (a))]) hx dX3_makeSegment_8 km_X3_199 kq_X0_init rfl ki_X0_init (c_X0_init (v := nI a) (by rw [mm_K_sN, if_pos rfl])) rfl rfl (Nat.le_of_ble_eq_true rfl) (by decide) (by decide) rfl rfl (vv_cv fun T' hT => ?_)
  obtain ⟨q, hq, rfl⟩ := hT
  have no : o ≠ q := fun e => by rw [mm_K_sN, if_neg (fun e2 => go (e2.symm.trans e.symm))] at hq; rw [e] at hoK; omega
  refine vv_astore_n (lv' := [(0, .ref o), (1, .ref g)]) hx dX3_makeSegment_11 (by decide) rfl rfl ?_
  refine vv_aload_n hx dX3_makeSegment_12 rfl ?_
  refine vv_dup hx dX3_makeSegment_13 rfl ?_
  refine cc_geti (e0 := nI (a)) 6 hx dX3_makeSegment_14 kf_X3_29 kl_3 (by decide) rfl (by show mm_K (mm_sN (mm_sN T g 1 0) q 6 16) o = 4; rw [mm_K_sN, if_neg no, mm_K_sN, if_neg (Ne.symm go)]; exact hoK) (by rw [mm_I_a (Ne.symm go), mm_I_a (Ne.symm go), mm_I_a (Ne.symm go), mm_I_sP, mm_I_sN, if_neg no, mm_I_sN, if_neg (Ne.symm go)]; exact hI6) ?_
  refine vv_iconst (v := nI 1) hx dX3_makeSegment_17 (by decide) ?_
  refine vv_iaddN hx dX3_makeSegment_18 ?_
  refine vv_puti 6 hx dX3_makeSegment_19 kf_X3_29 kl_3 (by decide) rfl rfl rfl (by show mm_K (mm_sN (mm_sN T g 1 0) q 6 16) o = 4; rw [mm_K_sN, if_neg no, mm_K_sN, if_neg (Ne.symm go)]; exact hoK) ?_
  refine vv_aload_n hx dX3_makeSegment_22 rfl ?_
  exact vv_aret (r := some g) hx he (Or.inl ⟨_, rfl⟩) dX3_makeSegment_23 ⟨_, rfl, g, rfl, sgN.mk hoK hI7 hUQ hg hq⟩
set_option maxRecDepth 100000 in
set_option maxHeartbeats 4000000 in
theorem c_X3_putRow {T : mm_H} {o nw n g c rows b k : Nat} {ch wd : Nat → Nat} (hoK : mm_K T o = 4) (hoP0 : mm_P T o 0 = some nw) (hst : stA T nw n ch wd) (hI7 : mm_I T o 7 = nI b) (hgK : mm_K T g = 1) (hI2 : mm_I T g 2 = nI rows) (hP1 : mm_P T g 1 = some c) (hKc : mm_K T c = 6) (hLc : mm_L T c = 16) (hk : k < 16) : MV yX3_putRow cX3_putRow 3 1 22 0 0 [.ref o, .ref g, .int (nI (k))] T (fun T' => T' = mm_sI (mm_sI (mm_sI T c k (nI (ch k))) g 2 (nI (rows + 1))) o 7 (nI (b + 1))) := by
  refine MA.of (by decide) (Nat.le_of_ble_eq_true rfl) ?_
  intro x hx he hini
  have hx : vv_C x cX3_putRow RX3 1 22 3 := hx
  show vv_V x 0 0 0 [(0, .ref o), (1, .ref g), (2, .int (nI (k)))] [] T
  obtain ⟨hsK, hsI, sc, sw, hsP1, hsP2, hsKc, hsLc, hsKw, hsLw, hsC, hsW, hsn, hsch, hswd⟩ := id hst
  have og : o ≠ g := fun e => by rw [e] at hoK; omega
  have oc : o ≠ c := fun e => by rw [e] at hoK; omega
  refine vv_aload_n hx dX3_putRow_0 rfl ?_
  refine vv_iload_n hx dX3_putRow_1 rfl ?_
  refine vv_aload_n hx dX3_putRow_2 rfl ?_
  refine vv_getr (b := nw) 0 hx dX3_putRow_3 kf_X3_10 kl_3 (by decide) rfl hoK hoP0 ?_
  refine vv_getrN (b := sc) 1 hx dX3_putRow_6 kf_X3_121 kl_1 (by decide) rfl hsK hsP1 ?_
  refine vv_iload_n hx dX3_putRow_9 rfl ?_
  refine cc_iald (e0 := nI (ch (k))) (n := 16) hx dX3_putRow_10 hsKc hsLc (by omega) (by decide) (hsC (k) (by omega)) ?_
  refine vv_callVN (As := [.int (nI (k)), .int (nI (ch (k)))]) hx dX3_putRow_11 km_X3_202 kq_X0_put ki_X0_put ks_X0_put kl_0 hgK (c_X0_put hgK hI2 hP1 hKc hLc hk) rfl rfl (Nat.le_of_ble_eq_true rfl) (by decide) (by decide) rfl rfl (vv_cdv ?_)
  refine vv_aload_n hx dX3_putRow_14 rfl ?_
  refine vv_dup hx dX3_putRow_15 rfl ?_
  refine cc_geti (e0 := nI (b)) 7 hx dX3_putRow_16 kf_X3_32 kl_3 (by decide) rfl hoK (by rw [mm_I_a og, mm_I_a oc]; exact hI7) ?_
  refine vv_iconst (v := nI 1) hx dX3_putRow_19 (by decide) ?_
  refine vv_iaddN hx dX3_putRow_20 ?_
  refine vv_puti 7 hx dX3_putRow_21 kf_X3_32 kl_3 (by decide) rfl rfl rfl hoK ?_
  exact vv_vret hx he dX3_putRow_24 ⟨rfl, rfl⟩
set_option maxRecDepth 100000 in
set_option maxHeartbeats 4000000 in
theorem l_X3_segmentOfNewRows {T0 : mm_H} {o nw v st n m : Nat} {ch wd : Nat → Nat} (hl : lf T0 o nw v st n m ch wd) {a b g : Nat} {x : vv_X} (hx : vv_C x cX3_segmentOfNewRows RX3 3 63 3) (he : vv_E x (some (.object "LiveViews$Segment")) (fun zz S' => ∃ r0 : Option Nat, zz = some (va_rf r0) ∧ (fun z T' => ∃ g, z = some g ∧ gR T0 T' o o (a + 1) (b + cntN (nz (nwW m ch wd)) 16) ∧ sgN T0 T' g a 16 (nwW m ch wd)) r0 S')) : ∀ d k T, k + d = 16 → gR T0 T o o (a + 1) (b + cntN (nz (nwW m ch wd)) k) → sgN T0 T g a k (nwW m ch wd) → vv_V x 0 0 7 [(0, .ref o), (1, .ref g), (2, .int (nI (k)))] [] T := by
  intro d
  induction d with
  | zero =>
    intro k T hd hG hN
    have ek : k = 16 := by omega
    subst ek
    refine vv_iload_n hx dX3_segmentOfNewRows_7 rfl ?_
    refine vv_bipush (v := nI 16) hx dX3_segmentOfNewRows_8 (by decide) ?_
    refine vv_icmp_geN (tgt := 33) hx dX3_segmentOfNewRows_10 (by decide) (by omega) (by omega) (fun c_10 => ?_) (fun c_10 => ?_)
    · refine vv_aload_n hx dX3_segmentOfNewRows_33 rfl ?_
      exact vv_aret (r := some g) hx he (Or.inl ⟨_, rfl⟩) dX3_segmentOfNewRows_34 ⟨_, rfl, g, rfl, hG, hN⟩
    · exfalso; omega
  | succ d ih =>
    intro k T hd hG hN
    have hlT := hl.fr hG (Or.inl rfl)
    obtain ⟨hoK, hoP0, hst, -⟩ := id hlT
    obtain ⟨-, hgK, -, hI2, -, c, hP1, -, hKc, hLc, -⟩ := id hN
    refine vv_iload_n hx dX3_segmentOfNewRows_7 rfl ?_
    refine vv_bipush (v := nI 16) hx dX3_segmentOfNewRows_8 (by decide) ?_
    refine vv_icmp_geN (tgt := 33) hx dX3_segmentOfNewRows_10 (by decide) (by omega) (by omega) (fun c_10 => ?_) (fun c_10 => ?_)
    · exfalso; omega
    · refine vv_aload_n hx dX3_segmentOfNewRows_13 rfl ?_
      refine vv_iload_n hx dX3_segmentOfNewRows_14 rfl ?_
      refine vv_callV (As := [.int (nI (k))]) hx dX3_segmentOfNewRows_15 km_X3_181 kq_X3_isNewRow ki_X3_isNewRow ks_X3_isNewRow kl_3 hoK (c_X3_isNewRow hlT (by omega)) rfl rfl (Nat.le_of_ble_eq_true rfl) (by decide) (by decide) rfl rfl (vv_cd ?_)
      refine vv_if_eqB (tgt := 27) hx dX3_segmentOfNewRows_18 (by decide) (fun c_18 => ?_) (fun c_18 => ?_)
      · refine vv_iinc (u := (nI (k + 1))) (lv' := [(0, .ref o), (1, .ref g), (2, .int (nI (k + 1)))]) hx dX3_segmentOfNewRows_27 rfl (nI_1 _) (by decide) rfl rfl ?_
        refine vv_goto (tgt := 7) hx dX3_segmentOfNewRows_30 (by decide) ?_
        have hw : nwW m ch wd k = 0 := by unfold nwW; rw [if_neg (of_decide_eq_false c_18)]
        exact ih (k + 1) T (by omega) (by rw [cntN_f0 (nz_f.mpr hw)]; exact hG) (hN.skip hw)
      · refine vv_aload_n hx dX3_segmentOfNewRows_21 rfl ?_
        refine vv_aload_n hx dX3_segmentOfNewRows_22 rfl ?_
        refine vv_iload_n hx dX3_segmentOfNewRows_23 rfl ?_
        have c18 : m < waN ch wd k := of_decide_eq_true c_18
        have hpos : 0 < ch k := by rw [← waN_ch (k := k) (ch := ch) (wd := wd) (by omega)]; omega
        have hw : nwW m ch wd k = ch k := by unfold nwW; rw [if_pos c18, waN_ch (by omega)]
        refine vv_callV (As := [.ref g, .int (nI (k))]) hx dX3_segmentOfNewRows_24 km_X3_187 kq_X3_putRow ki_X3_putRow ks_X3_putRow kl_3 hoK (c_X3_putRow hoK hoP0 hst hG.2.2.2.2.2.1 hgK hI2 hP1 hKc hLc (by omega)) rfl rfl (Nat.le_of_ble_eq_true rfl) (by decide) (by decide) rfl rfl (vv_cdv ?_)
        refine vv_iinc (u := (nI (k + 1))) (lv' := [(0, .ref o), (1, .ref g), (2, .int (nI (k + 1)))]) hx dX3_segmentOfNewRows_27 rfl (nI_1 _) (by decide) rfl rfl ?_
        refine vv_goto (tgt := 7) hx dX3_segmentOfNewRows_30 (by decide) ?_
        have h9 := hN.put hG hP1 (k := k) (by rw [hw]; exact hpos)
        rw [hw] at h9
        exact ih (k + 1) _ (by omega) (by rw [cntN_t (nz_t.mpr (by rw [hw]; exact hpos)), ← Nat.add_assoc]; exact h9.2) h9.1
set_option maxRecDepth 100000 in
set_option maxHeartbeats 4000000 in
theorem c_X3_segmentOfNewRows {T0 : mm_H} {o nw v st n m : Nat} {ch wd : Nat → Nat} (hl : lf T0 o nw v st n m ch wd) {a b : Nat} (hI6 : mm_I T0 o 6 = nI a) (hI7 : mm_I T0 o 7 = nI b) (hUQ : UQ T0) : MR yX3_segmentOfNewRows cX3_segmentOfNewRows 3 (.object "LiveViews$Segment") 3 63 2 20 [.ref o] T0 (fun z T' => ∃ g, z = some g ∧ gR T0 T' o o (a + 1) (b + cntN (nz (nwW m ch wd)) 16) ∧ sgN T0 T' g a 16 (nwW m ch wd)) := by
  refine MA.of (by decide) (Nat.le_of_ble_eq_true rfl) ?_
  intro x hx he hini
  have hx : vv_C x cX3_segmentOfNewRows RX3 3 63 3 := hx
  show vv_V x 2 20 0 [(0, .ref o)] [] T0
  have hoK0 := hl.1
  refine vv_aload_n hx dX3_segmentOfNewRows_0 rfl ?_
  refine vv_callV (As := []) hx dX3_segmentOfNewRows_1 km_X3_184 kq_X3_makeSegment ki_X3_makeSegment ks_X3_makeSegment kl_3 hoK0 (c_X3_makeSegment hoK0 hI6 hI7 hUQ) rfl rfl (Nat.le_of_ble_eq_true rfl) (by decide) (by decide) rfl rfl (vv_cr fun z T hz => ?_)
  obtain ⟨g, rfl, hG, hN⟩ := hz
  show vv_V x 0 0 _ _ (.ref g :: _) T
  refine vv_astore_n (lv' := [(0, .ref o), (1, .ref g)]) hx dX3_segmentOfNewRows_4 (by decide) rfl rfl ?_
  refine vv_iconst (v := nI 0) hx dX3_segmentOfNewRows_5 (by decide) ?_
  refine vv_istore_n (lv' := [(0, .ref o), (1, .ref g), (2, .int (nI (0)))]) hx dX3_segmentOfNewRows_6 (by decide) rfl rfl ?_
  exact l_X3_segmentOfNewRows hl hx he 16 0 T rfl hG (hN _)
set_option maxRecDepth 100000 in
set_option maxHeartbeats 4000000 in
theorem l_X3_segmentOfLiveRows {T0 : mm_H} {o nw n g1 g2 s1 s2 r1 r2 : Nat} {ch wd w1 w2 : Nat → Nat} (hoK0 : mm_K T0 o = 4) (hoP00 : mm_P T0 o 0 = some nw) (hst0 : stA T0 nw n ch wd) (hg1 : sgA T0 g1 s1 r1 w1) (hg2 : sgA T0 g2 s2 r2 w2) {a b g : Nat} {x : vv_X} (hx : vv_C x cX3_segmentOfLiveRows RX3 3 62 5) (he : vv_E x (some (.object "LiveViews$Segment")) (fun zz S' => ∃ r0 : Option Nat, zz = some (va_rf r0) ∧ (fun z T' => ∃ g, z = some g ∧ gR T0 T' o o (a + 1) (b + cntN (nz (lwW ch w1 w2)) 16) ∧ sgN T0 T' g a 16 (lwW ch w1 w2)) r0 S')) : ∀ d k T, k + d = 16 → gR T0 T o o (a + 1) (b + cntN (nz (lwW ch w1 w2)) k) → sgN T0 T g a k (lwW ch w1 w2) → vv_V x 0 0 8 [(0, .ref o), (1, .ref g1), (2, .ref g2), (3, .ref g), (4, .int (nI (k)))] [] T := by
  intro d
  induction d with
  | zero =>
    intro k T hd hG hN
    have ek : k = 16 := by omega
    subst ek
    refine vv_iload hx dX3_segmentOfLiveRows_8 rfl ?_
    refine vv_bipush (v := nI 16) hx dX3_segmentOfLiveRows_10 (by decide) ?_
    refine vv_icmp_geN (tgt := 54) hx dX3_segmentOfLiveRows_12 (by decide) (by omega) (by omega) (fun c_12 => ?_) (fun c_12 => ?_)
    · refine vv_aload_n hx dX3_segmentOfLiveRows_54 rfl ?_
      exact vv_aret (r := some g) hx he (Or.inl ⟨_, rfl⟩) dX3_segmentOfLiveRows_55 ⟨_, rfl, g, rfl, hG, hN⟩
    · exfalso; omega
  | succ d ih =>
    intro k T hd hG hN
    have hoK := hG.2.1
    have hoP0 := (hG.2.2.1 0).trans hoP00
    have hst := hG.st hoK0 (Or.inl rfl) hst0
    have hs1 := (hG.sg hoK0 (Or.inl rfl) hg1).1
    have hs2 := (hG.sg hoK0 (Or.inl rfl) hg2).1
    obtain ⟨-, hgK, -, hI2, -, c, hP1, -, hKc, hLc, -⟩ := id hN
    refine vv_iload hx dX3_segmentOfLiveRows_8 rfl ?_
    refine vv_bipush (v := nI 16) hx dX3_segmentOfLiveRows_10 (by decide) ?_
    refine vv_icmp_geN (tgt := 54) hx dX3_segmentOfLiveRows_12 (by decide) (by omega) (by omega) (fun c_12 => ?_) (fun c_12 => ?_)
    · exfalso; omega
    · refine vv_aload_n hx dX3_segmentOfLiveRows_15 rfl ?_
      refine vv_iload hx dX3_segmentOfLiveRows_16 rfl ?_
      refine vv_aload_n hx dX3_segmentOfLiveRows_18 rfl ?_
      refine vv_getr (b := nw) 0 hx dX3_segmentOfLiveRows_19 kf_X3_10 kl_3 (by decide) rfl hoK hoP0 ?_
      refine vv_callVN (As := [.int (nI (k)), .ref nw]) hx dX3_segmentOfLiveRows_22 km_X3_195 kq_X0_isLive ki_X0_isLive ks_X0_isLive kl_0 hs1.1 (c_X0_isLive hs1 hst (by omega)) rfl rfl (Nat.le_of_ble_eq_true rfl) (by decide) (by decide) rfl rfl (vv_cd ?_)
      refine vv_if_neB (tgt := 41) hx dX3_segmentOfLiveRows_25 (by decide) (fun c_25 => ?_) (fun c_25 => ?_)
      · refine vv_aload_n hx dX3_segmentOfLiveRows_41 rfl ?_
        refine vv_aload_n hx dX3_segmentOfLiveRows_42 rfl ?_
        refine vv_iload hx dX3_segmentOfLiveRows_43 rfl ?_
        have hil : (ilB w1 ch k || ilB w2 ch k) = true := by simp [c_25]
        have hpos : 0 < ch k := by
          rw [Bool.or_eq_true] at hil
          rcases hil with q | q
          · simp only [ilB, Bool.and_eq_true, decide_eq_true_eq, nz_t] at q; omega
          · simp only [ilB, Bool.and_eq_true, decide_eq_true_eq, nz_t] at q; omega
        have hw : lwW ch w1 w2 k = ch k := by unfold lwW; rw [hil]; rfl
        refine vv_callV (As := [.ref g, .int (nI (k))]) hx dX3_segmentOfLiveRows_45 km_X3_187 kq_X3_putRow ki_X3_putRow ks_X3_putRow kl_3 hoK (c_X3_putRow hoK hoP0 hst hG.2.2.2.2.2.1 hgK hI2 hP1 hKc hLc (by omega)) rfl rfl (Nat.le_of_ble_eq_true rfl) (by decide) (by decide) rfl rfl (vv_cdv ?_)
        refine vv_iinc (u := (nI (k + 1))) (lv' := [(0, .ref o), (1, .ref g1), (2, .ref g2), (3, .ref g), (4, .int (nI (k + 1)))]) hx dX3_segmentOfLiveRows_48 rfl (nI_1 _) (by decide) rfl rfl ?_
        refine vv_goto (tgt := 8) hx dX3_segmentOfLiveRows_51 (by decide) ?_
        have h9 := hN.put hG hP1 (k := k) (by rw [hw]; exact hpos)
        rw [hw] at h9
        exact ih (k + 1) _ (by omega) (by rw [cntN_t (nz_t.mpr (by rw [hw]; exact hpos)), ← Nat.add_assoc]; exact h9.2) h9.1
      · refine vv_aload_n hx dX3_segmentOfLiveRows_28 rfl ?_
        refine vv_iload hx dX3_segmentOfLiveRows_29 rfl ?_
        refine vv_aload_n hx dX3_segmentOfLiveRows_31 rfl ?_
        refine vv_getr (b := nw) 0 hx dX3_segmentOfLiveRows_32 kf_X3_10 kl_3 (by decide) rfl hoK hoP0 ?_
        refine vv_callVN (As := [.int (nI (k)), .ref nw]) hx dX3_segmentOfLiveRows_35 km_X3_195 kq_X0_isLive ki_X0_isLive ks_X0_isLive kl_0 hs2.1 (c_X0_isLive hs2 hst (by omega)) rfl rfl (Nat.le_of_ble_eq_true rfl) (by decide) (by decide) rfl rfl (vv_cd ?_)
        refine vv_if_eqB (tgt := 48) hx dX3_segmentOfLiveRows_38 (by decide) (fun c_38 => ?_) (fun c_38 => ?_)
        · refine vv_iinc (u := (nI (k + 1))) (lv' := [(0, .ref o), (1, .ref g1), (2, .ref g2), (3, .ref g), (4, .int (nI (k + 1)))]) hx dX3_segmentOfLiveRows_48 rfl (nI_1 _) (by decide) rfl rfl ?_
          refine vv_goto (tgt := 8) hx dX3_segmentOfLiveRows_51 (by decide) ?_
          have hw : lwW ch w1 w2 k = 0 := by unfold lwW; rw [c_25, c_38]; rfl
          exact ih (k + 1) T (by omega) (by rw [cntN_f0 (nz_f.mpr hw)]; exact hG) (hN.skip hw)
        · refine vv_aload_n hx dX3_segmentOfLiveRows_41 rfl ?_
          refine vv_aload_n hx dX3_segmentOfLiveRows_42 rfl ?_
          refine vv_iload hx dX3_segmentOfLiveRows_43 rfl ?_
          have hil : (ilB w1 ch k || ilB w2 ch k) = true := by simp [c_25, c_38]
          have hpos : 0 < ch k := by
            rw [Bool.or_eq_true] at hil
            rcases hil with q | q
            · simp only [ilB, Bool.and_eq_true, decide_eq_true_eq, nz_t] at q; omega
            · simp only [ilB, Bool.and_eq_true, decide_eq_true_eq, nz_t] at q; omega
          have hw : lwW ch w1 w2 k = ch k := by unfold lwW; rw [hil]; rfl
          refine vv_callV (As := [.ref g, .int (nI (k))]) hx dX3_segmentOfLiveRows_45 km_X3_187 kq_X3_putRow ki_X3_putRow ks_X3_putRow kl_3 hoK (c_X3_putRow hoK hoP0 hst hG.2.2.2.2.2.1 hgK hI2 hP1 hKc hLc (by omega)) rfl rfl (Nat.le_of_ble_eq_true rfl) (by decide) (by decide) rfl rfl (vv_cdv ?_)
          refine vv_iinc (u := (nI (k + 1))) (lv' := [(0, .ref o), (1, .ref g1), (2, .ref g2), (3, .ref g), (4, .int (nI (k + 1)))]) hx dX3_segmentOfLiveRows_48 rfl (nI_1 _) (by decide) rfl rfl ?_
          refine vv_goto (tgt := 8) hx dX3_segmentOfLiveRows_51 (by decide) ?_
          have h9 := hN.put hG hP1 (k := k) (by rw [hw]; exact hpos)
          rw [hw] at h9
          exact ih (k + 1) _ (by omega) (by rw [cntN_t (nz_t.mpr (by rw [hw]; exact hpos)), ← Nat.add_assoc]; exact h9.2) h9.1
set_option maxRecDepth 100000 in
set_option maxHeartbeats 4000000 in
theorem c_X3_segmentOfLiveRows {T0 : mm_H} {o nw n g1 g2 s1 s2 r1 r2 : Nat} {ch wd w1 w2 : Nat → Nat} (hoK0 : mm_K T0 o = 4) (hoP00 : mm_P T0 o 0 = some nw) (hst0 : stA T0 nw n ch wd) (hg1 : sgA T0 g1 s1 r1 w1) (hg2 : sgA T0 g2 s2 r2 w2) {a b : Nat} (hI6 : mm_I T0 o 6 = nI a) (hI7 : mm_I T0 o 7 = nI b) (hUQ : UQ T0) : MR yX3_segmentOfLiveRows cX3_segmentOfLiveRows 5 (.object "LiveViews$Segment") 3 62 2 20 [.ref o, .ref g1, .ref g2] T0 (fun z T' => ∃ g, z = some g ∧ gR T0 T' o o (a + 1) (b + cntN (nz (lwW ch w1 w2)) 16) ∧ sgN T0 T' g a 16 (lwW ch w1 w2)) := by
  refine MA.of (by decide) (Nat.le_of_ble_eq_true rfl) ?_
  intro x hx he hini
  have hx : vv_C x cX3_segmentOfLiveRows RX3 3 62 5 := hx
  show vv_V x 2 20 0 [(0, .ref o), (1, .ref g1), (2, .ref g2)] [] T0
  have hoK0 := hoK0
  refine vv_aload_n hx dX3_segmentOfLiveRows_0 rfl ?_
  refine vv_callV (As := []) hx dX3_segmentOfLiveRows_1 km_X3_184 kq_X3_makeSegment ki_X3_makeSegment ks_X3_makeSegment kl_3 hoK0 (c_X3_makeSegment hoK0 hI6 hI7 hUQ) rfl rfl (Nat.le_of_ble_eq_true rfl) (by decide) (by decide) rfl rfl (vv_cr fun z T hz => ?_)
  obtain ⟨g, rfl, hG, hN⟩ := hz
  show vv_V x 0 0 _ _ (.ref g :: _) T
  refine vv_astore_n (lv' := [(0, .ref o), (1, .ref g1), (2, .ref g2), (3, .ref g)]) hx dX3_segmentOfLiveRows_4 (by decide) rfl rfl ?_
  refine vv_iconst (v := nI 0) hx dX3_segmentOfLiveRows_5 (by decide) ?_
  refine vv_istore (lv' := [(0, .ref o), (1, .ref g1), (2, .ref g2), (3, .ref g), (4, .int (nI (0)))]) hx dX3_segmentOfLiveRows_6 (by decide) rfl rfl ?_
  exact l_X3_segmentOfLiveRows hoK0 hoP00 hst0 hg1 hg2 hx he 16 0 T rfl hG (hN _)
