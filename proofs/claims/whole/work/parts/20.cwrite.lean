set_option maxRecDepth 100000 in
set_option maxHeartbeats 4000000 in
theorem c_X1_change {S : mm_H} {a n c w k : Nat} {v : Int32} (hsK : mm_K S a = 2) (hsI : mm_I S a 0 = nI n) (hsP1 : mm_P S a 1 = some c) (hsP2 : mm_P S a 2 = some w) (hsKc : mm_K S c = 6) (hsLc : mm_L S c = 16) (hsKw : mm_K S w = 6) (hsLw : mm_L S w = 16) (hk : k < 16) : MI yX1_change cX1_change 3 0 0 0 0 [.ref a, .int (nI (k)), .int (v)] S (fun z S' => z = nI (n + 1) ∧ S' = mm_sI (mm_sI (mm_sI S a 0 (nI (n + 1))) c k (nI (n + 1))) w k v) := by
  refine MA.of (by decide) (Nat.le_of_ble_eq_true rfl) ?_
  intro x hx he hini
  have hx : vv_C x cX1_change RX1 0 0 3 := hx
  show vv_V x 0 0 0 [(0, .ref a), (1, .int (nI (k))), (2, .int (v))] [] S
  have hac : a ≠ c := fun e => by rw [e] at hsK; omega
  have haw : a ≠ w := fun e => by rw [e] at hsK; omega
  refine vv_aload_n hx dX1_change_0 rfl ?_
  refine vv_dup hx dX1_change_1 rfl ?_
  refine cc_geti (e0 := nI (n)) 0 hx dX1_change_2 kf_X1_9 kl_1 (by decide) rfl hsK hsI ?_
  refine vv_iconst (v := nI 1) hx dX1_change_5 (by decide) ?_
  refine vv_iaddN hx dX1_change_6 ?_
  refine vv_puti 0 hx dX1_change_7 kf_X1_9 kl_1 (by decide) rfl rfl rfl hsK ?_
  refine vv_aload_n hx dX1_change_10 rfl ?_
  refine vv_getr (b := c) 1 hx dX1_change_11 kf_X1_15 kl_1 (by decide) rfl hsK hsP1 ?_
  refine vv_iload_n hx dX1_change_14 rfl ?_
  refine vv_aload_n hx dX1_change_15 rfl ?_
  refine cc_geti (e0 := nI (n + 1)) 0 hx dX1_change_16 kf_X1_9 kl_1 (by decide) rfl hsK (by rw [mm_I_sI, if_pos ⟨rfl, rfl⟩]) ?_
  refine cc_iast (n := 16) hx dX1_change_19 hsKc hsLc (by omega) (by decide) ?_
  refine vv_aload_n hx dX1_change_20 rfl ?_
  refine vv_getr (b := w) 2 hx dX1_change_21 kf_X1_19 kl_1 (by decide) rfl hsK hsP2 ?_
  refine vv_iload_n hx dX1_change_24 rfl ?_
  refine vv_iload_n hx dX1_change_25 rfl ?_
  refine cc_iast (n := 16) hx dX1_change_26 hsKw hsLw (by omega) (by decide) ?_
  refine vv_aload_n hx dX1_change_27 rfl ?_
  refine cc_geti (e0 := nI (n + 1)) 0 hx dX1_change_28 kf_X1_9 kl_1 (by decide) rfl hsK (by rw [mm_I_sI, if_neg (fun z => haw z.1), mm_I_sI, if_neg (fun z => hac z.1), mm_I_sI, if_pos ⟨rfl, rfl⟩]) ?_
  exact vv_iret hx he dX1_change_31 ⟨_, rfl, rfl, rfl⟩
set_option maxRecDepth 100000 in
set_option maxHeartbeats 4000000 in
theorem c_X1_init {S : mm_H} {a : Nat} (hK0 : mm_K S a = 2) : MV yX1_init cX1_init 1 1 20 2 32 [.ref a] S (fun S' => ∃ q1 q2, mm_K S q1 = 0 ∧ mm_K (mm_sN S q1 6 16) q2 = 0 ∧ S' = mm_sP (mm_sN (mm_sP (mm_sN (mm_sI S a 0 (nI 0)) q1 6 16) a 1 (some q1)) q2 6 16) a 2 (some q2)) := by
  refine MA.of (by decide) (Nat.le_of_ble_eq_true rfl) ?_
  intro x hx he hini
  have hx : vv_C x cX1_init RX1 1 20 1 := hx
  show vv_V x 2 32 0 [(0, .ref a)] [] S
  refine vv_aload_n hx dX1_init_0 rfl ?_
  refine vv_objInit hx dX1_init_1 km_X1_3 ki_obj ko_obj (by decide) (by decide) ?_
  refine vv_aload_n hx dX1_init_4 rfl ?_
  refine vv_iconst (v := nI 0) hx dX1_init_5 (by decide) ?_
  refine vv_puti 0 hx dX1_init_6 kf_X1_9 kl_1 (by decide) rfl rfl rfl hK0 ?_
  refine vv_aload_n hx dX1_init_9 rfl ?_
  refine vv_bipush (v := nI 16) hx dX1_init_10 (by decide) ?_
  refine vv_newi (z := 16) hx dX1_init_12 rfl (by decide) rfl rfl (fun q1 hq1 => ?_)
  refine vv_putrF 1 hx dX1_init_14 kf_X1_15 kl_1 (by decide) rfl rfl (hini rfl) rfl rfl rfl rfl (by show mm_K (mm_sN S q1 6 16) a = 2; rw [mm_K_sN, if_neg (fun e => by rw [← e] at hq1; exact absurd (hq1.symm.trans hK0) (by decide))]; exact hK0) ?_
  refine vv_aload_n hx dX1_init_17 rfl ?_
  refine vv_bipush (v := nI 16) hx dX1_init_18 (by decide) ?_
  refine vv_newi (z := 16) hx dX1_init_20 rfl (by decide) rfl rfl (fun q2 hq2 => ?_)
  refine vv_putrF 2 hx dX1_init_22 kf_X1_19 kl_1 (by decide) rfl rfl (hini rfl) rfl rfl rfl rfl (by show mm_K (mm_sN (mm_sN S q1 6 16) q2 6 16) a = 2; have h1 : mm_K (mm_sN S q1 6 16) a = 2 := (by rw [mm_K_sN, if_neg (fun e => by rw [← e] at hq1; exact absurd (hq1.symm.trans hK0) (by decide))]; exact hK0); rw [mm_K_sN, if_neg (fun e => by have h2 : mm_K (mm_sN S q1 6 16) q2 = 0 := hq2; rw [← e] at h2; omega)]; exact h1) ?_
  exact vv_vret hx he dX1_init_25 ⟨rfl, q1, q2, hq1, hq2, rfl⟩
set_option maxRecDepth 100000 in
set_option maxHeartbeats 4000000 in
theorem c_X0_init {S : mm_H} {a : Nat} {v : Int32} (hK0 : mm_K S a = 1) : MV yX0_init cX0_init 2 1 20 1 16 [.ref a, .int (v)] S (fun S' => ∃ q1, mm_K S q1 = 0 ∧ S' = mm_sI (mm_sI (mm_sI (mm_sP (mm_sN S q1 6 16) a 1 (some q1)) a 2 (nI 0)) a 3 (nI 0)) a 0 v) := by
  refine MA.of (by decide) (Nat.le_of_ble_eq_true rfl) ?_
  intro x hx he hini
  have hx : vv_C x cX0_init RX0 1 20 2 := hx
  show vv_V x 1 16 0 [(0, .ref a), (1, .int (v))] [] S
  refine vv_aload_n hx dX0_init_0 rfl ?_
  refine vv_objInit hx dX0_init_1 km_X0_3 ki_obj ko_obj (by decide) (by decide) ?_
  refine vv_aload_n hx dX0_init_4 rfl ?_
  refine vv_bipush (v := nI 16) hx dX0_init_5 (by decide) ?_
  refine vv_newi (z := 16) hx dX0_init_7 rfl (by decide) rfl rfl (fun q1 hq1 => ?_)
  refine vv_putrF 1 hx dX0_init_9 kf_X0_9 kl_0 (by decide) rfl rfl (hini rfl) rfl rfl rfl rfl (by show mm_K (mm_sN S q1 6 16) a = 1; rw [mm_K_sN, if_neg (fun e => by rw [← e] at hq1; exact absurd (hq1.symm.trans hK0) (by decide))]; exact hK0) ?_
  refine vv_aload_n hx dX0_init_12 rfl ?_
  refine vv_iconst (v := nI 0) hx dX0_init_13 (by decide) ?_
  refine vv_puti 2 hx dX0_init_14 kf_X0_15 kl_0 (by decide) rfl rfl rfl (by show mm_K (mm_sN S q1 6 16) a = 1; rw [mm_K_sN, if_neg (fun e => by rw [← e] at hq1; exact absurd (hq1.symm.trans hK0) (by decide))]; exact hK0) ?_
  refine vv_aload_n hx dX0_init_17 rfl ?_
  refine vv_iconst (v := nI 0) hx dX0_init_18 (by decide) ?_
  refine vv_puti 3 hx dX0_init_19 kf_X0_19 kl_0 (by decide) rfl rfl rfl (by show mm_K (mm_sN S q1 6 16) a = 1; rw [mm_K_sN, if_neg (fun e => by rw [← e] at hq1; exact absurd (hq1.symm.trans hK0) (by decide))]; exact hK0) ?_
  refine vv_aload_n hx dX0_init_22 rfl ?_
  refine vv_iload_n hx dX0_init_23 rfl ?_
  refine vv_putiF 0 hx dX0_init_24 kf_X0_22 kl_0 (by decide) rfl rfl (hini rfl) rfl rfl (by show mm_K (mm_sN S q1 6 16) a = 1; rw [mm_K_sN, if_neg (fun e => by rw [← e] at hq1; exact absurd (hq1.symm.trans hK0) (by decide))]; exact hK0) ?_
  exact vv_vret hx he dX0_init_27 ⟨rfl, q1, hq1, rfl⟩
set_option maxRecDepth 100000 in
set_option maxHeartbeats 4000000 in
theorem c_X2_init {S : mm_H} {a st pr : Nat} {v : Int32} (hK0 : mm_K S a = 3) : MV yX2_init cX2_init 4 1 20 0 0 [.ref a, .int (v), .ref st, .ref pr] S (fun S' => S' = mm_sP (mm_sP (mm_sI (mm_sI S a 3 (nI 0)) a 0 v) a 1 (some st)) a 2 (some pr)) := by
  refine MA.of (by decide) (Nat.le_of_ble_eq_true rfl) ?_
  intro x hx he hini
  have hx : vv_C x cX2_init RX2 1 20 4 := hx
  show vv_V x 0 0 0 [(0, .ref a), (1, .int (v)), (2, .ref st), (3, .ref pr)] [] S
  refine vv_aload_n hx dX2_init_0 rfl ?_
  refine vv_objInit hx dX2_init_1 km_X2_1 ki_obj ko_obj (by decide) (by decide) ?_
  refine vv_aload_n hx dX2_init_4 rfl ?_
  refine vv_iconst (v := nI 0) hx dX2_init_5 (by decide) ?_
  refine vv_puti 3 hx dX2_init_6 kf_X2_7 kl_2 (by decide) rfl rfl rfl hK0 ?_
  refine vv_aload_n hx dX2_init_9 rfl ?_
  refine vv_iload_n hx dX2_init_10 rfl ?_
  refine vv_putiF 0 hx dX2_init_11 kf_X2_13 kl_2 (by decide) rfl rfl (hini rfl) rfl rfl hK0 ?_
  refine vv_aload_n hx dX2_init_14 rfl ?_
  refine vv_aload_n hx dX2_init_15 rfl ?_
  refine vv_putrF 1 hx dX2_init_16 kf_X2_16 kl_2 (by decide) rfl rfl (hini rfl) rfl rfl rfl rfl hK0 ?_
  refine vv_aload_n hx dX2_init_19 rfl ?_
  refine vv_aload_n hx dX2_init_20 rfl ?_
  refine vv_putrF 2 hx dX2_init_21 kf_X2_20 kl_2 (by decide) rfl rfl (hini rfl) rfl rfl rfl rfl hK0 ?_
  exact vv_vret hx he dX2_init_24 ⟨rfl, rfl⟩
set_option maxRecDepth 100000 in
set_option maxHeartbeats 4000000 in
theorem c_X0_put {S : mm_H} {g c rows k : Nat} {v : Int32} (hK0 : mm_K S g = 1) (hI2 : mm_I S g 2 = nI rows) (hP1 : mm_P S g 1 = some c) (hKc : mm_K S c = 6) (hLc : mm_L S c = 16) (hk : k < 16) : MV yX0_put cX0_put 3 0 0 0 0 [.ref g, .int (nI (k)), .int (v)] S (fun S' => S' = mm_sI (mm_sI S c k v) g 2 (nI (rows + 1))) := by
  refine MA.of (by decide) (Nat.le_of_ble_eq_true rfl) ?_
  intro x hx he hini
  have hx : vv_C x cX0_put RX0 0 0 3 := hx
  show vv_V x 0 0 0 [(0, .ref g), (1, .int (nI (k))), (2, .int (v))] [] S
  have hgc : g ≠ c := fun e => by rw [e] at hK0; omega
  refine vv_aload_n hx dX0_put_0 rfl ?_
  refine vv_getr (b := c) 1 hx dX0_put_1 kf_X0_9 kl_0 (by decide) rfl hK0 hP1 ?_
  refine vv_iload_n hx dX0_put_4 rfl ?_
  refine vv_iload_n hx dX0_put_5 rfl ?_
  refine cc_iast (n := 16) hx dX0_put_6 hKc hLc (by omega) (by decide) ?_
  refine vv_aload_n hx dX0_put_7 rfl ?_
  refine vv_dup hx dX0_put_8 rfl ?_
  refine cc_geti (e0 := nI (rows)) 2 hx dX0_put_9 kf_X0_15 kl_0 (by decide) rfl hK0 (by rw [mm_I_sI, if_neg (fun z => hgc z.1)]; exact hI2) ?_
  refine vv_iconst (v := nI 1) hx dX0_put_12 (by decide) ?_
  refine vv_iaddN hx dX0_put_13 ?_
  refine vv_puti 2 hx dX0_put_14 kf_X0_15 kl_0 (by decide) rfl rfl rfl hK0 ?_
  exact vv_vret hx he dX0_put_17 ⟨rfl, rfl⟩
set_option maxRecDepth 100000 in
set_option maxHeartbeats 4000000 in
theorem c_X1_copyFrom {S : mm_H} {a b ac aw bc bw m : Nat} (haK : mm_K S a = 2) (hbK : mm_K S b = 2) (hbI : mm_I S b 0 = nI m) (haP1 : mm_P S a 1 = some ac) (haP2 : mm_P S a 2 = some aw) (hbP1 : mm_P S b 1 = some bc) (hbP2 : mm_P S b 2 = some bw) (hacK : mm_K S ac = 6) (hacL : mm_L S ac = 16) (hawK : mm_K S aw = 6) (hawL : mm_L S aw = 16) (hbcK : mm_K S bc = 6) (hbcL : mm_L S bc = 16) (hbwK : mm_K S bw = 6) (hbwL : mm_L S bw = 16) : MV yX1_copyFrom cX1_copyFrom 2 1 40 0 0 [.ref a, .ref b] S (fun S' => S' = mm_sR (mm_sR (mm_sI S a 0 (nI m)) ac (fun j => if j < 16 then mm_I (mm_sI S a 0 (nI m)) bc j else mm_I (mm_sI S a 0 (nI m)) ac j)) aw (fun j => if j < 16 then mm_I (mm_sR (mm_sI S a 0 (nI m)) ac (fun j => if j < 16 then mm_I (mm_sI S a 0 (nI m)) bc j else mm_I (mm_sI S a 0 (nI m)) ac j)) bw j else mm_I (mm_sR (mm_sI S a 0 (nI m)) ac (fun j => if j < 16 then mm_I (mm_sI S a 0 (nI m)) bc j else mm_I (mm_sI S a 0 (nI m)) ac j)) aw j)) := by
  refine MA.of (by decide) (Nat.le_of_ble_eq_true rfl) ?_
  intro x hx he hini
  have hx : vv_C x cX1_copyFrom RX1 1 40 2 := hx
  show vv_V x 0 0 0 [(0, .ref a), (1, .ref b)] [] S
  refine vv_aload_n hx dX1_copyFrom_0 rfl ?_
  refine vv_aload_n hx dX1_copyFrom_1 rfl ?_
  refine cc_geti (e0 := nI (m)) 0 hx dX1_copyFrom_2 kf_X1_9 kl_1 (by decide) rfl hbK hbI ?_
  refine vv_puti 0 hx dX1_copyFrom_5 kf_X1_9 kl_1 (by decide) rfl rfl rfl haK ?_
  refine vv_aload_n hx dX1_copyFrom_8 rfl ?_
  refine vv_getr (b := bc) 1 hx dX1_copyFrom_9 kf_X1_15 kl_1 (by decide) rfl hbK hbP1 ?_
  refine vv_iconst (v := nI 0) hx dX1_copyFrom_12 (by decide) ?_
  refine vv_aload_n hx dX1_copyFrom_13 rfl ?_
  refine vv_getr (b := ac) 1 hx dX1_copyFrom_14 kf_X1_15 kl_1 (by decide) rfl haK haP1 ?_
  refine vv_iconst (v := nI 0) hx dX1_copyFrom_17 (by decide) ?_
  refine vv_bipush (v := nI 16) hx dX1_copyFrom_18 (by decide) ?_
  refine vv_copy (z := 16) hx dX1_copyFrom_20 km_X1_22 kv_copy kt_copy kz_J10 hbcK hacK rfl (by decide) (by have h9 := hbcL; exact Nat.le_of_eq h9.symm) (by have h9 := hacL; exact Nat.le_of_eq h9.symm) (by decide) (by decide) ?_
  refine vv_aload_n hx dX1_copyFrom_23 rfl ?_
  refine vv_getr (b := bw) 2 hx dX1_copyFrom_24 kf_X1_19 kl_1 (by decide) rfl hbK hbP2 ?_
  refine vv_iconst (v := nI 0) hx dX1_copyFrom_27 (by decide) ?_
  refine vv_aload_n hx dX1_copyFrom_28 rfl ?_
  refine vv_getr (b := aw) 2 hx dX1_copyFrom_29 kf_X1_19 kl_1 (by decide) rfl haK haP2 ?_
  refine vv_iconst (v := nI 0) hx dX1_copyFrom_32 (by decide) ?_
  refine vv_bipush (v := nI 16) hx dX1_copyFrom_33 (by decide) ?_
  refine vv_copy (z := 16) hx dX1_copyFrom_35 km_X1_22 kv_copy kt_copy kz_J10 hbwK hawK rfl (by decide) (by have h9 := hbwL; exact Nat.le_of_eq h9.symm) (by have h9 := hawL; exact Nat.le_of_eq h9.symm) (by decide) (by decide) ?_
  exact vv_vret hx he dX1_copyFrom_38 ⟨rfl, rfl⟩
