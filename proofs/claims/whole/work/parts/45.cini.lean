set_option maxRecDepth 100000 in
set_option maxHeartbeats 4000000 in
theorem c_X3_init {S : mm_H} {o : Nat} {I0 : Nat → Int32} {P0 : Nat → Option Nat} (hc : cni S o I0 P0) (W : Nat → Nat → Nat) (ga : Nat → Nat) : MV yX3_init cX3_init 2 2 43 12 259 [.ref o] S (fun S' => ∃ nw sf vs va, Rel S' xx_0 W o nw sf vs 0 va ga) := by
  refine MA.of (by decide) (Nat.le_of_ble_eq_true rfl) ?_
  intro x hx he hini
  have hx : vv_C x cX3_init RX3 2 43 2 := hx
  show vv_V x 12 259 0 [(0, .ref o)] [] S
  refine vv_aload_n hx dX3_init_0 rfl ?_
  refine vv_objInit hx dX3_init_1 km_X3_1 ki_obj ko_obj (by decide) (by decide) ?_
  refine vv_aload_n hx dX3_init_4 rfl ?_
  refine vv_new (N := 3) hx dX3_init_5 kc_X3_7 kl_1 kn_X1 kz_X1 rfl rfl (fun nw hnw => ?_)
  refine vv_dup hx dX3_init_8 rfl ?_
  refine vv_callIN (As := []) hx dX3_init_9 km_X3_9 kq_X1_init rfl ki_X1_init (c_X1_init (by rw [mm_K_sN, if_pos rfl])) rfl rfl (Nat.le_of_ble_eq_true rfl) (by decide) (by decide) rfl rfl (vv_cv fun U hU => ?_)
  obtain ⟨q1, q2, hq1, hq2, hU⟩ := hU
  obtain ⟨u1, u2, hz_nw⟩ := nst.z hc.2.2.2 hnw hq1 hq2 hU
  have hc := hc.frF u2 u1
  clear hU hq1 hq2
  have hz0_nw := hz_nw
  refine vv_putrF 0 hx dX3_init_12 kf_X3_10 kl_3 (by decide) rfl rfl (hini rfl) rfl rfl rfl rfl hc.1 ?_
  have hz_nw := hz_nw.sP (k := 0) (v := (some nw)) (o := o) (by have := hc.1; omega) (by have := hc.1; omega)
  have hc := hc.sP 0 (some nw)
  have hz0_nw := hz_nw
  refine vv_aload_n hx dX3_init_15 rfl ?_
  refine vv_new (N := 3) hx dX3_init_16 kc_X3_7 kl_1 kn_X1 kz_X1 rfl rfl (fun sf hsf => ?_)
  refine vv_dup hx dX3_init_19 rfl ?_
  refine vv_callIN (As := []) hx dX3_init_20 km_X3_9 kq_X1_init rfl ki_X1_init (c_X1_init (by rw [mm_K_sN, if_pos rfl])) rfl rfl (Nat.le_of_ble_eq_true rfl) (by decide) (by decide) rfl rfl (vv_cv fun U hU => ?_)
  obtain ⟨q1, q2, hq1, hq2, hU⟩ := hU
  obtain ⟨u1, u2, hz_sf⟩ := nst.z hc.2.2.2 hsf hq1 hq2 hU
  have hc := hc.frF u2 u1
  have hz_nw := hz_nw.fr u2 (fun _ _ e => e)
  have ne_sf_nw : sf ≠ nw := fun e => by rw [e] at hsf; exact absurd (hsf.symm.trans hz0_nw.1) (by decide)
  clear hU hq1 hq2
  have hz0_sf := hz_sf
  refine vv_putrF 1 hx dX3_init_23 kf_X3_16 kl_3 (by decide) rfl rfl (hini rfl) rfl rfl rfl rfl hc.1 ?_
  have hz_nw := hz_nw.sP (k := 1) (v := (some sf)) (o := o) (by have := hc.1; omega) (by have := hc.1; omega)
  have hz_sf := hz_sf.sP (k := 1) (v := (some sf)) (o := o) (by have := hc.1; omega) (by have := hc.1; omega)
  have hc := hc.sP 1 (some sf)
  have hz0_nw := hz_nw
  have hz0_sf := hz_sf
  refine vv_aload_n hx dX3_init_26 rfl ?_
  refine vv_sipush (v := nI 150) hx dX3_init_27 (by decide) ?_
  refine vv_newq (j := 2) (z := 150) hx dX3_init_30 kc_X3_19 (by decide) (fun _ => rfl) (Or.inr rfl) rfl (by decide) rfl rfl (fun vs hvs => ?_)
  have hz_nw := hz_nw.new hvs 8 150
  have hz_sf := hz_sf.new hvs 8 150
  have ovs : o ≠ vs := fun e => by rw [← e] at hvs; exact absurd (hvs.symm.trans hc.1) (by decide)
  have hc := hc.new hvs 8 150
  have hvv := hc.vs
  have hz0_nw := hz_nw
  have hz0_sf := hz_sf
  refine vv_putrF 2 hx dX3_init_33 kf_X3_21 kl_3 (by decide) rfl rfl (hini rfl) rfl rfl rfl rfl hc.1 ?_
  have hz_nw := hz_nw.sP (k := 2) (v := (some vs)) (o := o) (by have := hc.1; omega) (by have := hc.1; omega)
  have hz_sf := hz_sf.sP (k := 2) (v := (some vs)) (o := o) (by have := hc.1; omega) (by have := hc.1; omega)
  have hvv := hvv.sP (k := 2) (v := (some vs)) ovs
  have hc := hc.sP 2 (some vs)
  have hz0_nw := hz_nw
  have hz0_sf := hz_sf
  refine vv_aload_n hx dX3_init_36 rfl ?_
  refine vv_iconst (v := nI 1) hx dX3_init_37 (by decide) ?_
  refine vv_puti 3 hx dX3_init_38 kf_X3_25 kl_3 (by decide) rfl rfl rfl hc.1 ?_
  have hz_nw := hz_nw.sI (k := 3) (v := (nI (1))) (o := o) (by have := hc.1; omega) (by have := hc.1; omega)
  have hz_sf := hz_sf.sI (k := 3) (v := (nI (1))) (o := o) (by have := hc.1; omega) (by have := hc.1; omega)
  have hvv := hvv.sI (k := 3) (v := (nI (1))) ovs
  have hc := hc.sI 3 (nI (1))
  have hz0_nw := hz_nw
  have hz0_sf := hz_sf
  refine vv_aload_n hx dX3_init_41 rfl ?_
  refine vv_iconst (v := nI 0) hx dX3_init_42 (by decide) ?_
  refine vv_puti 6 hx dX3_init_43 kf_X3_29 kl_3 (by decide) rfl rfl rfl hc.1 ?_
  have hz_nw := hz_nw.sI (k := 6) (v := (nI (0))) (o := o) (by have := hc.1; omega) (by have := hc.1; omega)
  have hz_sf := hz_sf.sI (k := 6) (v := (nI (0))) (o := o) (by have := hc.1; omega) (by have := hc.1; omega)
  have hvv := hvv.sI (k := 6) (v := (nI (0))) ovs
  have hc := hc.sI 6 (nI (0))
  have hz0_nw := hz_nw
  have hz0_sf := hz_sf
  refine vv_aload_n hx dX3_init_46 rfl ?_
  refine vv_iconst (v := nI 0) hx dX3_init_47 (by decide) ?_
  refine vv_puti 7 hx dX3_init_48 kf_X3_32 kl_3 (by decide) rfl rfl rfl hc.1 ?_
  have hz_nw := hz_nw.sI (k := 7) (v := (nI (0))) (o := o) (by have := hc.1; omega) (by have := hc.1; omega)
  have hz_sf := hz_sf.sI (k := 7) (v := (nI (0))) (o := o) (by have := hc.1; omega) (by have := hc.1; omega)
  have hvv := hvv.sI (k := 7) (v := (nI (0))) ovs
  have hc := hc.sI 7 (nI (0))
  have hz0_nw := hz_nw
  have hz0_sf := hz_sf
  refine vv_aload_n hx dX3_init_51 rfl ?_
  refine vv_iconst (v := nI 0) hx dX3_init_52 (by decide) ?_
  refine vv_puti 8 hx dX3_init_53 kf_X3_35 kl_3 (by decide) rfl rfl rfl hc.1 ?_
  have hz_nw := hz_nw.sI (k := 8) (v := (nI (0))) (o := o) (by have := hc.1; omega) (by have := hc.1; omega)
  have hz_sf := hz_sf.sI (k := 8) (v := (nI (0))) (o := o) (by have := hc.1; omega) (by have := hc.1; omega)
  have hvv := hvv.sI (k := 8) (v := (nI (0))) ovs
  have hc := hc.sI 8 (nI (0))
  have hz0_nw := hz_nw
  have hz0_sf := hz_sf
  refine vv_aload_n hx dX3_init_56 rfl ?_
  refine vv_iconst (v := -1) hx dX3_init_57 (by decide) ?_
  refine vv_puti 9 hx dX3_init_58 kf_X3_38 kl_3 (by decide) rfl rfl rfl hc.1 ?_
  have hz_nw := hz_nw.sI (k := 9) (v := ((-1))) (o := o) (by have := hc.1; omega) (by have := hc.1; omega)
  have hz_sf := hz_sf.sI (k := 9) (v := ((-1))) (o := o) (by have := hc.1; omega) (by have := hc.1; omega)
  have hvv := hvv.sI (k := 9) (v := ((-1))) ovs
  have hc := hc.sI 9 ((-1))
  have hz0_nw := hz_nw
  have hz0_sf := hz_sf
  refine vv_aload_n hx dX3_init_61 rfl ?_
  refine vv_iconst (v := -1) hx dX3_init_62 (by decide) ?_
  refine vv_puti 10 hx dX3_init_63 kf_X3_41 kl_3 (by decide) rfl rfl rfl hc.1 ?_
  have hz_nw := hz_nw.sI (k := 10) (v := ((-1))) (o := o) (by have := hc.1; omega) (by have := hc.1; omega)
  have hz_sf := hz_sf.sI (k := 10) (v := ((-1))) (o := o) (by have := hc.1; omega) (by have := hc.1; omega)
  have hvv := hvv.sI (k := 10) (v := ((-1))) ovs
  have hc := hc.sI 10 ((-1))
  have hz0_nw := hz_nw
  have hz0_sf := hz_sf
  refine vv_aload_n hx dX3_init_66 rfl ?_
  refine vv_iconst (v := nI 0) hx dX3_init_67 (by decide) ?_
  refine vv_puti 11 hx dX3_init_68 kf_X3_44 kl_3 (by decide) rfl rfl rfl hc.1 ?_
  have hz_nw := hz_nw.sI (k := 11) (v := (nI (0))) (o := o) (by have := hc.1; omega) (by have := hc.1; omega)
  have hz_sf := hz_sf.sI (k := 11) (v := (nI (0))) (o := o) (by have := hc.1; omega) (by have := hc.1; omega)
  have hvv := hvv.sI (k := 11) (v := (nI (0))) ovs
  have hc := hc.sI 11 (nI (0))
  have hz0_nw := hz_nw
  have hz0_sf := hz_sf
  refine vv_new (N := 4) hx dX3_init_71 kc_X3_19 kl_2 kn_X2 kz_X2 rfl rfl (fun v hv => ?_)
  have hz_nw := hz_nw.new hv 3 0
  have hz_sf := hz_sf.new hv 3 0
  have vvs : v ≠ vs := fun e => by rw [e] at hv; exact absurd (hv.symm.trans hvv.1) (by decide)
  have vo : v ≠ o := fun e => by rw [e] at hv; exact absurd (hv.symm.trans hc.1) (by decide)
  have hvv := hvv.new hv 3 0
  have hc := hc.new hv 3 0
  have hvk := hc.kd.1
  have hz0_nw := hz_nw
  have hz0_sf := hz_sf
  refine vv_dup hx dX3_init_74 rfl ?_
  refine vv_iconst (v := nI 0) hx dX3_init_75 (by decide) ?_
  refine vv_new (N := 3) hx dX3_init_76 kc_X3_7 kl_1 kn_X1 kz_X1 rfl rfl (fun st hst => ?_)
  refine vv_dup hx dX3_init_79 rfl ?_
  refine vv_callIN (As := []) hx dX3_init_80 km_X3_9 kq_X1_init rfl ki_X1_init (c_X1_init (by rw [mm_K_sN, if_pos rfl])) rfl rfl (Nat.le_of_ble_eq_true rfl) (by decide) (by decide) rfl rfl (vv_cv fun U hU => ?_)
  obtain ⟨q1, q2, hq1, hq2, hU⟩ := hU
  obtain ⟨u1, u2, hz_st⟩ := nst.z hc.2.2.2 hst hq1 hq2 hU
  have hc := hc.frF u2 u1
  have hz_nw := hz_nw.fr u2 (fun _ _ e => e)
  have hz_sf := hz_sf.fr u2 (fun _ _ e => e)
  have ne_st_nw : st ≠ nw := fun e => by rw [e] at hst; exact absurd (hst.symm.trans hz0_nw.1) (by decide)
  have ne_st_sf : st ≠ sf := fun e => by rw [e] at hst; exact absurd (hst.symm.trans hz0_sf.1) (by decide)
  have hvv := hvv.frF u2
  have hvk := (u2 v (by rw [hvk]; decide) (fun e => e)).1.trans hvk
  clear hU hq1 hq2
  have hz0_st := hz_st
  refine vv_iconst (v := nI 0) hx dX3_init_83 (by decide) ?_
  refine vv_newq (j := 1) (z := 0) hx dX3_init_84 kc_X3_47 (by decide) (fun _ => rfl) (Or.inl rfl) rfl (by decide) rfl rfl (fun f hf => ?_)
  have hz_nw := hz_nw.new hf 7 0
  have hz_sf := hz_sf.new hf 7 0
  have hz_st := hz_st.new hf 7 0
  have hvv := hvv.new hf 7 0
  have hc := hc.new hf 7 0
  have hvk := K_new (a := 2) hf hvk 7 0
  have hfk := hc.kd
  have hz0_nw := hz_nw
  have hz0_sf := hz_sf
  have hz0_st := hz_st
  refine vv_callIN (As := [.int (nI (0)), .ref st, .ref f]) hx dX3_init_87 km_X3_49 kq_X2_init rfl ki_X2_init (c_X2_init (v := nI 0) hvk) rfl rfl (Nat.le_of_ble_eq_true rfl) (by decide) (by decide) rfl rfl (vv_cv fun U hU => ?_)
  have hz_nw : stZ U nw := by rw [hU]; exact (((hz_nw.sI (o := v) (k := 3) (v := nI 0) (K_ne hvk (by decide)) (K_ne hvk (by decide))).sI (o := v) (k := 0) (v := nI 0) (K_ne hvk (by decide)) (K_ne hvk (by decide))).sP (o := v) (k := 1) (v := some st) (K_ne hvk (by decide)) (K_ne hvk (by decide))).sP (K_ne hvk (by decide)) (K_ne hvk (by decide))
  have hz_sf : stZ U sf := by rw [hU]; exact (((hz_sf.sI (o := v) (k := 3) (v := nI 0) (K_ne hvk (by decide)) (K_ne hvk (by decide))).sI (o := v) (k := 0) (v := nI 0) (K_ne hvk (by decide)) (K_ne hvk (by decide))).sP (o := v) (k := 1) (v := some st) (K_ne hvk (by decide)) (K_ne hvk (by decide))).sP (K_ne hvk (by decide)) (K_ne hvk (by decide))
  have hz_st : stZ U st := by rw [hU]; exact (((hz_st.sI (o := v) (k := 3) (v := nI 0) (K_ne hvk (by decide)) (K_ne hvk (by decide))).sI (o := v) (k := 0) (v := nI 0) (K_ne hvk (by decide)) (K_ne hvk (by decide))).sP (o := v) (k := 1) (v := some st) (K_ne hvk (by decide)) (K_ne hvk (by decide))).sP (K_ne hvk (by decide)) (K_ne hvk (by decide))
  have hc := hc.same (U := U) (by rw [hU]; rfl) (fun k => by rw [hU, mm_I_sP, mm_I_sP, mm_I_a (Ne.symm vo), mm_I_a (Ne.symm vo)]) (fun k => by rw [hU, mm_P_sP, if_neg (fun e => vo e.1.symm), mm_P_sP, if_neg (fun e => vo e.1.symm), mm_P_sI, mm_P_sI]) (by rw [hU]; exact UQ.sPo (UQ.sPo hc.2.2.2 (K_ne hvk (by decide)) (K_ne hvk (by decide))) (K_ne hvk (by decide)) (K_ne hvk (by decide)))
  have hvv : vsZ U vs := by
    rw [hU]
    exact (((hvv.sI vvs).sI vvs).sP vvs).sP vvs
  have hvw : mm_K U v = 3 ∧ mm_I U v 0 = nI 0 ∧ mm_I U v 3 = nI 0 ∧ mm_P U v 1 = some st ∧ mm_P U v 2 = some f := by
    rw [hU]
    refine ⟨hvk, ?_, ?_, ?_, ?_⟩
    · rw [mm_I_sP, mm_I_sP, mm_I_s]
    · rw [mm_I_sP, mm_I_sP, mm_I_k (by decide), mm_I_s]
    · rw [mm_P_sP, if_neg (fun e => by omega), mm_P_sP, if_pos ⟨rfl, rfl⟩]
    · rw [mm_P_sP, if_pos ⟨rfl, rfl⟩]
  have hfk : mm_K U f = 7 ∧ mm_L U f = 0 := by rw [hU]; exact hfk
  clear hU hvk
  refine vv_astore_n (lv' := [(0, .ref o), (1, .ref v)]) hx dX3_init_90 (by decide) rfl rfl ?_
  refine vv_aload_n hx dX3_init_91 rfl ?_
  refine vv_getr (b := vs) 2 hx dX3_init_92 kf_X3_21 kl_3 (by decide) rfl hc.1 (hc.2.2.1 2) ?_
  refine vv_iconst (v := nI 0) hx dX3_init_95 (by decide) ?_
  refine vv_aload_n hx dX3_init_96 rfl ?_
  refine vv_aast (j := 2) hx dX3_init_97 hvv.1 (by decide) (fun _ => rfl) rfl (by rw [hvv.2.1]; decide) (by rw [hvv.2.1]; decide) kl_2 hvw.1 ?_
  refine vv_aload_n hx dX3_init_98 rfl ?_
  refine vv_aload_n hx dX3_init_99 rfl ?_
  refine vv_putr 4 hx dX3_init_100 kf_X3_52 kl_3 (by decide) rfl rfl rfl rfl rfl hc.1 ?_
  refine vv_aload_n hx dX3_init_103 rfl ?_
  refine vv_aload_n hx dX3_init_104 rfl ?_
  refine vv_putr 5 hx dX3_init_105 kf_X3_56 kl_3 (by decide) rfl rfl rfl rfl rfl hc.1 ?_
  exact vv_vret hx he dX3_init_108 ⟨rfl, nw, sf, vs, fun _ => v, by
  have hc2 := hc.same (U := mm_sP U vs 0 (some v)) rfl (fun k => rfl) (fun k => by rw [mm_P_sP, if_neg (fun e => ovs e.1)]) (hc.2.2.2.sPo (K_ne hvv.1 (by decide)) (K_ne hvv.1 (by decide)))
  have hc3 := (hc2.sP 4 (some v)).sP 5 (some v)
  have zz : ∀ a, stZ U a → stZ (mm_sP (mm_sP (mm_sP U vs 0 (some v)) o 4 (some v)) o 5 (some v)) a := fun a h => ((h.sP (o := vs) (k := 0) (v := some v) (K_ne hvv.1 (by decide)) (K_ne hvv.1 (by decide))).sP (o := o) (k := 4) (v := some v) (K_ne hc.1 (by decide)) (K_ne hc.1 (by decide))).sP (K_ne hc.1 (by decide)) (K_ne hc.1 (by decide))
  have pp : ∀ y k, y ≠ o → y ≠ vs → mm_P (mm_sP (mm_sP (mm_sP U vs 0 (some v)) o 4 (some v)) o 5 (some v)) y k = mm_P U y k := fun y k h1 h2 => by rw [mm_P_sP, if_neg (fun e => h1 e.1), mm_P_sP, if_neg (fun e => h1 e.1), mm_P_sP, if_neg (fun e => h2 e.1)]
  exact Rel.ini (v := v) hc3 rfl rfl rfl rfl rfl rfl rfl rfl rfl rfl rfl rfl (Ne.symm ne_sf_nw) (zz nw hz_nw) (zz sf hz_sf) hvv.1 hvv.2.1 (by rw [mm_P_sP, if_neg (fun e => ovs e.1.symm), mm_P_sP, if_neg (fun e => ovs e.1.symm), mm_P_sP, if_pos ⟨rfl, rfl⟩]) (fun k hk => by rw [mm_P_sP, if_neg (fun e => ovs e.1.symm), mm_P_sP, if_neg (fun e => ovs e.1.symm), mm_P_sP, if_neg (fun e => hk e.2)]; exact hvv.2.2 k) hvw.1 hvw.2.1 hvw.2.2.1 ((pp v 1 vo vvs).trans hvw.2.2.2.1) ((pp v 2 vo vvs).trans hvw.2.2.2.2) ne_st_nw ne_st_sf (zz st hz_st) hfk.1 hfk.2⟩
