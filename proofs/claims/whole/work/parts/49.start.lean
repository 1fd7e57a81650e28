def mm_0 : mm_H := (fun _ => 0, fun _ _ => 0, fun _ _ => none, fun _ => 0)
theorem UQ_0 : UQ mm_0 := ⟨fun a b i j c h => by rcases h with h | h <;> exact absurd (show 0 = _ from h) (by decide), fun a i c h => by rcases h with h | h <;> exact absurd (show 0 = _ from h) (by decide)⟩
theorem mdj_0 : mdj mm_0 mm_0 := fun _ => Or.inl rfl
theorem mj_newR {S R : mm_H} {q kd n : Nat} (hq : mm_K (mj S R) q = 0) : meq (mm_sN (mj S R) q kd n) (mj S (mm_sN R q kd n)) := fun a => by
  have hS : mm_K S q = 0 := by
    rw [mj_K] at hq
    by_cases e : mm_K S q = 0
    · exact e
    · rw [if_neg e] at hq; exact absurd hq e
  by_cases e : a = q
  · subst e
    refine ⟨by rw [mj_K, if_pos hS, mm_K_sN, mm_K_sN, if_pos rfl, if_pos rfl], fun _ => ⟨fun k => ?_, fun k => ?_, ?_⟩⟩
    · rw [mj_I, if_pos hS, mm_I_sN, mm_I_sN, if_pos rfl, if_pos rfl]
    · rw [mj_P, if_pos hS, mm_P_sN, mm_P_sN, if_pos rfl, if_pos rfl]
    · rw [mj_L, if_pos hS, mm_L_sN, mm_L_sN, if_pos rfl, if_pos rfl]
  · refine ⟨by rw [mj_K, mm_K_sN, if_neg e, mj_K, mm_K_sN, if_neg e], fun _ => ⟨fun k => ?_, fun k => ?_, ?_⟩⟩
    · rw [mj_I, mm_I_sN, if_neg e, mj_I, mm_I_sN, if_neg e]
    · rw [mj_P, mm_P_sN, if_neg e, mj_P, mm_P_sN, if_neg e]
    · rw [mj_L, mm_L_sN, if_neg e, mj_L, mm_L_sN, if_neg e]
theorem mdj.newR {S R : mm_H} (h : mdj S R) {q kd n : Nat} (hq : mm_K (mj S R) q = 0) : mdj S (mm_sN R q kd n) := fun a => by
  by_cases e : a = q
  · left
    rw [e]
    rw [mj_K] at hq
    by_cases e2 : mm_K S q = 0
    · exact e2
    · rw [if_neg e2] at hq; exact absurd hq e2
  · rw [mm_K_sN, if_neg e]; exact h a
set_option maxRecDepth 100000 in
set_option maxHeartbeats 4000000 in
theorem law_entry {x : vv_X} {b L : Nat} {xs : Nat → Int32} (hx : vv_C x cL_law RL 9 296 4) (hB : vv_B x b L xs) (hL5 : L ≤ 2560) (hE : ∀ kc ks lv S, vv_V x kc ks 611 lv [.int (nI 1)] S) : vv_V x 5142 52525 0 [(0, .ref b)] [] (mj mm_0 mm_0) := by
  refine vv_new (N := 12) hx dL_law_0 kc_L_7 kl_3 kn_X3 kz_X3 rfl rfl (fun o ho => ?_)
  refine vv_eqv (mj_new (by decide)) ?_
  have hdj : mdj (mm_sN mm_0 o 4 0) mm_0 := mdj_0.new ho
  have hc : cni (mm_sN mm_0 o 4 0) o (fun _ => 0) (fun _ => none) := ⟨by rw [mm_K_sN, if_pos rfl], fun k => by rw [mm_I_sN, if_pos rfl], fun k => by rw [mm_P_sN, if_pos rfl], UQ_0.sN rfl 4 0⟩
  refine vv_dup hx dL_law_3 rfl ?_
  refine ff_callI (As := []) hx dL_law_4 km_L_9 kq_X3_init rfl ki_X3_init (c_X3_init hc (fun _ _ => 0) (fun _ => 0)) hdj rfl rfl (Nat.le_of_ble_eq_true rfl) (by decide) (by decide) rfl rfl (ff_cv fun S hS hdj => ?_)
  obtain ⟨nw, sf, vs, va, hL⟩ := hS
  refine vv_astore_n (lv' := [(0, .ref b), (1, .ref o)]) hx dL_law_7 (by decide) rfl rfl ?_
  refine vv_new (N := 18) hx dL_law_8 kc_L_10 kl_4 kn_X4 kz_X4 rfl rfl (fun r hr => ?_)
  refine vv_eqv (mj_newR hr) ?_
  have hdj : mdj S (mm_sN mm_0 r 5 0) := hdj.newR hr
  have hP : xx_P (mm_sN mm_0 r 5 0) r (fun _ => 0) (fun _ => false) (fun _ => 0) := ⟨by rw [mm_K_sN, if_pos rfl], fun f h => (by cases h), fun f g h => (by cases h), fun f => by rw [mm_I_sN, if_pos rfl]⟩
  refine vv_dup hx dL_law_11 rfl ?_
  refine ff_sy hdj (fun hdj => ?_)
  refine ff_callI (As := []) hx dL_law_12 km_L_12 kq_X4_init rfl ki_X4_init (c_X4_init hP) hdj rfl rfl (Nat.le_of_ble_eq_true rfl) (by decide) (by decide) rfl rfl (ff_cv fun R hR hdj => ?_)
  refine ff_sy hdj (fun hdj => ?_)
  obtain ⟨ad, hR⟩ := hR
  refine vv_astore_n (lv' := [(0, .ref b), (1, .ref o), (2, .ref r)]) hx dL_law_15 (by decide) rfl rfl ?_
  refine vv_iconst (v := nI 0) hx dL_law_16 (by decide) ?_
  refine vv_istore_n (lv' := [(0, .ref b), (1, .ref o), (2, .ref r), (3, .int (nI (0)))]) hx dL_law_17 (by decide) rfl rfl ?_
  exact law_loop hx hB hL5 hE 512 0 S R xx_0 (fun _ _ => 0) nw sf vs 0 va (fun _ => 0) ad rfl hL hR hdj (fun j => Nat.le_refl 0) (Nat.le_refl 0)
theorem kj_i : Cond.arrayClass .int ∈ lw_tbl := List.mem_append_right _ (List.mem_append_left _ (List.mem_of_getElem? (i := 36) rfl))
theorem kj_v : Cond.arrayOver (.object "LiveViews$View") ∈ lw_tbl := List.mem_append_right _ (List.mem_append_left _ (List.mem_of_getElem? (i := 38) rfl))
theorem kj_s : Cond.arrayOver (.object "LiveViews$Segment") ∈ lw_tbl := List.mem_append_right _ (List.mem_append_left _ (List.mem_of_getElem? (i := 41) rfl))
theorem law_known {s : State} {b : Nat} (hts : ∀ w ∈ lw_tbl, w.before #[Value.ref b] s = true) : ∃ (D : va_G) (dA : Nat → ClassId), va_K D vwCl (mm_ty dA) s := by
  obtain ⟨c0, i0, k0⟩ := u_known (C := RX0) (T := TX0) (N := 4) (n := 4) hts (fun w hw => (kl_0.2.2.2.2.1 w hw).1) (hts _ kn_X0)
  obtain ⟨c1, i1, k1⟩ := u_known (C := RX1) (T := TX1) (N := 3) (n := 3) hts (fun w hw => (kl_1.2.2.2.2.1 w hw).1) (hts _ kn_X1)
  obtain ⟨c2, i2, k2⟩ := u_known (C := RX2) (T := TX2) (N := 4) (n := 4) hts (fun w hw => (kl_2.2.2.2.2.1 w hw).1) (hts _ kn_X2)
  obtain ⟨c3, i3, k3⟩ := u_known (C := RX3) (T := TX3) (N := 12) (n := 12) hts (fun w hw => (kl_3.2.2.2.2.1 w hw).1) (hts _ kn_X3)
  obtain ⟨c4, i4, k4⟩ := u_known (C := RX4) (T := TX4) (N := 18) (n := 18) hts (fun w hw => (kl_4.2.2.2.2.1 w hw).1) (hts _ kn_X4)
  obtain ⟨ca, ka, compa, a1, a2, a3⟩ := Cond.arrayClass_spec (hts _ kj_i)
  obtain ⟨compb, cb, kb, b1, -, b2, b3, b4⟩ := Cond.arrayOver_spec (hts _ kj_s)
  obtain ⟨compv, cv, kv, v1, -, v2, v3, v4⟩ := Cond.arrayOver_spec (hts _ kj_v)
  refine ⟨(fun k => if k = 0 then c0 else if k = 1 then c1 else if k = 2 then c2 else if k = 3 then c3 else c4, fun k => if k = 0 then i0 else if k = 1 then i1 else if k = 2 then i2 else if k = 3 then i3 else i4), fun k => if k = 0 then ca else if k = 1 then cb else cv, fun k q hq => ?_, fun k q hq => ?_⟩
  · match k, hq with
    | 0, hq => cases hq; exact k0
    | 1, hq => cases hq; exact k1
    | 2, hq => cases hq; exact k2
    | 3, hq => cases hq; exact k3
    | 4, hq => cases hq; exact k4
    | k + 5, hq => exact absurd hq (by simp [vwCl])
  · match k, hq with
    | 0, hq => cases hq; exact ⟨fun n z => ⟨fun k h => (by cases h), ka, a2, compa, a3⟩, a1⟩
    | 1, hq => cases hq; exact ⟨fun n z => ⟨fun k h => (by cases h), kb, b2, compb, b3⟩, kb, compb, b2, b3, b1, b4⟩
    | 2, hq => cases hq; exact ⟨fun n z => ⟨fun k h => (by cases h), kv, v2, compv, v3⟩, kv, compv, v2, v3, v1, v4⟩
    | k + 3, hq => exact absurd hq (by simp [mm_ty])
theorem law_Tb {s : State} {b : Nat} (hts : ∀ w ∈ lw_tbl, w.before #[Value.ref b] s = true) : Tb s := ⟨fun w hw hk => va_Nw.of (tb_on hk) (hts w hw), fun B => word_at (State.WarmedH.refl s) (Or.inr ⟨.int, rfl⟩) (hts _ kj_i), va_AO.of (hts _ kj_s), va_AO.of (hts _ kj_v)⟩
set_option maxRecDepth 100000 in
set_option maxHeartbeats 4000000 in
theorem whole_start {p : Program} {e : Env} {s : State} {m : MethodId} {below : List Frame} {meth : Method} {c : Code} (l : Launch) {b L : Nat} {xs : Nat → Int32} (hL : L ≤ 2560) (C0 : lw_At p s m meth c b L xs) : W p l e room_1 s m #[Value.ref b] below meth c s.heap [] 0 0 (lw_Z below #[Value.ref b] s) (entryFrame m ([Value.ref b] : List Value).toArray 4) := by
  obtain ⟨hx, hb, hr, hml, hown, hts, hX, hbl, hlocks, hgv⟩ := id C0
  obtain ⟨D, dA, hK⟩ := law_known hts
  have hC : vv_C (p, l, e, room_1, s, m, #[Value.ref b], below, meth, c, D, dA, 4, (fun q : Nat => s.heap.size ≤ q), lw_Z below #[Value.ref b] s) cL_law RL 9 296 4 := ⟨hx, hb, hml, hown, law_Tb hts, hK, fun _ h => h, rfl, rfl, hlocks, rfl⟩
  have hB : vv_B (p, l, e, room_1, s, m, #[Value.ref b], below, meth, c, D, dA, 4, (fun q : Nat => s.heap.size ≤ q), lw_Z below #[Value.ref b] s) b L xs := ⟨hX, hbl, Nat.not_le.mpr hbl⟩
  have hE : ∀ kc ks lv S, vv_V (p, l, e, room_1, s, m, #[Value.ref b], below, meth, c, D, dA, 4, (fun q : Nat => s.heap.size ≤ q), lw_Z below #[Value.ref b] s) kc ks 611 lv [.int (nI 1)] S := fun kc ks lv S ws H locs cells slots ls hP hD hM hS hc hs hl' => by
    have hc : cells + kc ≤ 600000 := hc
    have hs : slots + ks ≤ 7302250 := hs
    refine va_forget (fun q hq => hS.2.2 q hq) ?_
    refine W.widen (k := 600000) (n := 7302250) (by omega) (by omega) ?_
    exact lw_ret hx hb hr hlocks dL_law_611
  have hl := lv_entry ([.ref b]) (n := 4) (Nat.le_of_ble_eq_true rfl)
  rw [lg_entry_eq]
  generalize (lg_sl ([.ref b]) ++ List.replicate (4 - (lg_sl ([.ref b])).length) Slot.unset).toArray = ls at hl ⊢
  have hl : lv_has ls 4 [(0, .ref b)] := hl
  exact law_entry hC hB hL hE [] s.heap [] 0 0 ls (fun k q h => by simp at h) ⟨fun i j p q h => by simp at h, fun k q h => by simp at h⟩ (fun a e => ⟨fun h => (by cases h), fun h => absurd rfl h.1⟩) va_S.rf (Nat.le_of_ble_eq_true rfl) (Nat.le_of_ble_eq_true rfl) hl
