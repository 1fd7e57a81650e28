theorem sgN.base {S T U : mm_H} {g a k : Nat} {w : Nat → Nat} (h : sgN T U g a k w) (hb : ∀ x, mm_K T x = 0 → mm_K S x = 0) : sgN S U g a k w := by
  obtain ⟨h1, h2, h3, h4, h5, c, h6, h7, h8⟩ := h
  exact ⟨hb _ h1, h2, h3, h4, h5, c, h6, hb _ h7, h8⟩
theorem sgN.frM {S T U : mm_H} {M : Nat → Prop} {g a k : Nat} {w : Nat → Nat} (h : sgN S T g a k w) (hF : Fr T U M) (hM : ∀ x, mm_K T x = 1 ∨ mm_K T x = 6 → ¬ M x) : sgN S U g a k w := by
  obtain ⟨h1, h2, h3, h4, h5, c, h6, h7, h8, h9, h10⟩ := h
  obtain ⟨g1, g2, g3, g4⟩ := hF g (by omega) (hM g (Or.inl h2))
  obtain ⟨c1, c2, c3, c4⟩ := hF c (by omega) (hM c (Or.inr h8))
  exact ⟨h1, g1.trans h2, (g2 0).trans h3, (g2 2).trans h4, (g2 3).trans h5, c, (g3 1).trans h6, h7, c1.trans h8, c4.trans h9, fun j hj => (c2 j).trans (h10 j hj)⟩
theorem l1N_nw {X : xx_X} {W : Nat → Nat → Nat} (h : xInv X W) (h3 : ¬ l1N X W ≤ 3) : nwB X = true ∧ l1N X W = 3 + 1 ∧ X.2.1 12 (X.1 15) = 3 := by
  have h1 := h.1.2.2.2.2.2.2.2.2.2.2.2.2.1 (X.1 15)
  have h2 := cntN_le (keepB X W) (X.2.1 12 (X.1 15))
  have h4 := l1N_le h
  cases hb : nwB X with
  | true =>
    refine ⟨rfl, by omega, ?_⟩
    unfold l1N kcN at h3
    rw [hb] at h3
    simp at h3
    omega
  | false =>
    exfalso
    unfold l1N kcN at h3
    rw [hb] at h3
    simp at h3
    omega
set_option maxRecDepth 100000 in
set_option maxHeartbeats 4000000 in
theorem l_X3_rl4 {S : mm_H} {X : xx_X} {W : Nat → Nat → Nat} {o nw sf vs cn : Nat} {va ga : Nat → Nat} (hL : RelP S X W o nw sf vs cn va ga) {q : Nat → Nat} {T : mm_H} {rw g1 g2 : Nat} {x : vv_X} (hx : vv_C x cX3_refreshLatest RX3 5 112 4) (he : vv_E x none (fun zz S' => zz = none ∧ (fun S' => (newsB X = false ∧ S' = S) ∨ (newsB X = true ∧ ∃ q g1 g2 v, qOK X W q ∧ rnC S S' X W o vs ga q g1 g2 v)) S')) (hnews : newsB X = true) (h10 : X.1 10 < 150) (hq : qOK X W q) (hG : gR S T o rw (X.1 6 + (if l1N X W ≤ 3 then (bif nwB X then 1 else 0) else 2)) (X.1 9 + (newcN X + if l1N X W ≤ 3 then 0 else cntN (nz (mwq X W q)) 16))) (hr0 : mm_K S rw = 0) (hrK : mm_K T rw = 7) (hrL : nvN X W ≤ mm_L T rw) (hrL4 : mm_L T rw ≤ 4) (hrE : ∀ t, t < nvN X W → mm_P T rw t = some (ga2 X ga g1 g2 (nvq X W q t))) (hgK : ∀ t, t < nvN X W → mm_K T (ga2 X ga g1 g2 (nvq X W q t)) = 1) (hN1 : nwB X = true → sgN S T g1 (X.1 6) 16 (newW X)) (hN2 : ¬ l1N X W ≤ 3 → sgN S T g2 (X.1 6 + 1) 16 (mwq X W q)) : vv_V x 5 43 135 [(0, .ref o), (1, .ref rw), (2, .int (nI (nvN X W)))] [] T := by
  obtain ⟨⟨hoK, hoP0, hoP1, hoP2, hoI3, hoP4, hoP5, hoI6, hoI7, hoI8, hoI9, hoI10, hoI11⟩, hns, hnw, hsf, hvK, hvL, hvp, hview, hsegs, hUQ, hXI⟩ := id hL
  obtain ⟨hk, hbd, hw0, hc9, hm3, hcs, hheld⟩ := id hXI
  obtain ⟨k0, k1, k2, k3, k4, k5, k6, k7, k8, k9, k10, k11, k12, k13⟩ := id hk
  refine vv_aload_n hx dX3_refreshLatest_135 rfl ?_
  refine vv_aload_n hx dX3_refreshLatest_136 rfl ?_
  refine vv_iload_n hx dX3_refreshLatest_137 rfl ?_
  refine vv_callS (As := [.ref rw, .int (nI (nvN X W))]) hx dX3_refreshLatest_138 km_X3_173 kq_X3_firstOf kt_X3_firstOf (c_X3_firstOf hrK hrL hrL4 hrE hgK) rfl rfl (Nat.le_of_ble_eq_true rfl) (by decide) (by decide) rfl rfl (vv_cr fun z U hz => ?_)
  obtain ⟨f, rfl, hf0, hFr, hfK, hfL, hfE, hfU⟩ := hz
  show vv_V x 4 39 _ _ (.ref f :: _) U
  have hGU := (hG.old hr0).frF hFr (hfU hG.2.2.2.2.2.2)
  have hf1 := hG.fresh (by omega) hf0
  have ovs : vs ≠ o := fun e => by rw [e] at hvK; omega
  have hvU := hGU.1 vs (by omega) (fun e => by rcases e with e | e <;> exact ovs e)
  have hoKU := hGU.2.1
  refine vv_callV (As := [.ref f]) hx dX3_refreshLatest_141 km_X3_177 kq_X3_addView ki_X3_addView ks_X3_addView kl_3 hoKU (c_X3_addView hGU.2.1 ((hGU.2.2.1 0).trans hoP0) (hGU.st hoK (Or.inl rfl) hnw) ((hGU.2.2.1 2).trans hoP2) (hvU.1.trans hvK) (hvU.2.2.2.trans hvL) ((hGU.2.2.2.1 3 (by decide) (by decide)).trans hoI3) h10 hGU.2.2.2.2.2.2) rfl rfl (Nat.le_of_ble_eq_true rfl) (by decide) (by decide) rfl rfl (vv_cv fun S' hA => ?_)
  obtain ⟨st, v, hA⟩ := hA
  exact vv_vret hx he dX3_refreshLatest_144 ⟨rfl, Or.inr ⟨hnews, q, g1, g2, v, hq, U, f, st, hGU, hf1, hfK, hfL, hfE, fun h => (hN1 h).frM hFr (fun _ _ e => e), fun h => (hN2 h).frM hFr (fun _ _ e => e), hA⟩⟩
set_option maxRecDepth 100000 in
set_option maxHeartbeats 4000000 in
theorem l_X3_rl3 {S : mm_H} {X : xx_X} {W : Nat → Nat → Nat} {o nw sf vs cn : Nat} {va ga : Nat → Nat} (hL : RelP S X W o nw sf vs cn va ga) {q : Nat → Nat} {T : mm_H} {rw g1 : Nat} {x : vv_X} (hx : vv_C x cX3_refreshLatest RX3 5 112 4) (he : vv_E x none (fun zz S' => zz = none ∧ (fun S' => (newsB X = false ∧ S' = S) ∨ (newsB X = true ∧ ∃ q g1 g2 v, qOK X W q ∧ rnC S S' X W o vs ga q g1 g2 v)) S')) (hnews : newsB X = true) (h10 : X.1 10 < 150) (hq : qOK X W q) (hG : gR S T o rw (X.1 6 + (bif nwB X then 1 else 0)) (X.1 9 + newcN X)) (hr0 : mm_K S rw = 0) (hrK : mm_K T rw = 7) (hrL : mm_L T rw = X.2.1 12 (X.1 15) + 1) (hrE : ∀ t, t < l1N X W → mm_P T rw t = some (ga2 X ga g1 0 (q t))) (hN1 : nwB X = true → sgN S T g1 (X.1 6) 16 (newW X)) : vv_V x 7 63 118 [(0, .ref o), (1, .ref rw), (2, .int (nI (l1N X W)))] [] T := by
  obtain ⟨⟨hoK, hoP0, hoP1, hoP2, hoI3, hoP4, hoP5, hoI6, hoI7, hoI8, hoI9, hoI10, hoI11⟩, hns, hnw, hsf, hvK, hvL, hvp, hview, hsegs, hUQ, hXI⟩ := id hL
  obtain ⟨hk, hbd, hw0, hc9, hm3, hcs, hheld⟩ := id hXI
  obtain ⟨k0, k1, k2, k3, k4, k5, k6, k7, k8, k9, k10, k11, k12, k13⟩ := id hk
  have hm9 := k12 (X.1 15)
  have l4 := l1N_le hXI
  have hkc := cntN_le (keepB X W) (X.2.1 12 (X.1 15))
  have hl1 : l1N X W ≤ X.2.1 12 (X.1 15) + 1 := by unfold l1N kcN; cases nwB X <;> simp <;> omega
  have hqle : ∀ t, t < l1N X W → q t ≤ X.1 6 := fun t ht => by
    rcases hq.at ht with ⟨j, hj, -, -, e⟩ | ⟨-, -, e⟩
    · have := ((hheld _ k3 held_lt.1).2.1 j hj).1; omega
    · omega
  have ga0 : ∀ g2 s, s ≤ X.1 6 → ga2 X ga g1 g2 s = ga2 X ga g1 0 s := fun g2 s hs => by
    unfold ga2
    by_cases e : s = X.1 6
    · rw [if_pos e, if_pos e]
    · rw [if_neg e, if_neg e, if_neg (by omega), if_neg (by omega)]
  have hsg : ∀ t, t < l1N X W → sgA T (ga2 X ga g1 0 (q t)) (q t) (cntN (nz (W1 X W (q t))) 16) (W1 X W (q t)) := fun t ht => by
    rcases hq.at ht with ⟨j, hj, -, -, e⟩ | ⟨hb, -, e⟩
    · have p1 := ((hheld _ k3 held_lt.1).2.1 j hj).1
      rw [e, ga2_o p1, show W1 X W (X.2.1 13 (4 * X.1 15 + j)) = W (X.2.1 13 (4 * X.1 15 + j)) by unfold W1; rw [if_neg (by omega)]]
      exact ((hG.old hr0).sg hoK (Or.inl rfl) (hsegs _ k3 held_lt.1 j hj).1).1
    · rw [e, show ga2 X ga g1 0 (X.1 6) = g1 by unfold ga2; rw [if_pos rfl], show W1 X W (X.1 6) = newW X by unfold W1; rw [if_pos rfl]]
      exact (hN1 hb).sg (fun k => Nat.le_trans (newW_le X k) k0)
  refine vv_iload_n hx dX3_refreshLatest_118 rfl ?_
  refine vv_iconst (v := nI 3) hx dX3_refreshLatest_119 (by decide) ?_
  refine vv_icmp_leN (tgt := 135) hx dX3_refreshLatest_120 (by decide) (by omega) (by omega) (fun c_120 => ?_) (fun c_120 => ?_)
  · have hnv : nvN X W = l1N X W := by unfold nvN; rw [if_pos c_120]
    have hnq : ∀ t, nvq X W q t = q t := fun t => by unfold nvq; rw [if_pos c_120]
    rw [← hnv]
    refine vv_room (kc' := 5) (ks' := 43) (by decide) (by decide) ?_
    exact l_X3_rl4 hL hx he hnews h10 hq (g2 := 0) (by rw [if_pos c_120, if_pos c_120]; exact hG) hr0 hrK (by rw [hrL, hnv]; omega) (by omega) (fun t ht => by rw [hnq]; exact hrE t (by omega)) (fun t ht => by rw [hnq]; exact (hsg t (by omega)).1) hN1 (fun h => absurd c_120 h)
  · have c_120' := c_120
    obtain ⟨hnb, hl4, hm3'⟩ := l1N_nw hXI c_120
    rw [hl4]
    have hnv : nvN X W = 3 := by unfold nvN; rw [if_neg c_120]
    refine vv_aload_n hx dX3_refreshLatest_123 rfl ?_
    refine vv_aload_n hx dX3_refreshLatest_124 rfl ?_
    refine vv_iload_n hx dX3_refreshLatest_125 rfl ?_
    refine vv_callV (As := [.ref rw, .int (nI (3 + 1))]) hx dX3_refreshLatest_126 km_X3_169 kq_X3_mergeFewest ki_X3_mergeFewest ks_X3_mergeFewest kl_3 hG.2.1 (c_X3_mergeFewest (a := X.1 6 + 1) (b := X.1 9 + newcN X) (gr := fun t => ga2 X ga g1 0 (q t)) (sn := q) (rn := fun t => cntN (nz (W1 X W (q t))) 16) (ws := fun t => W1 X W (q t)) hG.2.1 ((hG.2.2.1 0).trans hoP0) ((hG.old hr0).st hoK (Or.inl rfl) hnw) (by have h9 := hG.2.2.2.2.1; rw [hnb] at h9; exact h9) hG.2.2.2.2.2.1 hG.2.2.2.2.2.2 hrK (by rw [hrL, hm3']) (fun t ht => hrE t (by omega)) (fun t ht => hsg t (by omega)) (fun t ht => by rw [fqN_eq]; exact sumq_le hXI hq (by omega))) rfl rfl (Nat.le_of_ble_eq_true rfl) (by decide) (by decide) rfl rfl (vv_cv fun U hU => ?_)
    rw [fqN_eq] at hU
    simp only [lwW_eq] at hU
    have hU : ∃ g2, gR T U o rw (X.1 6 + 1 + 1) (X.1 9 + newcN X + cntN (nz (mwq X W q)) 16) ∧ mm_K U rw = 7 ∧ mm_L U rw = 4 ∧ (∀ t, t < 3 → mm_P U rw t = some (if t < bestq X W q then ga2 X ga g1 0 (q t) else if t = bestq X W q then g2 else ga2 X ga g1 0 (q (t + 1)))) ∧ sgN T U g2 (X.1 6 + 1) 16 (mwq X W q) := hU
    obtain ⟨g2, hGU, hrKU, hrLU, hrEU, hN2⟩ := hU
    have hGS := hG.trans hGU
    have hN2S : sgN S U g2 (X.1 6 + 1) 16 (mwq X W q) := hN2.base (fun y hy => hG.fresh (by omega) hy)
    have hN1S : sgN S U g1 (X.1 6) 16 (newW X) := (hN1 hnb).frM hGU.1 (fun y hy e => by
      rcases e with e | e
      · have := hG.2.1; rw [e] at hy; omega
      · rw [e] at hy; omega)
    have b2 := best_le X W q
    have hGS3 : ∀ t, t < 4 → sgA U (ga2 X ga g1 0 (q t)) (q t) (cntN (nz (W1 X W (q t))) 16) (W1 X W (q t)) := fun t ht => (hGU.sg hG.2.1 (Or.inr hrK) (hsg t (by omega))).1
    have hE2 : ∀ t, t < 3 → (if t < bestq X W q then ga2 X ga g1 0 (q t) else if t = bestq X W q then g2 else ga2 X ga g1 0 (q (t + 1))) = ga2 X ga g1 g2 (nvq X W q t) := fun t ht => by
      unfold nvq
      rw [if_neg c_120]
      unfold tgt
      by_cases e1 : t < bestq X W q
      · rw [if_pos e1, if_pos e1, ga0 g2 _ (hqle t (by omega))]
      · rw [if_neg e1, if_neg e1]
        by_cases e2 : t = bestq X W q
        · rw [if_pos e2, if_pos e2]
          unfold ga2
          rw [if_neg (by omega), if_pos rfl]
        · rw [if_neg e2, if_neg e2, ga0 g2 _ (hqle (t + 1) (by omega))]
    refine vv_iinc (u := (nI (3))) (lv' := [(0, .ref o), (1, .ref rw), (2, .int (nI (3)))]) hx dX3_refreshLatest_129 rfl (pk_m1 _) (by decide) rfl rfl ?_
    refine vv_goto (tgt := 118) hx dX3_refreshLatest_132 (by decide) ?_
    refine vv_iload_n hx dX3_refreshLatest_118 rfl ?_
    refine vv_iconst (v := nI 3) hx dX3_refreshLatest_119 (by decide) ?_
    refine vv_icmp_leN (tgt := 135) hx dX3_refreshLatest_120 (by decide) (by omega) (by omega) (fun c_120 => ?_) (fun c_120 => ?_)
    · rw [← hnv]
      exact l_X3_rl4 hL hx he hnews h10 hq (g2 := g2) (by rw [if_neg c_120', if_neg c_120', ← Nat.add_assoc]; exact hGS) hr0 hrKU (by omega) (by omega) (fun t ht => by rw [hrEU t (by omega), hE2 t (by omega)]) (fun t ht => by
        have h9 := hrEU t (by omega)
        rw [← hE2 t (by omega)]
        by_cases e1 : t < bestq X W q
        · rw [if_pos e1]; exact (hGS3 t (by omega)).1
        · rw [if_neg e1]
          by_cases e2 : t = bestq X W q
          · rw [if_pos e2]; exact hN2.2.1
          · rw [if_neg e2]; exact (hGS3 (t + 1) (by omega)).1) (fun _ => hN1S) (fun _ => hN2S)
    · exact absurd c_120 (by omega)
set_option maxRecDepth 100000 in
set_option maxHeartbeats 4000000 in
theorem l_X3_rl1 {S : mm_H} {X : xx_X} {W : Nat → Nat → Nat} {o nw sf vs cn : Nat} {va ga : Nat → Nat} (hL : RelP S X W o nw sf vs cn va ga) {rw : Nat} {x : vv_X} (hx : vv_C x cX3_refreshLatest RX3 5 112 4) (hr0 : mm_K S rw = 0) (cont : ∀ T, gR S T o rw (X.1 6) (X.1 9) → mm_K T rw = 7 → mm_L T rw = X.2.1 12 (X.1 15) + 1 → (∀ j, j < X.2.1 12 (X.1 15) → keepB X W j = true → mm_P T rw (cntN (keepB X W) j) = some (ga (X.2.1 13 (4 * X.1 15 + j)))) → vv_V x 9 83 101 [(0, .ref o), (1, .ref rw), (2, .int (nI (kcN X W)))] [] T) : ∀ d i T, i + d = X.2.1 12 (X.1 15) → gR S T o rw (X.1 6) (X.1 9) → mm_K T rw = 7 → mm_L T rw = X.2.1 12 (X.1 15) + 1 → (∀ j, j < i → keepB X W j = true → mm_P T rw (cntN (keepB X W) j) = some (ga (X.2.1 13 (4 * X.1 15 + j)))) → vv_V x 9 83 49 [(0, .ref o), (1, .ref rw), (2, .int (nI (cntN (keepB X W) i))), (3, .int (nI (i)))] [] T := by
  obtain ⟨⟨hoK, hoP0, hoP1, hoP2, hoI3, hoP4, hoP5, hoI6, hoI7, hoI8, hoI9, hoI10, hoI11⟩, hns, hnw, hsf, hvK, hvL, hvp, hview, hsegs, hUQ, hXI⟩ := id hL
  obtain ⟨hk, hbd, hw0, hc9, hm3, hcs, hheld⟩ := id hXI
  obtain ⟨k0, k1, k2, k3, k4, k5, k6, k7, k8, k9, k10, k11, k12, k13⟩ := id hk
  obtain ⟨hvVK, hvV0, hvV3, ust, upr, hvP1, hvP2, hvn, hvf, hust, hprK, hprL, hprE⟩ := hview _ k3 held_lt.1
  have hm9 := k12 (X.1 15)
  have fx : ∀ {T y}, gR S T o rw (X.1 6) (X.1 9) → mm_K S y ≠ 0 → mm_K S y ≠ 4 → mm_K T y = mm_K S y ∧ (∀ k, mm_I T y k = mm_I S y k) ∧ (∀ k, mm_P T y k = mm_P S y k) ∧ mm_L T y = mm_L S y := fun {T y} hG h0 h4 => (hG.old hr0).1 y h0 (fun e => by rcases e with e | e <;> exact h4 (by rw [e]; exact hoK))
  intro d
  induction d with
  | zero =>
    intro i T hd hG hrK hrL hE
    have hcn := cntN_le (keepB X W) i
    have hoKT := hG.2.1
    have hoP4T := (hG.2.2.1 4).trans hoP4
    have hoP0T := (hG.2.2.1 0).trans hoP0
    have hvVKT := (fx hG (y := va (X.1 15)) (by omega) (by omega)).1.trans hvVK
    have hvP2T := ((fx hG (y := va (X.1 15)) (by omega) (by omega)).2.2.1 2).trans hvP2
    have hprKT := (fx hG (y := upr) (by omega) (by omega)).1.trans hprK
    have hprLT := (fx hG (y := upr) (by omega) (by omega)).2.2.2.trans hprL
    refine vv_iload_n hx dX3_refreshLatest_49 rfl ?_
    refine vv_aload_n hx dX3_refreshLatest_50 rfl ?_
    refine vv_getr (b := va (X.1 15)) 4 hx dX3_refreshLatest_51 kf_X3_52 kl_3 (by decide) rfl hoKT hoP4T ?_
    refine vv_getrN (b := upr) 2 hx dX3_refreshLatest_54 kf_X3_131 kl_2 (by decide) rfl hvVKT hvP2T ?_
    refine vv_alen (j := 1) hx dX3_refreshLatest_57 hprKT (by decide) (fun _ => rfl) ?_
    rw [hprLT]
    refine vv_icmp_geN (tgt := 101) hx dX3_refreshLatest_58 (by decide) (by omega) (by omega) (fun c_58 => ?_) (fun c_58 => ?_)
    · have ei : X.2.1 12 (X.1 15) = i := by omega
      rw [ei] at cont
      rw [show kcN X W = cntN (keepB X W) i by unfold kcN; rw [ei]] at cont
      exact vv_sub [0, 1, 2] rfl (cont T hG hrK (by rw [hrL, ei]) hE)
    · exfalso; omega
  | succ d ih =>
    intro i T hd hG hrK hrL hE
    have hcn := cntN_le (keepB X W) i
    have hi : i < X.2.1 12 (X.1 15) := by omega
    have hoKT := hG.2.1
    have hoP4T := (hG.2.2.1 4).trans hoP4
    have hoP0T := (hG.2.2.1 0).trans hoP0
    have hvVKT := (fx hG (y := va (X.1 15)) (by omega) (by omega)).1.trans hvVK
    have hvP2T := ((fx hG (y := va (X.1 15)) (by omega) (by omega)).2.2.1 2).trans hvP2
    have hprKT := (fx hG (y := upr) (by omega) (by omega)).1.trans hprK
    have hprLT := (fx hG (y := upr) (by omega) (by omega)).2.2.2.trans hprL
    have hprET : mm_P T upr i = some (ga (X.2.1 13 (4 * X.1 15 + i))) := ((fx hG (y := upr) (by omega) (by omega)).2.2.1 i).trans (hprE i hi)
    have hsgS := (hsegs _ k3 held_lt.1 i hi).1
    have hsgT := ((hG.old hr0).sg hoK (Or.inl rfl) hsgS).1
    have hsgK := hsgT.1
    have hstT := (hG.old hr0).st hoK (Or.inl rfl) hnw
    have hlb := lvW_le (X.2.1 1) (W (X.2.1 13 (4 * X.1 15 + i))) (X.1 0)
    refine vv_iload_n hx dX3_refreshLatest_49 rfl ?_
    refine vv_aload_n hx dX3_refreshLatest_50 rfl ?_
    refine vv_getr (b := va (X.1 15)) 4 hx dX3_refreshLatest_51 kf_X3_52 kl_3 (by decide) rfl hoKT hoP4T ?_
    refine vv_getrN (b := upr) 2 hx dX3_refreshLatest_54 kf_X3_131 kl_2 (by decide) rfl hvVKT hvP2T ?_
    refine vv_alen (j := 1) hx dX3_refreshLatest_57 hprKT (by decide) (fun _ => rfl) ?_
    rw [hprLT]
    refine vv_icmp_geN (tgt := 101) hx dX3_refreshLatest_58 (by decide) (by omega) (by omega) (fun c_58 => ?_) (fun c_58 => ?_)
    · exfalso; omega
    · refine vv_aload_n hx dX3_refreshLatest_61 rfl ?_
      refine vv_getr (b := va (X.1 15)) 4 hx dX3_refreshLatest_62 kf_X3_52 kl_3 (by decide) rfl hoKT hoP4T ?_
      refine vv_getrN (b := upr) 2 hx dX3_refreshLatest_65 kf_X3_131 kl_2 (by decide) rfl hvVKT hvP2T ?_
      refine vv_iload_n hx dX3_refreshLatest_68 rfl ?_
      refine vv_aald (j := 1) hx dX3_refreshLatest_69 hprKT (by decide) (fun _ => rfl) rfl (by rw [hprLT]; exact hi) (by rw [hprLT]; omega) ?_
      rw [hprET]
      show vv_V x _ _ _ _ (.ref (ga (X.2.1 13 (4 * X.1 15 + i))) :: _) T
      refine vv_aload_n hx dX3_refreshLatest_70 rfl ?_
      refine vv_getr (b := nw) 0 hx dX3_refreshLatest_71 kf_X3_10 kl_3 (by decide) rfl hoKT hoP0T ?_
      refine vv_callVN (As := [.ref nw]) hx dX3_refreshLatest_74 km_X3_139 kq_X0_countLive ki_X0_countLive ks_X0_countLive kl_0 hsgK ((by have h9 := c_X0_countLive hsgT hstT; rw [← lvW_il] at h9; exact h9)) rfl rfl (Nat.le_of_ble_eq_true rfl) (by decide) (by decide) rfl rfl (vv_cd ?_)
      refine vv_if_leN (tgt := 95) hx dX3_refreshLatest_77 (by decide) (by omega) (fun c_77 => ?_) (fun c_77 => ?_)
      · refine vv_iinc (u := (nI (i + 1))) (lv' := [(0, .ref o), (1, .ref rw), (2, .int (nI (cntN (keepB X W) i))), (3, .int (nI (i + 1)))]) hx dX3_refreshLatest_95 rfl (nI_1 _) (by decide) rfl rfl ?_
        refine vv_goto (tgt := 49) hx dX3_refreshLatest_98 (by decide) ?_
        have hkb : keepB X W i = false := decide_eq_false (by omega)
        have h9 := ih (i + 1) T (by omega) hG hrK hrL (fun j hj hb => by
          by_cases e : j = i
          · subst e; rw [hkb] at hb; cases hb
          · exact hE j (by omega) hb)
        rw [cntN_f0 hkb] at h9
        exact h9
      · refine vv_aload_n hx dX3_refreshLatest_80 rfl ?_
        refine vv_iload_n hx dX3_refreshLatest_81 rfl ?_
        refine vv_aload_n hx dX3_refreshLatest_82 rfl ?_
        refine vv_getr (b := va (X.1 15)) 4 hx dX3_refreshLatest_83 kf_X3_52 kl_3 (by decide) rfl hoKT hoP4T ?_
        refine vv_getrN (b := upr) 2 hx dX3_refreshLatest_86 kf_X3_131 kl_2 (by decide) rfl hvVKT hvP2T ?_
        refine vv_iload_n hx dX3_refreshLatest_89 rfl ?_
        refine vv_aald (j := 1) hx dX3_refreshLatest_90 hprKT (by decide) (fun _ => rfl) rfl (by rw [hprLT]; exact hi) (by rw [hprLT]; omega) ?_
        rw [hprET]
        show vv_V x _ _ _ _ (.ref (ga (X.2.1 13 (4 * X.1 15 + i))) :: _) T
        refine vv_aast (j := 1) hx dX3_refreshLatest_91 hrK (by decide) (fun _ => rfl) rfl (by rw [hrL]; omega) (by rw [hrL]; omega) kl_0 hsgK ?_
        refine vv_iinc (u := (nI (cntN (keepB X W) i + 1))) (lv' := [(0, .ref o), (1, .ref rw), (2, .int (nI (cntN (keepB X W) i + 1))), (3, .int (nI (i)))]) hx dX3_refreshLatest_92 rfl (nI_1 _) (by decide) rfl rfl ?_
        refine vv_iinc (u := (nI (i + 1))) (lv' := [(0, .ref o), (1, .ref rw), (2, .int (nI (cntN (keepB X W) i + 1))), (3, .int (nI (i + 1)))]) hx dX3_refreshLatest_95 rfl (nI_1 _) (by decide) rfl rfl ?_
        refine vv_goto (tgt := 49) hx dX3_refreshLatest_98 (by decide) ?_
        have hkb : keepB X W i = true := decide_eq_true (by omega)
        have h9 := ih (i + 1) _ (by omega) (hG.row (k := cntN (keepB X W) i) (v := some (ga (X.2.1 13 (4 * X.1 15 + i)))) hrK) hrK hrL (fun j hj hb => by
          rw [mm_P_sP]
          by_cases e : j = i
          · subst e; rw [if_pos ⟨rfl, rfl⟩]
          · rw [if_neg (fun z => e (cnt_inj hb hkb z.2))]; exact hE j (by omega) hb)
        rw [cntN_t hkb] at h9
        exact h9
set_option maxRecDepth 100000 in
set_option maxHeartbeats 4000000 in
theorem c_X3_refreshLatest {S : mm_H} {X : xx_X} {W : Nat → Nat → Nat} {o nw sf vs cn : Nat} {va ga : Nat → Nat} (hL : RelP S X W o nw sf vs cn va ga) (hroom : newsB X = true → X.1 10 < 150) : MV yX3_refreshLatest cX3_refreshLatest 4 5 112 10 87 [.ref o] S (fun S' => (newsB X = false ∧ S' = S) ∨ (newsB X = true ∧ ∃ q g1 g2 v, qOK X W q ∧ rnC S S' X W o vs ga q g1 g2 v)) := by
  refine MA.of (by decide) (Nat.le_of_ble_eq_true rfl) ?_
  intro x hx he hini
  have hx : vv_C x cX3_refreshLatest RX3 5 112 4 := hx
  show vv_V x 10 87 0 [(0, .ref o)] [] S
  obtain ⟨⟨hoK, hoP0, hoP1, hoP2, hoI3, hoP4, hoP5, hoI6, hoI7, hoI8, hoI9, hoI10, hoI11⟩, hns, hnw, hsf, hvK, hvL, hvp, hview, hsegs, hUQ, hXI⟩ := id hL
  obtain ⟨hk, hbd, hw0, hc9, hm3, hcs, hheld⟩ := id hXI
  obtain ⟨k0, k1, k2, k3, k4, k5, k6, k7, k8, k9, k10, k11, k12, k13⟩ := id hk
  obtain ⟨hmK, hmI, mc, mw, hmP1, hmP2, hmKc, hmLc, hmKw, hmLw, hmC, hmW, hmn, hmch, hmwd⟩ := id hnw
  obtain ⟨hvVK, hvV0, hvV3, ust, upr, hvP1, hvP2, hvn, hvf, hust, hprK, hprL, hprE⟩ := hview _ k3 held_lt.1
  have hm9 := k12 (X.1 15)
  have ha5 := (hheld _ k3 held_lt.1).1
  have hb11 := k11 (X.1 15)
  refine vv_aload_n hx dX3_refreshLatest_0 rfl ?_
  refine vv_getr (b := va (X.1 15)) 4 hx dX3_refreshLatest_1 kf_X3_52 kl_3 (by decide) rfl hoK hoP4 ?_
  refine vv_getrN (b := ust) 1 hx dX3_refreshLatest_4 kf_X3_74 kl_2 (by decide) rfl hvVK hvP1 ?_
  refine cc_getiN (e0 := nI (X.2.1 11 (X.1 15))) 0 hx dX3_refreshLatest_7 kf_X3_84 kl_1 (by decide) rfl hust.1 hust.2.1 ?_
  refine vv_aload_n hx dX3_refreshLatest_10 rfl ?_
  refine vv_getr (b := nw) 0 hx dX3_refreshLatest_11 kf_X3_10 kl_3 (by decide) rfl hoK hoP0 ?_
  refine cc_getiN (e0 := nI (X.1 0)) 0 hx dX3_refreshLatest_14 kf_X3_84 kl_1 (by decide) rfl hmK hmI ?_
  refine vv_icmp_eqN (tgt := 30) hx dX3_refreshLatest_17 (by decide) (by omega) (by omega) (fun c_17 => ?_) (fun c_17 => ?_)
  · exact vv_vret hx he dX3_refreshLatest_30 ⟨rfl, Or.inl ⟨decide_eq_false (by omega), rfl⟩⟩
  · refine vv_aload_n hx dX3_refreshLatest_20 rfl ?_
    refine cc_geti (e0 := nI (X.1 10)) 3 hx dX3_refreshLatest_21 kf_X3_25 kl_3 (by decide) rfl hoK hoI3 ?_
    refine vv_sipush (v := nI 150) hx dX3_refreshLatest_24 (by decide) ?_
    refine vv_icmp_ltN (tgt := 31) hx dX3_refreshLatest_27 (by decide) (by omega) (by omega) (fun c_27 => ?_) (fun c_27 => ?_)
    · refine vv_aload_n hx dX3_refreshLatest_31 rfl ?_
      refine vv_getr (b := va (X.1 15)) 4 hx dX3_refreshLatest_32 kf_X3_52 kl_3 (by decide) rfl hoK hoP4 ?_
      refine vv_getrN (b := upr) 2 hx dX3_refreshLatest_35 kf_X3_131 kl_2 (by decide) rfl hvVK hvP2 ?_
      refine vv_alen (j := 1) hx dX3_refreshLatest_38 hprK (by decide) (fun _ => rfl) ?_
      rw [hprL]
      refine vv_iconst (v := nI 1) hx dX3_refreshLatest_39 (by decide) ?_
      refine vv_iaddN hx dX3_refreshLatest_40 ?_
      refine vv_room (kc' := 9 + 1) (ks' := 83 + (X.2.1 12 (X.1 15) + 1)) (by decide) (by omega) ?_
      refine vv_newq (j := 1) (z := X.2.1 12 (X.1 15) + 1) hx dX3_refreshLatest_41 kc_X3_47 (by decide) (fun _ => rfl) (Or.inl rfl) rfl (by omega) rfl rfl (fun rw hr0 => ?_)
      have hnews : newsB X = true := decide_eq_true (by omega)
      have h10 : X.1 10 < 150 := c_27
      obtain ⟨q, hq⟩ := qOK.ex X W
      have hlS : lf S o nw (va (X.1 15)) ust (X.1 0) (X.2.1 11 (X.1 15)) (picC X (X.1 0)) (picW X (X.1 0)) := ⟨hoK, hoP0, hnw, hoP4, hvVK, hvP1, hust.1, hust.2.1, k11 _⟩
      have hG0 : gR S (mm_sN S rw 7 (X.2.1 12 (X.1 15) + 1)) o rw (X.1 6) (X.1 9) := ((gR.refl (q := o) hoK hoI6 hoI7 hUQ).new hr0 (by omega) 7 _).wid rw
      have hkc := cntN_le (keepB X W) (X.2.1 12 (X.1 15))
      refine vv_astore_n (lv' := [(0, .ref o), (1, .ref rw)]) hx dX3_refreshLatest_44 (by decide) rfl rfl ?_
      refine vv_iconst (v := nI 0) hx dX3_refreshLatest_45 (by decide) ?_
      refine vv_istore_n (lv' := [(0, .ref o), (1, .ref rw), (2, .int (nI (0)))]) hx dX3_refreshLatest_46 (by decide) rfl rfl ?_
      refine vv_iconst (v := nI 0) hx dX3_refreshLatest_47 (by decide) ?_
      refine vv_istore_n (lv' := [(0, .ref o), (1, .ref rw), (2, .int (nI (0))), (3, .int (nI (0)))]) hx dX3_refreshLatest_48 (by decide) rfl rfl ?_
      refine l_X3_rl1 hL hx hr0 (fun T hG hrK hrL hE => ?_) (X.2.1 12 (X.1 15)) 0 _ (by omega) hG0 (by rw [mm_K_sN, if_pos rfl]) (by rw [mm_L_sN, if_pos rfl]) (fun j hj => by omega)
      have hoKT := hG.2.1
      have hlT := hlS.fr (hG.old hr0) (Or.inl rfl)
      have hkc2 : kcN X W ≤ X.2.1 12 (X.1 15) := hkc
      refine vv_aload_n hx dX3_refreshLatest_101 rfl ?_
      refine vv_callV (As := []) hx dX3_refreshLatest_102 km_X3_161 kq_X3_hasNewRow ki_X3_hasNewRow ks_X3_hasNewRow kl_3 hoKT ((by have h9 := c_X3_hasNewRow hlT; rw [nwB_any hw0] at h9; exact h9)) rfl rfl (Nat.le_of_ble_eq_true rfl) (by decide) (by decide) rfl rfl (vv_cd ?_)
      refine vv_if_eqB (tgt := 118) hx dX3_refreshLatest_105 (by decide) (fun c_105 => ?_) (fun c_105 => ?_)
      · have hl1 : l1N X W = kcN X W := by unfold l1N; rw [c_105]; rfl
        rw [← hl1]
        have hn0 : newcN X = 0 := by have h9 := of_decide_eq_false (show decide (0 < newcN X) = false from c_105); omega
        refine vv_room (kc' := 7) (ks' := 63) (by decide) (by decide) ?_
        refine l_X3_rl3 hL hx he hnews h10 hq (g1 := 0) (by rw [c_105, hn0]; exact hG) hr0 hrK hrL (fun t ht => ?_) (fun h => by rw [c_105] at h; cases h)
        rcases hq.at ht with ⟨j, hj, hb, hc, e⟩ | ⟨hb, -, -⟩
        · rw [e, ga2_o ((hheld _ k3 held_lt.1).2.1 j hj).1, ← hc]
          exact hE j hj hb
        · rw [c_105] at hb; cases hb
      · refine vv_aload_n hx dX3_refreshLatest_108 rfl ?_
        refine vv_iload_n hx dX3_refreshLatest_109 rfl ?_
        refine vv_aload_n hx dX3_refreshLatest_110 rfl ?_
        refine vv_callV (As := []) hx dX3_refreshLatest_111 km_X3_165 kq_X3_segmentOfNewRows ki_X3_segmentOfNewRows ks_X3_segmentOfNewRows kl_3 hoKT ((by have h9 := c_X3_segmentOfNewRows hlT hG.2.2.2.2.1 hG.2.2.2.2.2.1 hG.2.2.2.2.2.2; rw [nwW_eq hw0] at h9; exact h9)) rfl rfl (Nat.le_of_ble_eq_true rfl) (by decide) (by decide) rfl rfl (vv_cr fun z U hz => ?_)
        obtain ⟨g1, rfl, hGU, hN⟩ := hz
        show vv_V x 7 63 _ _ (.ref g1 :: _) U
        have hro : rw ≠ o := fun e => by rw [e] at hrK; omega
        have hrU := hGU.1 rw (by omega) (fun e => by rcases e with e | e <;> exact hro e)
        have hrKU := hrU.1.trans hrK
        have hrLU := hrU.2.2.2.trans hrL
        have hN1 : sgN S U g1 (X.1 6) 16 (newW X) := hN.base (fun y hy => hG.fresh (by omega) hy)
        have hg1r : g1 ≠ rw := fun e => by have := hN.1; rw [e] at this; omega
        refine vv_aast (j := 1) hx dX3_refreshLatest_114 hrKU (by decide) (fun _ => rfl) rfl (by rw [hrLU]; omega) (by rw [hrLU]; omega) kl_0 hN1.2.1 ?_
        refine vv_iinc (u := (nI (kcN X W + 1))) (lv' := [(0, .ref o), (1, .ref rw), (2, .int (nI (kcN X W + 1)))]) hx dX3_refreshLatest_115 rfl (nI_1 _) (by decide) rfl rfl ?_
        have hl1 : l1N X W = kcN X W + 1 := by unfold l1N; rw [c_105]; rfl
        rw [← hl1]
        refine l_X3_rl3 hL hx he hnews h10 hq (g1 := g1) (by rw [c_105]; exact ((hG.trans (hGU.wid rw)).row hrKU)) hr0 hrKU hrLU (fun t ht => ?_) (fun _ => hN1.vs ⟨fun _ => rfl, fun _ _ => rfl, fun _ => rfl, fun y k hy => by rw [mm_P_sP, if_neg (fun e => hy e.1)]⟩ hg1r)
        rw [mm_P_sP]
        rcases hq.at ht with ⟨j, hj, hb, hc, e⟩ | ⟨-, hc, e⟩
        · have hlt : cntN (keepB X W) j < kcN X W := cnt_lt hj hb
          rw [if_neg (fun z => by omega), e, ga2_o ((hheld _ k3 held_lt.1).2.1 j hj).1, hrU.2.2.1 t, ← hc]
          exact hE j hj hb
        · rw [if_pos ⟨rfl, hc⟩, e]
          unfold ga2
          rw [if_pos rfl]
    · exact vv_vret hx he dX3_refreshLatest_30 (by exfalso; exact c_27 (hroom (decide_eq_true (by omega))))
