theorem W2_q {X : xx_X} {W : Nat → Nat → Nat} {q : Nat → Nat} {s : Nat} (h : s ≤ X.1 6) : W2 X W q s = W1 X W s := by unfold W2; rw [if_neg (by omega)]
theorem W2_m (X : xx_X) (W : Nat → Nat → Nat) (q : Nat → Nat) : W2 X W q (X.1 6 + 1) = mwq X W q := by unfold W2; rw [if_pos rfl]
theorem W2_o {X : xx_X} {W : Nat → Nat → Nat} {q : Nat → Nat} {s : Nat} (h : s < X.1 6) : W2 X W q s = W s := by rw [W2_q (by omega)]; unfold W1; rw [if_neg (by omega)]
theorem newW_le (X : xx_X) (k : Nat) : newW X k ≤ X.1 0 := by
  by_cases h : 0 < newW X k
  · exact (newW_key h).2.2.2
  · omega
theorem mwq_le (X : xx_X) (W : Nat → Nat → Nat) (q : Nat → Nat) (k : Nat) : mwq X W q k ≤ X.1 0 := by
  by_cases h : 0 < mwq X W q k
  · unfold mwq at h ⊢
    rw [(mwW_pos h).1]; exact cg_le _ _ _
  · omega
/-- a segment of the row before a merge -/
theorem rnZ.q {X Y : xx_X} {W : Nat → Nat → Nat} {q : Nat → Nat} (hX : xInv X W) (h10 : X.1 10 < 150) (h : rnZ X W Y q) {t : Nat} (ht : t < l1N X W) : q t ≤ X.1 6 ∧ q t < Y.1 6 ∧ sgR Y (q t) (W2 X W q (q t)) ∧ ∀ k, k < 16 → W2 X W q (q t) k ≤ X.1 0 := by
  obtain ⟨hF, hq, h1, h2, h3, h4, h5, h6⟩ := h
  obtain ⟨s1, s2⟩ := qOK.seg (hX.rH h10) hq hF (fun hb => (h3 hb).2) ht
  have hle : q t ≤ X.1 6 := by cases hb : nwB X <;> rw [hb] at s1 <;> simp at s1 <;> omega
  refine ⟨hle, ?_, by rw [W2_q hle]; exact s2, fun k hk => ?_⟩
  · rcases hq.at ht with ⟨j, hj, -, -, e⟩ | ⟨hb, -, e⟩
    · have := ((hX.2.2.2.2.2.2 _ hX.1.2.2.2.1 held_lt.1).2.1 j hj).1
      rw [e, h5]; omega
    · have := (h3 hb).1
      rw [e]; omega
  · rw [W2_q hle]
    rcases hq.at ht with ⟨j, hj, -, -, e⟩ | ⟨hb, -, e⟩
    · obtain ⟨g1, g2, g3⟩ := hX.2.2.2.2.2.2 _ hX.1.2.2.2.1 held_lt.1
      have := (g2 j hj).2.2 k hk
      have h9 := (g2 j hj).1
      rw [e]
      unfold W1
      rw [if_neg (by omega)]
      omega
    · rw [e]
      unfold W1
      rw [if_pos rfl]
      exact newW_le X k
theorem mw_dis {X : xx_X} {W : Nat → Nat → Nat} {q : Nat → Nat} (hX : xInv X W) (hq : qOK X W q) (h4 : l1N X W = 4) {t : Nat} (ht : t < 4) (t1 : t ≠ bestq X W q) (t2 : t ≠ bestq X W q + 1) {k : Nat} (hk : k < 16) (h0 : 0 < mwq X W q k) (he : mwq X W q k = W1 X W (q t) k) : False := by
  have b2 := best_le X W q
  have hd := fun a (ha : a < 4) (hat : a ≠ t) => (hq.dis hX (show a < l1N X W by omega) (show t < l1N X W by omega) hat).2 k hk
  unfold mwq at h0 he
  obtain ⟨p1, p2⟩ := mwW_pos h0
  unfold mwW at p1
  cases hb : ((nz (W1 X W (q (bestq X W q))) k && decide (cg (X.2.1 1) k (X.1 0) = W1 X W (q (bestq X W q)) k)) || (nz (W1 X W (q (bestq X W q + 1))) k && decide (cg (X.2.1 1) k (X.1 0) = W1 X W (q (bestq X W q + 1)) k))) with
  | false =>
    rw [hb] at p1
    simp at p1
    omega
  | true =>
    have p3 := (mwW_pos h0).1
    rw [p3] at he
    rw [Bool.or_eq_true] at hb
    rcases hb with hb | hb
    · simp only [Bool.and_eq_true, decide_eq_true_eq, nz_t] at hb
      exact hd (bestq X W q) (by omega) (Ne.symm t1) hb.1 (hb.2.symm.trans he)
    · simp only [Bool.and_eq_true, decide_eq_true_eq, nz_t] at hb
      exact hd (bestq X W q + 1) (by omega) (Ne.symm t2) hb.1 (hb.2.symm.trans he)
/-- a place of the new view's row: of the row before, or the merged one -/
theorem nvq_at {X : xx_X} {W : Nat → Nat → Nat} {q : Nat → Nat} (hX : xInv X W) {t : Nat} (ht : t < nvN X W) : (∃ u, u < l1N X W ∧ nvq X W q t = q u ∧ (¬ l1N X W ≤ 3 → u ≠ bestq X W q ∧ u ≠ bestq X W q + 1) ∧ u = if l1N X W ≤ 3 ∨ t < bestq X W q then t else t + 1) ∨ (¬ l1N X W ≤ 3 ∧ t = bestq X W q ∧ nvq X W q t = X.1 6 + 1) := by
  have h4 := l1N_le hX
  unfold nvN at ht
  unfold nvq
  by_cases e : l1N X W ≤ 3
  · rw [if_pos e] at ht ⊢
    exact Or.inl ⟨t, ht, rfl, fun h => absurd e h, by rw [if_pos (Or.inl e)]⟩
  · rw [if_neg e] at ht ⊢
    unfold tgt
    by_cases e1 : t < bestq X W q
    · rw [if_pos e1]
      exact Or.inl ⟨t, by omega, rfl, fun _ => by omega, by rw [if_pos (Or.inr e1)]⟩
    · rw [if_neg e1]
      by_cases e2 : t = bestq X W q
      · rw [if_pos e2]
        exact Or.inr ⟨e, e2, rfl⟩
      · rw [if_neg e2]
        exact Or.inl ⟨t + 1, by omega, rfl, fun _ => by omega, by rw [if_neg (fun q => by omega)]⟩
theorem rnZ.nv {X Y : xx_X} {W : Nat → Nat → Nat} {q : Nat → Nat} (hX : xInv X W) (h10 : X.1 10 < 150) (h : rnZ X W Y q) {t : Nat} (ht : t < nvN X W) : nvq X W q t < Y.1 6 ∧ sgR Y (nvq X W q t) (W2 X W q (nvq X W q t)) ∧ ∀ k, k < 16 → W2 X W q (nvq X W q t) k ≤ X.1 0 := by
  rcases nvq_at (q := q) hX ht with ⟨u, hu, e, -⟩ | ⟨e3, -, e⟩
  · rw [e]
    exact (h.q hX h10 hu).2
  · obtain ⟨-, p2, p3⟩ := h.2.2.2.2.2.1 e3
    rw [e, W2_m]
    exact ⟨by omega, p3, fun k _ => mwq_le X W q k⟩
theorem rnZ.nd {X Y : xx_X} {W : Nat → Nat → Nat} {q : Nat → Nat} (hX : xInv X W) (h10 : X.1 10 < 150) (h : rnZ X W Y q) {i j : Nat} (hi : i < nvN X W) (hj : j < nvN X W) (hij : i ≠ j) : nvq X W q i ≠ nvq X W q j ∧ ∀ k, k < 16 → 0 < W2 X W q (nvq X W q i) k → W2 X W q (nvq X W q i) k ≠ W2 X W q (nvq X W q j) k := by
  have hq := h.2.1
  have h4 := l1N_le hX
  rcases nvq_at (q := q) hX hi with ⟨u, hu, ei, nu, iu⟩ | ⟨e3, bi, ei⟩ <;> rcases nvq_at (q := q) hX hj with ⟨w, hw, ej, nw, jw⟩ | ⟨e3', bj, ej⟩
  · have huw : u ≠ w := by
      rw [iu, jw]
      split <;> split <;> omega
    obtain ⟨d1, d2⟩ := hq.dis hX hu hw huw
    rw [ei, ej, W2_q (h.q hX h10 hu).1, W2_q (h.q hX h10 hw).1]
    exact ⟨d1, d2⟩
  · have l4 : l1N X W = 4 := by omega
    have hle := (h.q hX h10 hu).1
    rw [ei, ej, W2_q hle, W2_m]
    exact ⟨by omega, fun k hk h0 e => mw_dis hX hq l4 (by omega) (nu e3').1 (nu e3').2 hk (by omega) e.symm⟩
  · have l4 : l1N X W = 4 := by omega
    have hle := (h.q hX h10 hw).1
    rw [ei, ej, W2_q hle, W2_m]
    exact ⟨by omega, fun k hk h0 e => mw_dis hX hq l4 (by omega) (nw e3).1 (nw e3).2 hk h0 e⟩
  · exact absurd (bi.trans bj.symm) hij
theorem xI_2 (Y : xx_X) (f v : Nat) : (xI Y f v).2 = Y.2 := rfl
theorem held_rn {X Y : xx_X} (hF : rF X Y) {v : Nat} (hv : v < X.1 10 + 1) (hh : heldN (xI (xI Y 10 (X.1 10 + 1)) 15 (X.1 10)) v = true) : v = X.1 10 ∨ (v < X.1 10 ∧ heldN X v = true) := by
  by_cases e : v = X.1 10
  · exact Or.inl e
  · refine Or.inr ⟨by omega, ?_⟩
    unfold heldN at hh ⊢
    rw [xI_s, xI_o (f := 15) (g := 16) (by decide), xI_o (f := 10) (g := 16) (by decide), hF.1 16 (by decide) (by decide), xI_2, xI_2, (hF.2.2.2.2.2.1 v e).2.2] at hh
    simp only [Bool.or_eq_true, decide_eq_true_eq] at hh ⊢
    omega
theorem xInv.rn {X Y : xx_X} {W : Nat → Nat → Nat} {q : Nat → Nat} (hX : xInv X W) (h10 : X.1 10 < 150) (h : rnZ X W Y q) : xInv (xI (xI Y 10 (X.1 10 + 1)) 15 (X.1 10)) (W2 X W q) := by
  obtain ⟨hk, hb, hw0, hc9, hm3, hcs, hheld⟩ := id hX
  obtain ⟨k0, k1, k2, k3, k4, k5, k6, k7, k8, k9, k10, k11, k12, k13⟩ := hk
  obtain ⟨hF, hq, h12, h13, hn, hm, e6, e9⟩ := id h
  obtain ⟨f1, f2, f3, f4, f5, f6, f7, f8, f9, f10, f11⟩ := id hF
  have l4 := l1N_le hX
  have nv3 : nvN X W ≤ 3 := by unfold nvN; split <;> omega
  have I : ∀ f, f ≠ 10 → f ≠ 15 → (xI (xI Y 10 (X.1 10 + 1)) 15 (X.1 10)).1 f = Y.1 f := fun f q1 q2 => by rw [xI_o q2, xI_o q1]
  have I10 : (xI (xI Y 10 (X.1 10 + 1)) 15 (X.1 10)).1 10 = X.1 10 + 1 := by rw [xI_o (by decide), xI_s]
  have E0 : Y.1 0 = X.1 0 := f1 0 (by decide) (by decide)
  have E16 : Y.1 16 = X.1 16 := f1 16 (by decide) (by decide)
  have E17 : Y.1 17 = X.1 17 := f1 17 (by decide) (by decide)
  have E3 : Y.1 3 = X.1 3 := f1 3 (by decide) (by decide)
  have n16 : X.1 16 ≠ X.1 10 := by omega
  have c1 := cntN_le (nz (newW X)) 16
  have c2 := cntN_le (nz (mwq X W q)) 16
  have b6 : Y.1 6 ≤ X.1 6 + 2 := by
    rw [e6]
    split
    · cases nwB X <;> simp
    · omega
  have b9 : Y.1 9 ≤ X.1 9 + 32 := by
    rw [e9]
    unfold newcN
    split <;> omega
  refine ⟨⟨?_, ?_, ?_, ?_, ?_, ?_, ?_, f11.k7, fun i => f11 2 i, f11.k9, f11.k10, fun i => f11 11 i, fun i => ?_, fun i => Nat.lt_succ_of_le (f11 13 i)⟩, f11, ?_, ?_, ?_, ?_, fun v hv hh => ?_⟩
  · rw [I 0 (by decide) (by decide)]; omega
  · rw [I10]; omega
  · rw [I10]; omega
  · rw [I10, xI_s]; omega
  · rw [I10, I 16 (by decide) (by decide)]; omega
  · rw [I 17 (by decide) (by decide), I 0 (by decide) (by decide)]; omega
  · rw [I10, I 6 (by decide) (by decide)]; omega
  · show Y.2.1 12 i ≤ 3
    by_cases e : i = X.1 10
    · rw [e, h12]; exact nv3
    · rw [(f6 i e).2.1]; exact k12 i
  · show Y.2.1 2 0 = 0
    rw [f3]; exact hw0
  · rw [I10, I 9 (by decide) (by decide)]; omega
  · rw [I 3 (by decide) (by decide)]; omega
  · rw [I 16 (by decide) (by decide), I 17 (by decide) (by decide), E16, E17]
    show Y.2.1 11 (X.1 16) ≤ _
    rw [(f6 _ n16).1]; exact hcs
  · rw [I 0 (by decide) (by decide), I 6 (by decide) (by decide)]
    rw [I10] at hv
    show Y.2.1 11 v ≤ Y.1 0 ∧ (∀ i, i < Y.2.1 12 v → Y.2.1 13 (4 * v + i) < Y.1 6 ∧ sgR Y (Y.2.1 13 (4 * v + i)) (W2 X W q (Y.2.1 13 (4 * v + i))) ∧ ∀ k, k < 16 → W2 X W q (Y.2.1 13 (4 * v + i)) k ≤ Y.2.1 11 v) ∧ (∀ i j, i < Y.2.1 12 v → j < Y.2.1 12 v → i ≠ j → Y.2.1 13 (4 * v + i) ≠ Y.2.1 13 (4 * v + j) ∧ ∀ k, k < 16 → 0 < W2 X W q (Y.2.1 13 (4 * v + i)) k → W2 X W q (Y.2.1 13 (4 * v + i)) k ≠ W2 X W q (Y.2.1 13 (4 * v + j)) k)
    rcases held_rn hF hv hh with e | ⟨hv2, hh2⟩
    · rw [e, h12, f8, E0]
      refine ⟨Nat.le_refl _, fun i hi => ?_, fun i j hi hj hij => ?_⟩
      · rw [h13 i hi]; exact h.nv hX h10 hi
      · rw [h13 i hi, h13 j hj]; exact h.nd hX h10 hi hj hij
    · obtain ⟨g1, g2, g3⟩ := hheld v hv2 hh2
      have m12 := k12 v
      have nv : v ≠ X.1 10 := by omega
      have e13 : ∀ i, i < X.2.1 12 v → Y.2.1 13 (4 * v + i) = X.2.1 13 (4 * v + i) := fun i hi => f7 _ (by omega)
      rw [(f6 v nv).1, (f6 v nv).2.1, E0]
      refine ⟨g1, fun i hi => ?_, fun i j hi hj hij => ?_⟩
      · obtain ⟨p1, p2, p3⟩ := g2 i hi
        rw [e13 i hi, W2_o p1]
        exact ⟨by omega, p2.toF hF p1, p3⟩
      · have p1 := (g2 i hi).1
        have p2 := (g2 j hj).1
        rw [e13 i hi, e13 j hj, W2_o p1, W2_o p2]
        exact g3 i j hi hj hij
