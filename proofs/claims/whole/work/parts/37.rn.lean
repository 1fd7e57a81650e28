/-! the relation behind a refreshing -/
theorem xInv.rH {X : xx_X} {W : Nat → Nat → Nat} (h : xInv X W) (h10 : X.1 10 < 150) : rH X W := by
  obtain ⟨g1, g2, g3, g4, g5, g6, g7⟩ := h
  obtain ⟨q1, q2, q3⟩ := g7 _ g1.2.2.2.1 held_lt.1
  exact ⟨g1, g2, h10, by omega, q2, fun i j hi hj hij k hk h1 h2 h3 h4 => (q3 i j hi hj hij).2 k hk h1 (h3.symm.trans h4)⟩
theorem qOK.ex (X : xx_X) (W : Nat → Nat → Nat) : ∃ q, qOK X W q := by
  refine ⟨fun t => if h : t < kcN X W then X.2.1 13 (4 * X.1 15 + Classical.choose (cnt_surj h)) else X.1 6, fun j hj hb => ?_, fun _ => ?_⟩
  · have hlt : cntN (keepB X W) j < kcN X W := cnt_lt hj hb
    simp only [dif_pos hlt]
    obtain ⟨e1, e2, e3⟩ := Classical.choose_spec (cnt_surj hlt)
    rw [cnt_inj e2 hb e3]
  · simp only [dif_neg (Nat.lt_irrefl _)]
/-- a place of the row before a merge: of the view before, or new -/
theorem qOK.at {X : xx_X} {W : Nat → Nat → Nat} {q : Nat → Nat} (hq : qOK X W q) {t : Nat} (ht : t < l1N X W) : (∃ j, j < X.2.1 12 (X.1 15) ∧ keepB X W j = true ∧ cntN (keepB X W) j = t ∧ q t = X.2.1 13 (4 * X.1 15 + j)) ∨ (nwB X = true ∧ t = kcN X W ∧ q t = X.1 6) := by
  by_cases e : t < kcN X W
  · obtain ⟨j, hj, hb, hc⟩ := cnt_surj e
    exact Or.inl ⟨j, hj, hb, hc, by rw [← hc]; exact hq.1 j hj hb⟩
  · unfold l1N at ht
    cases hb : nwB X with
    | false => rw [hb] at ht; exact absurd ht (by simp; omega)
    | true =>
      rw [hb] at ht
      have et : t = kcN X W := by simp at ht; omega
      exact Or.inr ⟨rfl, et, by rw [et]; exact hq.2 hb⟩
theorem qOK.det {X : xx_X} {W : Nat → Nat → Nat} {q q' : Nat → Nat} (hq : qOK X W q) (hq' : qOK X W q') {t : Nat} (ht : t < l1N X W) : q t = q' t := by
  rcases hq.at ht with ⟨j, hj, hb, hc, e⟩ | ⟨hb, et, e⟩
  · rw [e, ← hc]; exact (hq'.1 j hj hb).symm
  · rw [e, et]; exact (hq'.2 hb).symm
theorem qOK.dis {X : xx_X} {W : Nat → Nat → Nat} {q : Nat → Nat} (h : xInv X W) (hq : qOK X W q) {a b : Nat} (ha : a < l1N X W) (hb : b < l1N X W) (hab : a ≠ b) : q a ≠ q b ∧ ∀ k, k < 16 → 0 < W1 X W (q a) k → W1 X W (q a) k ≠ W1 X W (q b) k := by
  obtain ⟨-, q2, q3⟩ := h.2.2.2.2.2.2 _ h.1.2.2.2.1 held_lt.1
  have w1 : ∀ s, s < X.1 6 → W1 X W s = W s := fun s hs => by unfold W1; rw [if_neg (by omega)]
  have w2 : W1 X W (X.1 6) = newW X := by unfold W1; rw [if_pos rfl]
  rcases hq.at ha with ⟨i, hi, -, ci, ei⟩ | ⟨-, ea, ei⟩ <;> rcases hq.at hb with ⟨j, hj, -, cj, ej⟩ | ⟨-, eb, ej⟩
  · have hij : i ≠ j := fun e => hab (by rw [← ci, ← cj, e])
    rw [ei, ej, w1 _ (q2 i hi).1, w1 _ (q2 j hj).1]
    exact q3 i j hi hj hij
  · rw [ei, ej, w1 _ (q2 i hi).1, w2]
    refine ⟨by have := (q2 i hi).1; omega, fun k hk h1 e => ?_⟩
    have := (q2 i hi).2.2 k hk
    have := (newW_key (X := X) (k := k) (by omega)).2.2.1
    omega
  · rw [ei, ej, w1 _ (q2 j hj).1, w2]
    refine ⟨by have := (q2 j hj).1; omega, fun k hk h1 e => ?_⟩
    have := (q2 j hj).2.2 k hk
    have := (newW_key (X := X) (k := k) h1).2.2.1
    omega
  · exact absurd (ea.trans eb.symm) hab
theorem bst_congr {f g : Nat → Nat} : ∀ {n : Nat}, (∀ i, i < n → f i = g i) → bst f n = bst g n
  | 0, _ => rfl
  | n + 1, h => by rw [bst_s, bst_s, bst_congr (fun i hi => h i (by omega)), h n (by omega)]
theorem cnt_dj {f g : Nat → Bool} : ∀ {n : Nat}, (∀ k, k < n → f k = true → g k = true → False) → cntN f n + cntN g n ≤ n
  | 0, _ => Nat.le_refl 0
  | n + 1, h => by
    have ih := cnt_dj (n := n) (fun k hk => h k (by omega))
    have hn := h n (by omega)
    rw [cntN_s, cntN_s]
    cases hf : f n <;> cases hg : g n
    · simp; omega
    · simp; omega
    · simp; omega
    · exact (hn hf hg).elim
theorem nwW_eq {X : xx_X} (h0 : X.2.1 2 0 = 0) : nwW (X.2.1 11 (X.1 15)) (picC X (X.1 0)) (picW X (X.1 0)) = newW X := by
  funext k
  unfold nwW newW
  rw [wr_wa h0]
theorem lwW_eq (X : xx_X) (w1 w2 : Nat → Nat) : lwW (picC X (X.1 0)) w1 w2 = mwW (X.2.1 1) (X.1 0) w1 w2 := by
  have e : ∀ w k, ilB w (picC X (X.1 0)) k = (nz w k && decide (cg (X.2.1 1) k (X.1 0) = w k)) := fun w k => by
    unfold ilB
    congr 1
    exact decide_eq_decide.mpr ⟨fun e => e.symm, fun e => e.symm⟩
  funext k
  unfold lwW mwW
  rw [e, e]
  rfl
theorem fqN_eq (X : xx_X) (W : Nat → Nat → Nat) (q : Nat → Nat) : fqN (picC X (X.1 0)) (fun t => W1 X W (q t)) = sumq X W q := by
  funext t
  unfold fqN sumq
  rw [lvW_il, lvW_il]
theorem sumq_le {X : xx_X} {W : Nat → Nat → Nat} {q : Nat → Nat} (h : xInv X W) (hq : qOK X W q) {t : Nat} (ht : t + 1 < l1N X W) : sumq X W q t ≤ 16 := by
  unfold sumq lvW
  refine cnt_dj (fun k hk h1 h2 => ?_)
  simp only [Bool.and_eq_true, decide_eq_true_eq, nz_t] at h1 h2
  exact (hq.dis h (show t < l1N X W by omega) ht (by omega)).2 k hk h1.1 (h1.2.symm.trans h2.2)
theorem nwB_any {X : xx_X} (h0 : X.2.1 2 0 = 0) : anyN (fun k => decide (X.2.1 11 (X.1 15) < waN (picC X (X.1 0)) (picW X (X.1 0)) k)) 16 = nwB X := by
  have e : (fun k => decide (X.2.1 11 (X.1 15) < waN (picC X (X.1 0)) (picW X (X.1 0)) k)) = nz (newW X) := by
    funext k
    unfold nz newW
    rw [wr_wa h0]
    apply decide_eq_decide.mpr
    constructor
    · intro h; rw [if_pos h]; omega
    · intro h
      by_cases e : X.2.1 11 (X.1 15) < waN (picC X (X.1 0)) (picW X (X.1 0)) k
      · exact e
      · rw [if_neg e] at h; omega
  rw [e]
  unfold nwB newcN
  cases ha : anyN (nz (newW X)) 16 with
  | true =>
    obtain ⟨i, hi, hz⟩ := anyN_iff.mp ha
    exact (decide_eq_true (Nat.lt_of_le_of_lt (Nat.zero_le _) (cnt_lt hi hz))).symm
  | false =>
    refine (decide_eq_false ?_).symm
    rw [cnt_none (fun i hi => ?_)]
    · omega
    · cases hz : nz (newW X) i with
      | false => rfl
      | true => rw [anyN_true hi hz] at ha; cases ha
def W2 (X : xx_X) (W : Nat → Nat → Nat) (q : Nat → Nat) (s : Nat) : Nat → Nat := if s = X.1 6 + 1 then mwq X W q else W1 X W s
/-- the new view's segments -/
def nvq (X : xx_X) (W : Nat → Nat → Nat) (q : Nat → Nat) (t : Nat) : Nat := if l1N X W ≤ 3 then q t else tgt q (bestq X W q) (X.1 6 + 1) t
def nvN (X : xx_X) (W : Nat → Nat → Nat) : Nat := if l1N X W ≤ 3 then l1N X W else 3
theorem l1N_le {X : xx_X} {W : Nat → Nat → Nat} (h : xInv X W) : l1N X W ≤ 4 := by
  have h1 := h.1.2.2.2.2.2.2.2.2.2.2.2.2.1 (X.1 15)
  have h2 := cntN_le (keepB X W) (X.2.1 12 (X.1 15))
  unfold l1N kcN
  cases nwB X <;> simp <;> omega
theorem best_le (X : xx_X) (W : Nat → Nat → Nat) (q : Nat → Nat) : bestq X W q ≤ 2 := (bst_lt (sumq X W q) 3).1
/-- what a reference's refreshing has made, told with the class's row q -/
def rnZ (X : xx_X) (W : Nat → Nat → Nat) (Y : xx_X) (q : Nat → Nat) : Prop := rF X Y ∧ qOK X W q ∧ Y.2.1 12 (X.1 10) = nvN X W ∧ (∀ t, t < nvN X W → Y.2.1 13 (4 * X.1 10 + t) = nvq X W q t) ∧ (nwB X = true → X.1 6 + 1 ≤ Y.1 6 ∧ sgR Y (X.1 6) (newW X)) ∧ (¬ l1N X W ≤ 3 → nwB X = true ∧ Y.1 6 = X.1 6 + 2 ∧ sgR Y (X.1 6 + 1) (mwq X W q)) ∧ Y.1 6 = X.1 6 + (if l1N X W ≤ 3 then (bif nwB X then 1 else 0) else 2) ∧ Y.1 9 = X.1 9 + (newcN X + if l1N X W ≤ 3 then 0 else cntN (nz (mwq X W q)) 16)
theorem rnR.z {X X' : xx_X} {W : Nat → Nat → Nat} {q : Nat → Nat} (h : rnR X W X') (hX : xInv X W) (hq : qOK X W q) : ∃ Y, rnZ X W Y q ∧ X' = xI (xI Y 10 (X.1 10 + 1)) 15 (X.1 10) := by
  obtain ⟨Y, q', ⟨hF, hq', hc⟩, rfl⟩ := h
  refine ⟨Y, ⟨hF, hq, ?_⟩, rfl⟩
  rcases hc with ⟨c1, c2, c3, c4, c5, c6⟩ | ⟨c1, c2, c3, c4, c5, c6, c7⟩
  · refine ⟨by unfold nvN; rw [if_pos c1]; exact c2, fun t ht => ?_, fun hb => ⟨?_, c6 hb⟩, fun h => absurd c1 h, by rw [if_pos c1]; exact c4, by rw [if_pos c1]; omega⟩
    · unfold nvN at ht
      rw [if_pos c1] at ht
      unfold nvq
      rw [if_pos c1, c3 t ht]
      exact hq'.det hq ht
    · rw [c4, hb]; exact Nat.le_refl _
  · have n3 : ¬ l1N X W ≤ 3 := by omega
    have es : ∀ t, t < 4 → q' t = q t := fun t ht => hq'.det hq (by omega)
    have eb : bestq X W q' = bestq X W q := by
      unfold bestq
      rw [bst_congr (fun i hi => ?_)]
      unfold sumq
      rw [es i (by omega), es (i + 1) (by omega)]
    have b2 := best_le X W q
    have em : mwq X W q' = mwq X W q := by
      unfold mwq
      rw [eb, es _ (by omega), es _ (by omega)]
    have hnb : nwB X = true := by
      cases hb : nwB X with
      | true => rfl
      | false =>
        exfalso
        have h1 := hX.1.2.2.2.2.2.2.2.2.2.2.2.2.1 (X.1 15)
        have h2 := cntN_le (keepB X W) (X.2.1 12 (X.1 15))
        unfold l1N kcN at c1
        rw [hb] at c1
        simp at c1
        omega
    refine ⟨by unfold nvN; rw [if_neg n3]; exact c2, fun t ht => ?_, fun _ => ⟨by omega, c6⟩, fun _ => ⟨hnb, c4, by rw [← em]; exact c7⟩, by rw [if_neg n3]; exact c4, by rw [if_neg n3, ← em]; omega⟩
    unfold nvN at ht
    rw [if_neg n3] at ht
    unfold nvq
    rw [if_neg n3, c3 t ht, eb]
    unfold tgt
    rw [es t (by omega), es (t + 1) (by omega)]
