/-! a reference's refreshing there is; commit, crash -/
noncomputable def pkW (w : Nat → Nat) (c : Nat) : Nat := if h : c < cntN (nz w) 16 then w (Classical.choose (cnt_surj h)) else 0
theorem pkW_at {w : Nat → Nat} {k : Nat} (hk : k < 16) (hw : 0 < w k) : pkW w (cntN (nz w) k) = w k := by
  have hlt : cntN (nz w) k < cntN (nz w) 16 := cnt_lt hk (nz_t.mpr hw)
  unfold pkW
  rw [dif_pos hlt]
  obtain ⟨e1, e2, e3⟩ := Classical.choose_spec (cnt_surj hlt)
  rw [cnt_inj e2 (nz_t.mpr hw) e3]
theorem pkW_le {w : Nat → Nat} {b : Nat} (hb : ∀ k, w k ≤ b) (c : Nat) : pkW w c ≤ b := by
  unfold pkW
  split
  · exact hb _
  · exact Nat.zero_le _
noncomputable def exA (X : xx_X) (W : Nat → Nat → Nat) (q : Nat → Nat) (f i : Nat) : Nat :=
  if f = 7 then (if i = X.1 6 then cntN (nz (newW X)) 16 else if i = X.1 6 + 1 then cntN (nz (mwq X W q)) 16 else X.2.1 7 i)
  else if f = 8 then (if i < 16 * X.1 6 then X.2.1 8 i else if i < 16 * X.1 6 + 16 then pkW (newW X) (i - 16 * X.1 6) else pkW (mwq X W q) (i - 16 * (X.1 6 + 1)))
  else if f = 11 then (if i = X.1 10 then X.1 0 else X.2.1 11 i)
  else if f = 12 then (if i = X.1 10 then nvN X W else X.2.1 12 i)
  else if f = 13 then (if i < 4 * X.1 10 then X.2.1 13 i else if i - 4 * X.1 10 < nvN X W then nvq X W q (i - 4 * X.1 10) else 0)
  else if f = 14 then (if i = X.1 10 then 0 else X.2.1 14 i)
  else X.2.1 f i
noncomputable def exY (X : xx_X) (W : Nat → Nat → Nat) (q : Nat → Nat) : xx_X := (fun f => if f = 6 then X.1 6 + (if l1N X W ≤ 3 then (bif nwB X then 1 else 0) else 2) else if f = 9 then X.1 9 + (newcN X + if l1N X W ≤ 3 then 0 else cntN (nz (mwq X W q)) 16) else X.1 f, exA X W q, X.2.2)
theorem exA_7 (X : xx_X) (W : Nat → Nat → Nat) (q : Nat → Nat) (i : Nat) : exA X W q 7 i = if i = X.1 6 then cntN (nz (newW X)) 16 else if i = X.1 6 + 1 then cntN (nz (mwq X W q)) 16 else X.2.1 7 i := rfl
theorem exA_8 (X : xx_X) (W : Nat → Nat → Nat) (q : Nat → Nat) (i : Nat) : exA X W q 8 i = if i < 16 * X.1 6 then X.2.1 8 i else if i < 16 * X.1 6 + 16 then pkW (newW X) (i - 16 * X.1 6) else pkW (mwq X W q) (i - 16 * (X.1 6 + 1)) := rfl
theorem exA_11 (X : xx_X) (W : Nat → Nat → Nat) (q : Nat → Nat) (i : Nat) : exA X W q 11 i = if i = X.1 10 then X.1 0 else X.2.1 11 i := rfl
theorem exA_12 (X : xx_X) (W : Nat → Nat → Nat) (q : Nat → Nat) (i : Nat) : exA X W q 12 i = if i = X.1 10 then nvN X W else X.2.1 12 i := rfl
theorem exA_13 (X : xx_X) (W : Nat → Nat → Nat) (q : Nat → Nat) (i : Nat) : exA X W q 13 i = if i < 4 * X.1 10 then X.2.1 13 i else if i - 4 * X.1 10 < nvN X W then nvq X W q (i - 4 * X.1 10) else 0 := rfl
theorem exA_14 (X : xx_X) (W : Nat → Nat → Nat) (q : Nat → Nat) (i : Nat) : exA X W q 14 i = if i = X.1 10 then 0 else X.2.1 14 i := rfl
theorem exA_o {X : xx_X} {W : Nat → Nat → Nat} {q : Nat → Nat} {f : Nat} (h7 : f ≠ 7) (h8 : f ≠ 8) (h11 : f ≠ 11) (h12 : f ≠ 12) (h13 : f ≠ 13) (h14 : f ≠ 14) : exA X W q f = X.2.1 f := by
  funext i
  unfold exA
  rw [if_neg h7, if_neg h8, if_neg h11, if_neg h12, if_neg h13, if_neg h14]
theorem mwq_key {X : xx_X} {W : Nat → Nat → Nat} {q : Nat → Nat} {k : Nat} (h : 0 < mwq X W q k) : X.2.1 1 (mwq X W q k) = k := by
  unfold mwq at h ⊢
  obtain ⟨h1, h2⟩ := mwW_pos h
  rw [h1]
  exact cg_key _ _ _ h2
theorem rnR.ex {X : xx_X} {W : Nat → Nat → Nat} {q : Nat → Nat} (hX : xInv X W) (hq : qOK X W q) : ∃ X', rnR X W X' := by
  obtain ⟨hk, hbd, hw0, hc9, hm3, hcs, hheld⟩ := id hX
  obtain ⟨k0, k1, k2, k3, k4, k5, k6, k7, k8, k9, k10, k11, k12, k13⟩ := id hk
  have l4 := l1N_le hX
  have nv3 : nvN X W ≤ 3 := by unfold nvN; split <;> omega
  have hqle : ∀ t, t < l1N X W → q t ≤ X.1 6 := fun t ht => by
    rcases hq.at ht with ⟨j, hj, -, -, e⟩ | ⟨-, -, e⟩
    · have := ((hheld _ k3 held_lt.1).2.1 j hj).1; omega
    · omega
  have nvle : ∀ t, t < nvN X W → nvq X W q t ≤ X.1 6 + 1 := fun t ht => by
    rcases nvq_at (q := q) hX ht with ⟨u, hu, e, -⟩ | ⟨-, -, e⟩
    · have := hqle u hu; omega
    · omega
  have e13 : ∀ t, t < nvN X W → exA X W q 13 (4 * X.1 10 + t) = nvq X W q t := fun t ht => by
    rw [exA_13, if_neg (by omega), show 4 * X.1 10 + t - 4 * X.1 10 = t by omega, if_pos ht]
  have hF : rF X (exY X W q) := by
    refine ⟨fun f h6 h9 => ?_, exA_o (X := X) (W := W) (q := q) (f := 1) (by decide) (by decide) (by decide) (by decide) (by decide) (by decide), exA_o (X := X) (W := W) (q := q) (f := 2) (by decide) (by decide) (by decide) (by decide) (by decide) (by decide), fun t ht => ?_, fun i hi => ?_, fun u hu => ⟨?_, ?_, ?_⟩, fun i hi => ?_, ?_, ?_, rfl, fun f i => ?_⟩
    · show (if f = 6 then _ else if f = 9 then _ else X.1 f) = X.1 f
      rw [if_neg h6, if_neg h9]
    · show exA X W q 7 t = _
      rw [exA_7, if_neg (by omega), if_neg (by omega)]
    · show exA X W q 8 i = _
      rw [exA_8, if_pos hi]
    · show exA X W q 11 u = _
      rw [exA_11, if_neg hu]
    · show exA X W q 12 u = _
      rw [exA_12, if_neg hu]
    · show exA X W q 14 u = _
      rw [exA_14, if_neg hu]
    · show exA X W q 13 i = _
      rw [exA_13, if_pos hi]
    · show exA X W q 11 _ = _
      rw [exA_11, if_pos rfl]
    · show exA X W q 14 _ = _
      rw [exA_14, if_pos rfl]
    · show exA X W q f i ≤ bdF f
      have h9 := hbd f i
      by_cases e7 : f = 7
      · subst e7
        have c1 := cntN_le (nz (newW X)) 16
        have c2 := cntN_le (nz (mwq X W q)) 16
        have h9 : X.2.1 7 i ≤ 16 := h9
        show exA X W q 7 i ≤ 16
        rw [exA_7]
        split
        · exact c1
        · split
          · exact c2
          · exact h9
      by_cases e8 : f = 8
      · subst e8
        have h9 : X.2.1 8 i ≤ 600 := h9
        show exA X W q 8 i ≤ 600
        rw [exA_8]
        split
        · exact h9
        · split
          · exact pkW_le (fun k => Nat.le_trans (newW_le X k) k0) _
          · exact pkW_le (fun k => Nat.le_trans (mwq_le X W q k) k0) _
      by_cases e11 : f = 11
      · subst e11
        have h9 : X.2.1 11 i ≤ 600 := h9
        show exA X W q 11 i ≤ 600
        rw [exA_11]
        split
        · exact k0
        · exact h9
      by_cases e12 : f = 12
      · subst e12
        have h9 : X.2.1 12 i ≤ 4 := h9
        show exA X W q 12 i ≤ 4
        rw [exA_12]
        split
        · omega
        · exact h9
      by_cases e13 : f = 13
      · subst e13
        have h9 : X.2.1 13 i ≤ 319 := h9
        show exA X W q 13 i ≤ 319
        rw [exA_13]
        split
        · exact h9
        · split
          · rename_i h8 h7
            have := nvle _ h7
            omega
          · omega
      by_cases e14 : f = 14
      · subst e14
        have h9 : X.2.1 14 i ≤ 2147483647 := h9
        show exA X W q 14 i ≤ 2147483647
        rw [exA_14]
        split
        · omega
        · exact h9
      rw [exA_o e7 e8 e11 e12 e13 e14]
      exact h9
  have hs1 : sgR (exY X W q) (X.1 6) (newW X) := by
    refine ⟨by show exA X W q 7 _ = _; rw [exA_7, if_pos rfl], fun k hk hw => ⟨?_, ?_⟩⟩
    · have hc := cnt_lt hk (nz_t.mpr hw)
      have h16 := cntN_le (nz (newW X)) 16
      show exA X W q 8 _ = _
      rw [exA_8, if_neg (by omega), if_pos (by omega), show 16 * X.1 6 + cntN (nz (newW X)) k - 16 * X.1 6 = cntN (nz (newW X)) k by omega]
      exact pkW_at hk hw
    · rw [hF.2.1]; exact (newW_key hw).1
  have hs2 : sgR (exY X W q) (X.1 6 + 1) (mwq X W q) := by
    refine ⟨by show exA X W q 7 _ = _; rw [exA_7, if_neg (by omega), if_pos rfl], fun k hk hw => ⟨?_, ?_⟩⟩
    · show exA X W q 8 _ = _
      rw [exA_8, if_neg (by omega), if_neg (by omega), show 16 * (X.1 6 + 1) + cntN (nz (mwq X W q)) k - 16 * (X.1 6 + 1) = cntN (nz (mwq X W q)) k by omega]
      exact pkW_at hk hw
    · rw [hF.2.1]; exact mwq_key hw
  have e12 : (exY X W q).2.1 12 (X.1 10) = nvN X W := by show exA X W q 12 _ = _; rw [exA_12, if_pos rfl]
  have e6 : (exY X W q).1 6 = X.1 6 + (if l1N X W ≤ 3 then (bif nwB X then 1 else 0) else 2) := rfl
  have e9 : (exY X W q).1 9 = X.1 9 + (newcN X + if l1N X W ≤ 3 then 0 else cntN (nz (mwq X W q)) 16) := rfl
  refine ⟨_, exY X W q, q, ⟨hF, hq, ?_⟩, rfl⟩
  by_cases h3 : l1N X W ≤ 3
  · have hnv : nvN X W = l1N X W := by unfold nvN; rw [if_pos h3]
    rw [if_pos h3] at e6 e9
    exact Or.inl ⟨h3, by rw [e12, hnv], fun t ht => by show exA X W q 13 _ = _; rw [e13 t (by omega)]; unfold nvq; rw [if_pos h3], e6, e9, fun _ => hs1⟩
  · have hnv : nvN X W = 3 := by unfold nvN; rw [if_neg h3]
    rw [if_neg h3] at e6 e9
    exact Or.inr ⟨by omega, by rw [e12, hnv], fun t ht => by show exA X W q 13 _ = _; rw [e13 t (by omega)]; unfold nvq; rw [if_neg h3], e6, by omega, hs1, hs2⟩
theorem rnR.eq {X X' : xx_X} {W : Nat → Nat → Nat} (h : rnR X W X') : X'.1 10 = X.1 10 + 1 ∧ X'.1 15 = X.1 10 ∧ X'.1 16 = X.1 16 ∧ X'.1 0 = X.1 0 ∧ X'.1 17 = X.1 17 ∧ X'.2.1 14 = (fun v => if v = X.1 10 then 0 else X.2.1 14 v) := by
  obtain ⟨Y, q, ⟨hF, -⟩, rfl⟩ := h
  refine ⟨by rw [xI_o (by decide), xI_s], xI_s, by rw [xI_o (by decide), xI_o (by decide)]; exact hF.1 16 (by decide) (by decide), by rw [xI_o (by decide), xI_o (by decide)]; exact hF.1 0 (by decide) (by decide), by rw [xI_o (by decide), xI_o (by decide)]; exact hF.1 17 (by decide) (by decide), funext fun v => ?_⟩
  show Y.2.1 14 v = _
  by_cases e : v = X.1 10
  · rw [if_pos e, e]; exact hF.2.2.2.2.2.2.2.2.1
  · rw [if_neg e]; exact (hF.2.2.2.2.2.1 v e).2.2
theorem RelP.go2 {S S' : mm_H} {X0 X' : xx_X} {W0 W' : Nat → Nat → Nat} {o nw sf vs cn : Nat} {va ga0 ga' : Nat → Nat} (h0 : Rel S' X0 W0 o nw sf vs cn va ga0) (hO : vsO S S' vs) (h : RelP S X' W' o nw sf vs cn va ga') (e10 : X'.1 10 = X0.1 10) (eh : heldN X' = heldN X0) : Rel S' X' W' o nw sf vs cn va ga' := h.go hO (fun v hv => by rw [e10, eh]; exact h0.2.2.2.2.2.2.1 v hv)
/-- one of the two states of the object is written, before letting go -/
theorem RelP.stF {S S' : mm_H} {X X' : xx_X} {W : Nat → Nat → Nat} {o nw sf vs cn : Nat} {va ga : Nat → Nat} (hL : RelP S X W o nw sf vs cn va ga) {t c w : Nat} (ht : t = nw ∨ t = sf) (tK : mm_K S t = 2) (tc : mm_P S t 1 = some c) (tw : mm_P S t 2 = some w) (cK : mm_K S c = 6) (wK : mm_K S w = 6) (hF : Fr S S' (fun b => (b = t ∨ b = c) ∨ b = w)) (hK : ∀ x, mm_K S' x = mm_K S x) (hP : ∀ x k, mm_P S' x k = mm_P S x k) (hnw' : stA S' nw (X'.1 0) (picC X' (X'.1 0)) (picW X' (X'.1 0))) (hsf' : stA S' sf (X'.1 17) (picC X' (X'.1 17)) (picW X' (X'.1 17))) (hi : ∀ f, f ≠ 0 → f ≠ 17 → X'.1 f = X.1 f) (h2 : X'.2 = X.2) (hX' : xInv X' W) : RelP S' X' W o nw sf vs cn va ga := by
  obtain ⟨⟨o1, o2, o3, o4, o5, o6, o7, o8, o9, o10, o11, o12, o13⟩, hns, hnw, hsf, hvK, hvL, hvp, hview, hsegs, hUQ, hXI⟩ := hL
  have h21 : X'.2.1 = X.2.1 := by rw [h2]
  have kind : ∀ b, mm_K S b ≠ 2 → mm_K S b ≠ 6 → ¬ ((b = t ∨ b = c) ∨ b = w) := fun b h2 h6 q => by
    rcases q with (rfl | rfl) | rfl
    · exact h2 tK
    · exact h6 cK
    · exact h6 wK
  have arr : ∀ b, (mm_K S b = 1 ∨ mm_K S b = 2) → b ≠ t → ∀ i d, mm_P S b i = some d → mm_K S d = 6 → ¬ ((d = t ∨ d = c) ∨ d = w) := fun b hb hbn i d hd hd6 q => by
    rcases q with (rfl | rfl) | rfl
    · omega
    · exact hbn (hUQ.1 b t i 1 d hb (Or.inr tK) hd tc hd6).1
    · exact hbn (hUQ.1 b t i 2 d hb (Or.inr tK) hd tw hd6).1
  have st : ∀ b, mm_K S b = 2 → b ≠ t → ¬ ((b = t ∨ b = c) ∨ b = w) := fun b hb hbn q => by
    rcases q with (rfl | rfl) | rfl
    · exact hbn rfl
    · omega
    · omega
  have pc : ∀ m, picC X' m = picC X m := fun m => by unfold picC; rw [h21]
  have pw : ∀ m, picW X' m = picW X m := fun m => by unfold picW; rw [h21]
  obtain ⟨f1, f2, f3, f4⟩ := hF o (by omega) (kind o (by omega) (by omega))
  obtain ⟨v1, v2, v3, v4⟩ := hF vs (by omega) (kind vs (by omega) (by omega))
  have hh : heldN X' = heldN X := heldN_of (hi 15 (by decide) (by decide)) (hi 16 (by decide) (by decide)) (by rw [h21])
  refine ⟨⟨(hK o).trans o1, (hP o 0).trans o2, (hP o 1).trans o3, (hP o 2).trans o4, ?_, ?_, ?_, ?_, ?_, ?_, ?_, ?_, (f2 11).trans o13⟩, hns, hnw', hsf', (hK vs).trans hvK, v4.trans hvL, ?_, ?_, ?_, ?_, hX'⟩
  · rw [hi 10 (by decide) (by decide)]; exact (f2 3).trans o5
  · rw [hi 15 (by decide) (by decide)]; exact (hP o 4).trans o6
  · rw [hi 16 (by decide) (by decide)]; exact (hP o 5).trans o7
  · rw [hi 6 (by decide) (by decide)]; exact (f2 6).trans o8
  · rw [hi 9 (by decide) (by decide)]; exact (f2 7).trans o9
  · rw [hi 3 (by decide) (by decide)]; exact (f2 8).trans o10
  · rw [h2]; exact (f2 9).trans o11
  · rw [h2]; exact (f2 10).trans o12
  · intro v hv
    rw [hi 10 (by decide) (by decide), hh, h21, hP]
    refine ⟨(hvp v hv).1, ?_⟩
    rcases (hvp v hv).2 with h9 | ⟨h9, h8, h7, h6⟩
    · exact Or.inl h9
    · exact Or.inr ⟨h9, h8, (hK _).trans h7, ((hF (va v) (by omega) (kind _ (by omega) (by omega))).2.1 3).trans h6⟩
  · rw [hi 10 (by decide) (by decide), hh]
    intro v hv hhv
    have nt : ∀ b, b ≠ nw → b ≠ sf → b ≠ t := fun b q1 q2 e => by
      rcases ht with q | q
      · exact q1 (e.trans q)
      · exact q2 (e.trans q)
    exact ((hview v hv hhv).fr hF (kind _ (by have := (hview v hv hhv).1; omega) (by have := (hview v hv hhv).1; omega)) (fun b hb h1 h2 => ⟨st b hb (nt b h1 h2), arr b (Or.inr hb) (nt b h1 h2)⟩) (fun b hb => kind b (by omega) (by omega))).ofX (by rw [h21]) (by rw [h21]) (by rw [h21]) (fun i _ => by rw [h21]) (pc _) (pw _)
  · rw [hi 10 (by decide) (by decide), hh, h21]
    intro v hv hhv i hi'
    have hs := hsegs v hv hhv i hi'
    exact hs.fr hF (kind _ (by have := hs.1.1; omega) (by have := hs.1.1; omega)) (arr _ (Or.inl hs.1.1) (fun e => by have := hs.1.1; rw [e] at this; omega))
  · refine ⟨fun a b i j d h1 h3 h4 h5 h6 => ?_, fun a i d h1 h4 => ?_⟩
    · rw [hK] at h1 h3 h6
      rw [hP] at h4 h5
      exact hUQ.1 a b i j d h1 h3 h4 h5 h6
    · rw [hK] at h1 ⊢
      rw [hP] at h4
      exact hUQ.2 a i d h1 h4
/-- what is safe is what is now -/
theorem RelP.syn {S S1 S' : mm_H} {X : xx_X} {W : Nat → Nat → Nat} {o nw sf vs cn fc fw mc mw : Nat} {va ga : Nat → Nat} (hL : RelP S X W o nw sf vs cn va ga) (f1 : mm_P S sf 1 = some fc) (f2 : mm_P S sf 2 = some fw) (m1 : mm_P S nw 1 = some mc) (m2 : mm_P S nw 2 = some mw) (h1 : S1 = mm_sR (mm_sI S sf 0 (nI (X.1 0))) fc (fun j => if j < 16 then mm_I (mm_sI S sf 0 (nI (X.1 0))) mc j else mm_I (mm_sI S sf 0 (nI (X.1 0))) fc j)) (h2 : S' = mm_sR S1 fw (fun j => if j < 16 then mm_I S1 mw j else mm_I S1 fw j)) : RelP S' (xI X 17 (X.1 0)) W o nw sf vs cn va ga := by
  obtain ⟨-, hns, hnw, hsf, -, -, -, -, -, hUQ, hXI⟩ := id hL
  obtain ⟨hfK, hfI, fc', fw', hfP1, hfP2, hfKc, hfLc, hfKw, hfLw, -⟩ := id hsf
  have hmK := hnw.1
  cases f1.symm.trans hfP1
  cases f2.symm.trans hfP2
  have hcp := stA.cp hUQ hnw (Ne.symm hns) hfK hfP1 hfP2 m1 m2 hfKc hfLc hfKw hfLw h1 h2
  refine hL.stF (X' := xI X 17 (X.1 0)) (Or.inr rfl) hfK hfP1 hfP2 hfKc hfKw hcp.2.1 hcp.2.2.1 hcp.2.2.2 ?_ (by rw [xI_s]; exact hcp.1) (fun f h0 h17 => xI_o h17) rfl hXI.safe
  rw [xI_o (by decide)]
  refine hnw.fr hcp.2.1 (fun q => ?_) (fun i c hc h6 q => ?_)
  · rcases q with (q | q) | q
    · exact hns q
    · rw [q] at hmK; omega
    · rw [q] at hmK; omega
  · rcases q with (q | q) | q
    · rw [q] at h6; omega
    · exact hns (hUQ.1 nw sf i 1 c (Or.inr hmK) (Or.inr hfK) hc (by rw [hfP1, q]) h6).1
    · exact hns (hUQ.1 nw sf i 2 c (Or.inr hmK) (Or.inr hfK) hc (by rw [hfP2, q]) h6).1
/-- what was committed last is the latest -/
theorem RelP.com {S : mm_H} {X : xx_X} {W : Nat → Nat → Nat} {o nw sf vs cn : Nat} {va ga : Nat → Nat} (hL : RelP S X W o nw sf vs cn va ga) (h17 : X.2.1 11 (X.1 15) ≤ X.1 17) : RelP (mm_sP S o 5 (some (va (X.1 15)))) (xI X 16 (X.1 15)) W o nw sf vs cn va ga := by
  obtain ⟨⟨o1, o2, o3, o4, o5, o6, o7, o8, o9, o10, o11, o12, o13⟩, hns, hnw, hsf, hvK, hvL, hvp, hview, hsegs, hUQ, hXI⟩ := hL
  have hF := Fr.sP S o 5 (some (va (X.1 15)))
  have ne : ∀ b, mm_K S b ≠ 4 → ¬ b = o := fun b hb e => hb (by rw [e]; exact o1)
  have ar : ∀ b, ∀ i c, mm_P S b i = some c → mm_K S c = 6 → ¬ c = o := fun b i c _ h6 => ne c (by omega)
  have io := fun {f : Nat} (h : f ≠ 16) => xI_o (Y := X) (v := X.1 15) h
  have hh : ∀ v, heldN (xI X 16 (X.1 15)) v = true → heldN X v = true := fun v h => by
    unfold heldN at h ⊢
    rw [xI_s, io (f := 15) (by decide)] at h
    simp only [Bool.or_eq_true, decide_eq_true_eq] at h ⊢
    have h : (v = X.1 15 ∨ v = X.1 15) ∨ 0 < X.2.1 14 v := h
    omega
  have p : ∀ j, j ≠ 5 → mm_P (mm_sP S o 5 (some (va (X.1 15)))) o j = mm_P S o j := fun j hj => by rw [mm_P_sP, if_neg (fun q => hj q.2)]
  refine ⟨⟨o1, (p 0 (by decide)).trans o2, (p 1 (by decide)).trans o3, (p 2 (by decide)).trans o4, ?_, ?_, ?_, ?_, ?_, ?_, o11, o12, o13⟩, hns, ?_, ?_, hvK, hvL, ?_, ?_, ?_, hUQ.sPo (by omega) (by omega), ?_⟩
  · rw [io (by decide)]; exact o5
  · rw [io (by decide), p 4 (by decide)]; exact o6
  · rw [xI_s, mm_P_sP, if_pos ⟨rfl, rfl⟩]
  · rw [io (by decide)]; exact o8
  · rw [io (by decide)]; exact o9
  · rw [io (by decide)]; exact o10
  · rw [io (by decide)]; exact hnw.fr hF (ne _ (by have := hnw.1; omega)) (ar nw)
  · rw [io (by decide)]; exact hsf.fr hF (ne _ (by have := hsf.1; omega)) (ar sf)
  · intro v hv
    rw [io (f := 10) (by decide), mm_P_sP, if_neg (fun q => by have := q.1; rw [← this] at o1; omega)]
    exact ⟨fun q1 q2 => (hvp v hv).1 q1 (hh v q2), (hvp v hv).2⟩
  · rw [io (f := 10) (by decide)]
    intro v hv hv2
    exact ((hview v hv (hh v hv2)).fr hF (ne _ (by have := (hview v hv (hh v hv2)).1; omega)) (fun b hb _ _ => ⟨ne b (by omega), ar b⟩) (fun b hb => ne b (by omega))).ofX rfl rfl rfl (fun _ _ => rfl) rfl rfl
  · rw [io (f := 10) (by decide)]
    intro v hv hv2 i hi
    have hs := hsegs v hv (hh v hv2) i hi
    exact hs.fr hF (ne _ (by have := hs.1.1; omega)) (ar _)
  · obtain ⟨g1, g2, g3, g4, g5, g6, g7⟩ := hXI
    obtain ⟨k0, k1, k2, k3, k4, k5, k6, k7⟩ := g1
    refine ⟨⟨by rw [io (by decide)]; exact k0, by rw [io (by decide)]; exact k1, by rw [io (by decide)]; exact k2, by rw [io (by decide), io (by decide)]; exact k3, by rw [xI_s, io (by decide)]; exact k3, by rw [io (by decide), io (by decide)]; exact k5, by rw [io (by decide), io (by decide)]; exact k6, k7⟩, g2, g3, by rw [io (by decide), io (by decide)]; exact g4, by rw [io (by decide)]; exact g5, by rw [xI_s, io (by decide)]; exact h17, ?_⟩
    rw [io (f := 10) (by decide), io (f := 0) (by decide), io (f := 6) (by decide)]
    intro v hv hv2
    exact g7 v hv (hh v hv2)
theorem xI_comm (X : xx_X) {f g v w : Nat} (h : f ≠ g) : xI (xI X f v) g w = xI (xI X g w) f v := by
  unfold xI
  refine Prod.ext ?_ rfl
  funext j
  show (if j = g then w else if j = f then v else X.1 j) = if j = f then v else if j = g then w else X.1 j
  by_cases e : j = g
  · rw [if_pos e, if_neg (by omega), if_pos e]
  · rw [if_neg e]
    by_cases e2 : j = f
    · rw [if_pos e2, if_pos e2]
    · rw [if_neg e2, if_neg e2, if_neg e]
