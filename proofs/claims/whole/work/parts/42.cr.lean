/-! a crash -/
def clO (S T : mm_H) : Prop := (∀ a, mm_K T a = mm_K S a) ∧ (∀ a k, mm_P T a k = mm_P S a k) ∧ (∀ a, mm_L T a = mm_L S a) ∧ ∀ a k, mm_K S a ≠ 3 ∨ k ≠ 3 → mm_I T a k = mm_I S a k
theorem crX_14 {X : xx_X} {v : Nat} (h : v < X.1 10) : (crX X).2.1 14 v = 0 := by
  show (if 14 = 14 ∧ v < X.1 10 then 0 else (xI X 0 (X.1 17)).2.1 14 v) = 0
  rw [if_pos ⟨rfl, h⟩]
theorem crX_held {X : xx_X} {v : Nat} (h : v < X.1 10) (hh : heldN (crX X) v = true) : v = X.1 16 := by
  unfold heldN at hh
  obtain ⟨c0, c15, cf⟩ := crX_1 X
  rw [c15, cf 16 (by decide) (by decide), crX_14 h] at hh
  simp only [Bool.or_eq_true, decide_eq_true_eq] at hh
  omega
theorem xInv.cr {X : xx_X} {W : Nat → Nat → Nat} (h : xInv X W) : xInv (crX X) W := by
  obtain ⟨g1, g2, g3, g4, g5, g6, g7⟩ := h
  obtain ⟨c0, c15, cf⟩ := crX_1 X
  have hb : xx_bd (crX X) := fun f i => by
    show (if f = 14 ∧ i < X.1 10 then 0 else X.2.1 f i) ≤ bdF f
    split
    · exact Nat.zero_le _
    · exact g2 f i
  refine ⟨g1.cr, hb, by rw [crX_2 X (by decide)]; exact g3, by rw [cf 9 (by decide) (by decide), cf 10 (by decide) (by decide)]; exact g4, by rw [cf 3 (by decide) (by decide)]; exact g5, by rw [cf 16 (by decide) (by decide), cf 17 (by decide) (by decide), crX_2 X (by decide)]; exact g6, ?_⟩
  rw [cf 10 (by decide) (by decide), cf 6 (by decide) (by decide), c0, crX_2 X (f := 11) (by decide), crX_2 X (f := 12) (by decide), crX_2 X (f := 13) (by decide)]
  intro v hv hh
  have e := crX_held hv hh
  subst e
  obtain ⟨q1, q2, q3⟩ := g7 _ hv held_lt.2
  exact ⟨g6, fun i hi => ⟨(q2 i hi).1, (q2 i hi).2.1.ofX (by rw [crX_2 X (by decide)]) (fun _ _ => by rw [crX_2 X (by decide)]) (fun _ _ _ => by rw [crX_2 X (by decide)]), (q2 i hi).2.2⟩, q3⟩
theorem Rel.cr {S S1 S2 : mm_H} {X : xx_X} {W : Nat → Nat → Nat} {o nw sf vs cn mc mw : Nat} {va ga : Nat → Nat} (hL : Rel S X W o nw sf vs cn va ga) (m1 : mm_P S nw 1 = some mc) (m2 : mm_P S nw 2 = some mw) (hst : stA S1 nw (X.1 17) (picC X (X.1 17)) (picW X (X.1 17))) (hF : Fr S S1 (fun x => (x = nw ∨ x = mc) ∨ x = mw)) (hK : ∀ x, mm_K S1 x = mm_K S x) (hP : ∀ x k, mm_P S1 x k = mm_P S x k) (hLL : ∀ x, mm_L S1 x = mm_L S x) (hC : clO S1 S2) (hz : ∀ v, v < X.1 10 → heldN X v = true → mm_I S2 (va v) 3 = nI 0) : RelP (mm_sP S2 o 4 (some (va (X.1 16)))) (crX X) W o nw sf vs cn va ga := by
  obtain ⟨⟨o1, o2, o3, o4, o5, o6, o7, o8, o9, o10, o11, o12, o13⟩, hns, hnw, hsf, hvK, hvL, hvs, hview, hsegs, hUQ, hXI⟩ := hL
  obtain ⟨n1, n2, mc', mw', n3, n4, n5, n6, n7, n8, -⟩ := id hnw
  cases m1.symm.trans n3
  cases m2.symm.trans n4
  obtain ⟨p1, p2, p3, p4⟩ := hC
  obtain ⟨c0, c15, cf⟩ := crX_1 X
  have k3 := hXI.1.2.2.2.1
  have k4 := hXI.1.2.2.2.2.1
  have K3 : ∀ x, mm_K (mm_sP S2 o 4 (some (va (X.1 16)))) x = mm_K S x := fun x => (p1 x).trans (hK x)
  have L3 : ∀ x, mm_L (mm_sP S2 o 4 (some (va (X.1 16)))) x = mm_L S x := fun x => (p3 x).trans (hLL x)
  have P3 : ∀ x k, (x ≠ o ∨ k ≠ 4) → mm_P (mm_sP S2 o 4 (some (va (X.1 16)))) x k = mm_P S x k := fun x k h => by
    rw [mm_P_sP, if_neg (fun q => by omega)]; exact (p2 x k).trans (hP x k)
  have nM : ∀ x, mm_K S x ≠ 2 → mm_K S x ≠ 6 → ¬ ((x = nw ∨ x = mc) ∨ x = mw) := fun x h2 h6 q => by
    rcases q with (q | q) | q
    · exact h2 (by rw [q]; exact n1)
    · exact h6 (by rw [q]; exact n5)
    · exact h6 (by rw [q]; exact n7)
  have I3 : ∀ x k, mm_K S x ≠ 0 → mm_K S x ≠ 2 → mm_K S x ≠ 6 → (mm_K S x ≠ 3 ∨ k ≠ 3) → mm_I (mm_sP S2 o 4 (some (va (X.1 16)))) x k = mm_I S x k := fun x k h0 h2 h6 h3 => by
    rw [mm_I_sP, p4 x k (by rw [hK]; exact h3)]
    exact (hF x h0 (nM x h2 h6)).2.1 k
  have F13 : Fr S1 (mm_sP S2 o 4 (some (va (X.1 16)))) (fun x => mm_K S1 x = 3 ∨ x = o) := fun x _ hM => ⟨p1 x, fun k => by rw [mm_I_sP]; exact p4 x k (Or.inl (fun e => hM (Or.inl e))), fun k => by rw [mm_P_sP, if_neg (fun q => hM (Or.inr q.1))]; exact p2 x k, p3 x⟩
  have FF : Fr S (mm_sP S2 o 4 (some (va (X.1 16)))) (fun x => ((x = nw ∨ x = mc) ∨ x = mw) ∨ mm_K S x = 3 ∨ x = o) := (hF.trans F13).mono (fun x _ e => by
    rcases e with e | e
    · exact Or.inl e
    · rw [hK] at e; exact Or.inr e)
  have kind : ∀ x, mm_K S x ≠ 2 → mm_K S x ≠ 6 → mm_K S x ≠ 3 → mm_K S x ≠ 4 → ¬ (((x = nw ∨ x = mc) ∨ x = mw) ∨ mm_K S x = 3 ∨ x = o) := fun x h2 h6 h3 h4 q => by
    rcases q with q | q | q
    · exact nM x h2 h6 q
    · exact h3 q
    · exact h4 (by rw [q]; exact o1)
  have arr : ∀ b, (mm_K S b = 1 ∨ mm_K S b = 2) → b ≠ nw → ∀ i d, mm_P S b i = some d → mm_K S d = 6 → ¬ (((d = nw ∨ d = mc) ∨ d = mw) ∨ mm_K S d = 3 ∨ d = o) := fun b hb hbn i d hd hd6 q => by
    rcases q with ((q | q) | q) | q | q
    · rw [q] at hd6; omega
    · exact hbn (hUQ.1 b nw i 1 d hb (Or.inr n1) hd (by rw [n3, q]) hd6).1
    · exact hbn (hUQ.1 b nw i 2 d hb (Or.inr n1) hd (by rw [n4, q]) hd6).1
    · omega
    · rw [q] at hd6; omega
  have st : ∀ b, mm_K S b = 2 → b ≠ nw → ¬ (((b = nw ∨ b = mc) ∨ b = mw) ∨ mm_K S b = 3 ∨ b = o) := fun b hb hbn q => by
    rcases q with ((q | q) | q) | q | q
    · exact hbn q
    · rw [q] at hb; omega
    · rw [q] at hb; omega
    · omega
    · rw [q] at hb; omega
  have pc : ∀ m, picC (crX X) m = picC X m := fun m => by unfold picC; rw [crX_2 X (by decide)]
  have pw : ∀ m, picW (crX X) m = picW X m := fun m => by unfold picW; rw [crX_2 X (f := 1) (by decide), crX_2 X (f := 2) (by decide)]
  have oI : ∀ k, mm_I (mm_sP S2 o 4 (some (va (X.1 16)))) o k = mm_I S o k := fun k => I3 o k (by omega) (by omega) (by omega) (Or.inl (by omega))
  refine ⟨⟨(K3 o).trans o1, (P3 o 0 (Or.inr (by decide))).trans o2, (P3 o 1 (Or.inr (by decide))).trans o3, (P3 o 2 (Or.inr (by decide))).trans o4, ?_, ?_, ?_, ?_, ?_, ?_, (oI 9).trans o11, (oI 10).trans o12, (oI 11).trans o13⟩, hns, ?_, ?_, (K3 vs).trans hvK, (L3 vs).trans hvL, ?_, ?_, ?_, ?_, hXI.cr⟩
  · rw [cf 10 (by decide) (by decide), oI]; exact o5
  · rw [c15, mm_P_sP, if_pos ⟨rfl, rfl⟩]
  · rw [cf 16 (by decide) (by decide), P3 o 5 (Or.inr (by decide))]; exact o7
  · rw [cf 6 (by decide) (by decide), oI]; exact o8
  · rw [cf 9 (by decide) (by decide), oI]; exact o9
  · rw [cf 3 (by decide) (by decide), oI]; exact o10
  · rw [c0, pc, pw]
    refine hst.fr F13 (fun q => ?_) (fun i c _ h6 q => ?_)
    · have := hst.1
      rcases q with q | q
      · omega
      · rw [q, hK] at this; omega
    · rcases q with q | q
      · omega
      · rw [q, hK] at h6; omega
  · rw [cf 17 (by decide) (by decide), pc, pw]
    exact hsf.fr FF (st sf hsf.1 (Ne.symm hns)) (arr sf (Or.inr hsf.1) (Ne.symm hns))
  · intro v hv
    have no : vs ≠ o := fun e => by rw [e] at hvK; omega
    rw [cf 10 (by decide) (by decide), P3 vs v (Or.inl no)]
    refine ⟨fun q1 q2 => ?_, ?_⟩
    · have e := crX_held q1 q2
      subst e
      rw [hvs _ hv, decide_eq_true q1, held_lt.2]; rfl
    · by_cases q1 : v < X.1 10
      · cases q2 : heldN X v with
        | true => exact Or.inr ⟨q1, by rw [hvs v hv, decide_eq_true q1, q2]; rfl, (K3 _).trans (hview v q1 q2).1, by rw [mm_I_sP, hz v q1 q2, crX_14 q1]⟩
        | false => exact Or.inl (by rw [hvs v hv, q2, Bool.and_false]; rfl)
      · exact Or.inl (by rw [hvs v hv, decide_eq_false q1]; rfl)
  · rw [cf 10 (by decide) (by decide)]
    intro v hv hh
    have e := crX_held hv hh
    subst e
    obtain ⟨a1, a2, a3, u, pr, a4, a5, a6, a7, a8, a9, a10, a11⟩ := hview _ hv held_lt.2
    have no : va (X.1 16) ≠ o := fun e => by rw [e] at a1; omega
    obtain ⟨z1, z2, z3, z4⟩ := FF pr (by omega) (kind pr (by omega) (by omega) (by omega) (by omega))
    refine ⟨(K3 _).trans a1, (I3 _ 0 (by omega) (by omega) (by omega) (Or.inr (by decide))).trans a2, by rw [mm_I_sP, hz _ hv held_lt.2, crX_14 hv], u, pr, (P3 _ 1 (Or.inl no)).trans a4, (P3 _ 2 (Or.inl no)).trans a5, a6, a7, ?_, z1.trans a9, ?_, ?_⟩
    · rw [crX_2 X (by decide), pc, pw]
      exact a8.fr FF (st u a8.1 a6) (arr u (Or.inr a8.1) a6)
    · rw [crX_2 X (by decide)]; exact z4.trans a10
    · rw [crX_2 X (f := 12) (by decide), crX_2 X (f := 13) (by decide)]
      exact fun i hi => (z3 i).trans (a11 i hi)
  · rw [cf 10 (by decide) (by decide), crX_2 X (f := 12) (by decide), crX_2 X (f := 13) (by decide)]
    intro v hv hh i hi
    have e := crX_held hv hh
    subst e
    have hs := hsegs _ hv held_lt.2 i hi
    have h1 := hs.1.1
    exact hs.fr FF (kind _ (by omega) (by omega) (by omega) (by omega)) (arr _ (Or.inl h1) (fun e => by rw [e] at h1; omega))
  · refine ⟨fun a b i j d q1 q2 q3 q4 q5 => ?_, fun a i d q1 q3 => ?_⟩
    · rw [K3] at q1 q2 q5
      rw [P3 a i (Or.inl (fun e => by rw [e] at q1; omega))] at q3
      rw [P3 b j (Or.inl (fun e => by rw [e] at q2; omega))] at q4
      exact hUQ.1 a b i j d q1 q2 q3 q4 q5
    · rw [K3] at q1 ⊢
      rw [P3 a i (Or.inl (fun e => by rw [e] at q1; omega))] at q3
      exact hUQ.2 a i d q1 q3
