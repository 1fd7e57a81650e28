def ga2 (X : xx_X) (ga : Nat → Nat) (g1 g2 s : Nat) : Nat := if s = X.1 6 then g1 else if s = X.1 6 + 1 then g2 else ga s
def va2 (X : xx_X) (va : Nat → Nat) (v u : Nat) : Nat := if u = X.1 10 then v else va u
theorem ga2_o {X : xx_X} {ga : Nat → Nat} {g1 g2 s : Nat} (h : s < X.1 6) : ga2 X ga g1 g2 s = ga s := by unfold ga2; rw [if_neg (by omega), if_neg (by omega)]
theorem va2_o {X : xx_X} {va : Nat → Nat} {v u : Nat} (h : u ≠ X.1 10) : va2 X va v u = va u := by unfold va2; rw [if_neg h]
theorem va2_s (X : xx_X) (va : Nat → Nat) (v : Nat) : va2 X va v (X.1 10) = v := by unfold va2; rw [if_pos rfl]
/-- what the class has made of a refreshing -/
def rnC (S S' : mm_H) (X : xx_X) (W : Nat → Nat → Nat) (o vs : Nat) (ga : Nat → Nat) (q : Nat → Nat) (g1 g2 v : Nat) : Prop := ∃ T f st,
  gR S T o o (X.1 6 + (if l1N X W ≤ 3 then (bif nwB X then 1 else 0) else 2)) (X.1 9 + (newcN X + if l1N X W ≤ 3 then 0 else cntN (nz (mwq X W q)) 16)) ∧ mm_K S f = 0 ∧ mm_K T f = 7 ∧ mm_L T f = nvN X W ∧ (∀ t, t < nvN X W → mm_P T f t = some (ga2 X ga g1 g2 (nvq X W q t))) ∧ (nwB X = true → sgN S T g1 (X.1 6) 16 (newW X)) ∧ (¬ l1N X W ≤ 3 → sgN S T g2 (X.1 6 + 1) 16 (mwq X W q)) ∧ avP T S' o vs f (X.1 10) st v (X.1 0) (picC X (X.1 0)) (picW X (X.1 0))
theorem viewV.ga {S : mm_H} {X : xx_X} {ga ga' : Nat → Nat} {nw sf v a : Nat} (h : viewV S X ga nw sf v a) (he : ∀ i, i < X.2.1 12 v → ga' (X.2.1 13 (4 * v + i)) = ga (X.2.1 13 (4 * v + i))) : viewV S X ga' nw sf v a := by
  obtain ⟨q1, q2, q3, st, pr, q4, q5, q6, q7, q8, q9, q10, q11⟩ := h
  exact ⟨q1, q2, q3, st, pr, q4, q5, q6, q7, q8, q9, q10, fun i hi => by rw [he i hi]; exact q11 i hi⟩
theorem RelP.rn {S S' : mm_H} {X X' : xx_X} {W : Nat → Nat → Nat} {o nw sf vs cn g1 g2 v : Nat} {va ga q : Nat → Nat} (hL : RelP S X W o nw sf vs cn va ga) (h10 : X.1 10 < 150) (hq : qOK X W q) (hC : rnC S S' X W o vs ga q g1 g2 v) (hR : rnR X W X') : RelP S' X' (W2 X W q) o nw sf vs cn (va2 X va v) (ga2 X ga g1 g2) := by
  obtain ⟨⟨hoK, hoP0, hoP1, hoP2, hoI3, hoP4, hoP5, hoI6, hoI7, hoI8, hoI9, hoI10, hoI11⟩, hns, hnw, hsf, hvK, hvL, hvp, hview, hsegs, hUQ, hXI⟩ := id hL
  obtain ⟨hk, hbd, hw0, hc9, hm3, hcs, hheld⟩ := id hXI
  obtain ⟨k0, k1, k2, k3, k4, k5, k6, k7, k8, k9, k10, k11, k12, k13⟩ := id hk
  obtain ⟨Y, hZ, rfl⟩ := hR.z hXI hq
  obtain ⟨T, f, st, hG, hf0, hfK, hfL, hfE, hN1, hN2, hA⟩ := hC
  obtain ⟨hF, -, h12, h13, hn, hm, e6, e9⟩ := id hZ
  obtain ⟨f1, f2, f3, f4, f5, f6, f7, f8, f9, f10, f11⟩ := id hF
  obtain ⟨a1, a2, a3, a4, a5, a6, a7, a8, a9, a10, a11, a12, a13, a14, a15, a16, a17, a18, a19⟩ := hA
  obtain ⟨r1, r2, r3, r4, r5, r6, r7⟩ := id hG
  have I : ∀ f, f ≠ 10 → f ≠ 15 → (xI (xI Y 10 (X.1 10 + 1)) 15 (X.1 10)).1 f = Y.1 f := fun f q1 q2 => by rw [xI_o q2, xI_o q1]
  have I10 : (xI (xI Y 10 (X.1 10 + 1)) 15 (X.1 10)).1 10 = X.1 10 + 1 := by rw [xI_o (by decide), xI_s]
  have E0 : Y.1 0 = X.1 0 := f1 0 (by decide) (by decide)
  have E16 : Y.1 16 = X.1 16 := f1 16 (by decide) (by decide)
  have E17 : Y.1 17 = X.1 17 := f1 17 (by decide) (by decide)
  have E3 : Y.1 3 = X.1 3 := f1 3 (by decide) (by decide)
  have hFF : Fr S S' (fun x => x = o ∨ x = vs) := (r1.trans a3).mono (fun x _ e => by
    rcases e with (e | e) | e
    · exact Or.inl e
    · exact Or.inl e
    · exact e)
  have ne : ∀ x, mm_K S x ≠ 4 → mm_K S x ≠ 8 → ¬ (x = o ∨ x = vs) := fun x q4 q8 e => by
    rcases e with e | e
    · exact q4 (by rw [e]; exact hoK)
    · exact q8 (by rw [e]; exact hvK)
  have ar : ∀ b, ∀ i c, mm_P S b i = some c → mm_K S c = 6 → ¬ (c = o ∨ c = vs) := fun b i c _ h6 => ne c (by omega) (by omega)
  have ovs : vs ≠ o := fun e => by rw [e] at hvK; omega
  have hvsT := r1 vs (by omega) (fun e => by rcases e with e | e <;> exact ovs e)
  have pC : ∀ m, picC (xI (xI Y 10 (X.1 10 + 1)) 15 (X.1 10)) m = picC X m := fun m => by unfold picC; rw [xI_2, xI_2, f2]
  have pW : ∀ m, picW (xI (xI Y 10 (X.1 10 + 1)) 15 (X.1 10)) m = picW X m := fun m => by unfold picW; rw [xI_2, xI_2, f2, f3]
  have neT : ∀ x, mm_K T x ≠ 4 → mm_K T x ≠ 8 → ¬ (x = o ∨ x = vs) := fun x q4 q8 e => by
    rcases e with e | e
    · exact q4 (by rw [e]; exact r2)
    · exact q8 (by rw [e, hvsT.1]; exact hvK)
  have hsgT : ∀ {g s w}, sgN S T g s 16 w → (∀ k, w k ≤ 600) → sgA S' g s (cntN (nz w) 16) w ∧ ∃ lc, mm_I S' g 3 = nI lc ∧ lc ≤ cn := fun {g s w} hN hw => by
    have h1 := hN.sg hw
    have n1 := neT g (by have := h1.1; omega) (by have := h1.1; omega)
    refine ⟨h1.fr a3 n1 (fun i c _ h6 => neT c (by omega) (by omega)), 0, ?_, Nat.zero_le _⟩
    rw [(a3 g (by have := h1.1; omega) n1).2.1 3]
    exact hN.2.2.2.2.1
  have old : ∀ u, u < X.1 10 → heldN X u = true → ∀ i, i < X.2.1 12 u → segV S' (W2 X W q) (ga2 X ga g1 g2 (X.2.1 13 (4 * u + i))) (X.2.1 13 (4 * u + i)) cn := fun u hu hh i hi => by
    have hs := hsegs u hu hh i hi
    have p1 := ((hheld u hu hh).2.1 i hi).1
    have h9 := hs.fr hFF (ne _ (by have := hs.1.1; omega) (by have := hs.1.1; omega)) (ar _)
    rw [ga2_o p1]
    unfold segV at h9 ⊢
    rw [W2_o p1]
    exact h9
  refine ⟨⟨a4, ?_, ?_, ?_, ?_, ?_, ?_, ?_, ?_, ?_, ?_, ?_, ?_⟩, hns, ?_, ?_, a9, a10, fun u hu => ⟨fun hu2 hh => ?_, ?_⟩, fun u hu hh => ?_, fun u hu hh i hi => ?_, a19, hXI.rn h10 hZ⟩
  · rw [a5 0 (by decide), r3]; exact hoP0
  · rw [a5 1 (by decide), r3]; exact hoP1
  · rw [a5 2 (by decide), r3]; exact hoP2
  · rw [I10]; exact a8
  · rw [xI_s, va2_s]; exact a6
  · rw [I 16 (by decide) (by decide), E16, va2_o (by omega), a5 5 (by decide), r3]; exact hoP5
  · rw [I 6 (by decide) (by decide), e6, a7 6 (by decide)]; exact r5
  · rw [I 9 (by decide) (by decide), e9, a7 7 (by decide)]; exact r6
  · rw [I 3 (by decide) (by decide), E3, a7 8 (by decide), r4 8 (by decide) (by decide)]; exact hoI8
  · rw [a7 9 (by decide), r4 9 (by decide) (by decide)]; show _ = Y.2.2.1; rw [f10]; exact hoI9
  · rw [a7 10 (by decide), r4 10 (by decide) (by decide)]; show _ = Y.2.2.2; rw [f10]; exact hoI10
  · rw [a7 11 (by decide), r4 11 (by decide) (by decide)]; exact hoI11
  · rw [I 0 (by decide) (by decide), E0, pC, pW]; exact hnw.fr hFF (ne _ (by have := hnw.1; omega) (by have := hnw.1; omega)) (ar nw)
  · rw [I 17 (by decide) (by decide), E17, pC, pW]; exact hsf.fr hFF (ne _ (by have := hsf.1; omega) (by have := hsf.1; omega)) (ar sf)
  · rw [I10] at hu2
    rcases held_rn hF hu2 hh with e | ⟨hu3, hh3⟩
    · rw [e, va2_s]; exact a12
    · rw [va2_o (by omega), a11 u (by omega), hvsT.2.2.1 u]
      exact (hvp u hu).1 hu3 hh3
  · by_cases e : u = X.1 10
    · refine Or.inr ⟨by rw [I10]; omega, by rw [e, va2_s]; exact a12, by rw [e, va2_s]; exact a13, ?_⟩
      show _ = nI (Y.2.1 14 u)
      rw [e, va2_s, f9]; exact a15
    · rw [va2_o e, a11 u e, hvsT.2.2.1 u, I10]
      rcases (hvp u hu).2 with h9 | ⟨h9, h8, h7, h6⟩
      · exact Or.inl h9
      · obtain ⟨z1, z2, z3, z4⟩ := hFF (va u) (by omega) (ne _ (by omega) (by omega))
        refine Or.inr ⟨by omega, h8, z1.trans h7, (z2 3).trans ?_⟩
        show _ = nI (Y.2.1 14 u)
        rw [(f6 u e).2.2]; exact h6
  · rw [I10] at hu
    rcases held_rn hF hu hh with e | ⟨hu3, hh3⟩
    · subst e
      rw [va2_s]
      have hKnw := (r1 nw (by have := hnw.1; omega) (fun e => by have h9 := hnw.1; rcases e with e | e <;> rw [e] at h9 <;> omega)).1
      have hKsf := (r1 sf (by have := hsf.1; omega) (fun e => by have h9 := hsf.1; rcases e with e | e <;> rw [e] at h9 <;> omega)).1
      obtain ⟨z1, z2, z3, z4⟩ := a3 f (by omega) (neT f (by omega) (by omega))
      refine ⟨a13, a14, ?_, st, f, a16, a17, fun e => ?_, fun e => ?_, ?_, z1.trans hfK, ?_, fun i hi => ?_⟩
      · show _ = nI (Y.2.1 14 (X.1 10))
        rw [f9]; exact a15
      · rw [e, hKnw, hnw.1] at a1; omega
      · rw [e, hKsf, hsf.1] at a1; omega
      · show stA S' st (Y.2.1 11 (X.1 10)) (picC _ (Y.2.1 11 (X.1 10))) (picW _ (Y.2.1 11 (X.1 10)))
        rw [f8, pC, pW]; exact a18
      · show mm_L S' f = Y.2.1 12 (X.1 10)
        rw [h12, z4]; exact hfL
      · have hi : i < Y.2.1 12 (X.1 10) := hi
        show mm_P S' f i = some (ga2 X ga g1 g2 (Y.2.1 13 (4 * X.1 10 + i)))
        rw [h12] at hi
        rw [h13 i hi, z3 i]
        exact hfE i hi
    · have nu : u ≠ X.1 10 := by omega
      have m12 := k12 u
      rw [va2_o nu]
      have h9 := (hview u hu3 hh3).fr hFF (ne _ (by have := (hview u hu3 hh3).1; omega) (by have := (hview u hu3 hh3).1; omega)) (fun b hb _ _ => ⟨ne b (by omega) (by omega), ar b⟩) (fun b hb => ne b (by omega) (by omega))
      refine viewV.ofX (X := X) (h9.ga (fun i hi => ga2_o ((hheld u hu3 hh3).2.1 i hi).1)) ?_ ?_ ?_ (fun i hi => ?_) (pC _) (pW _)
      · exact (f6 u nu).2.2
      · exact (f6 u nu).1
      · exact (f6 u nu).2.1
      · exact f7 _ (by omega)
  · rw [I10] at hu
    rcases held_rn hF hu hh with e | ⟨hu3, hh3⟩
    · subst e
      have hi : i < Y.2.1 12 (X.1 10) := hi
      show segV S' (W2 X W q) (ga2 X ga g1 g2 (Y.2.1 13 (4 * X.1 10 + i))) (Y.2.1 13 (4 * X.1 10 + i)) cn
      rw [h12] at hi
      rw [h13 i hi]
      rcases nvq_at (q := q) hXI hi with ⟨w, hw, e, -⟩ | ⟨e3, -, e⟩
      · rw [e]
        rcases hq.at hw with ⟨j, hj, -, -, e⟩ | ⟨hb, -, e⟩
        · rw [e]; exact old _ k3 held_lt.1 j hj
        · rw [e]
          have h9 := hsgT (hN1 hb) (fun k => Nat.le_trans (newW_le X k) k0)
          unfold segV
          rw [show ga2 X ga g1 g2 (X.1 6) = g1 by unfold ga2; rw [if_pos rfl], W2_q (Nat.le_refl _), show W1 X W (X.1 6) = newW X by unfold W1; rw [if_pos rfl]]
          exact h9
      · rw [e]
        have h9 := hsgT (hN2 e3) (fun k => Nat.le_trans (mwq_le X W q k) k0)
        unfold segV
        rw [show ga2 X ga g1 g2 (X.1 6 + 1) = g2 by unfold ga2; rw [if_neg (by omega), if_pos rfl], W2_m]
        exact h9
    · have nu : u ≠ X.1 10 := by omega
      have m12 := k12 u
      have hi : i < Y.2.1 12 u := hi
      show segV S' (W2 X W q) (ga2 X ga g1 g2 (Y.2.1 13 (4 * u + i))) (Y.2.1 13 (4 * u + i)) cn
      rw [(f6 u nu).2.1] at hi
      rw [f7 _ (by omega)]
      exact old u hu3 hh3 i hi
