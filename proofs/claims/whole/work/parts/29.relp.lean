/-! before what isn't held is let go -/
def vsP (S : mm_H) (X : xx_X) (vs : Nat) (va : Nat → Nat) : Prop := ∀ v, v < 150 → (v < X.1 10 → heldN X v = true → mm_P S vs v = some (va v)) ∧ (mm_P S vs v = none ∨ (v < X.1 10 ∧ mm_P S vs v = some (va v) ∧ mm_K S (va v) = 3 ∧ mm_I S (va v) 3 = nI (X.2.1 14 v)))
def RelP (S : mm_H) (X : xx_X) (W : Nat → Nat → Nat) (o nw sf vs cn : Nat) (va ga : Nat → Nat) : Prop := objV S X o nw sf vs cn va ∧ nw ≠ sf ∧ stA S nw (X.1 0) (picC X (X.1 0)) (picW X (X.1 0)) ∧ stA S sf (X.1 17) (picC X (X.1 17)) (picW X (X.1 17)) ∧ mm_K S vs = 8 ∧ mm_L S vs = 150 ∧ vsP S X vs va ∧ (∀ v, v < X.1 10 → heldN X v = true → viewV S X ga nw sf v (va v)) ∧ (∀ v, v < X.1 10 → heldN X v = true → ∀ i, i < X.2.1 12 v → segV S W (ga (X.2.1 13 (4 * v + i))) (X.2.1 13 (4 * v + i)) cn) ∧ UQ S ∧ xInv X W
theorem Rel.p {S : mm_H} {X : xx_X} {W : Nat → Nat → Nat} {o nw sf vs cn : Nat} {va ga : Nat → Nat} (h : Rel S X W o nw sf vs cn va ga) : RelP S X W o nw sf vs cn va ga := by
  obtain ⟨h1, h2, h3, h4, h5, h6, h7, h8, h9, h10, h11⟩ := h
  refine ⟨h1, h2, h3, h4, h5, h6, fun v hv => ⟨fun q1 q2 => ?_, ?_⟩, h8, h9, h10, h11⟩
  · rw [h7 v hv, decide_eq_true q1, q2]; rfl
  · by_cases q1 : v < X.1 10
    · cases q2 : heldN X v with
      | true => exact Or.inr ⟨q1, by rw [h7 v hv, decide_eq_true q1, q2]; rfl, (h8 v q1 q2).1, (h8 v q1 q2).2.2.1⟩
      | false => exact Or.inl (by rw [h7 v hv, q2, Bool.and_false]; rfl)
    · exact Or.inl (by rw [h7 v hv, decide_eq_false q1]; rfl)
/-- only the row of views has changed -/
def vsO (S S' : mm_H) (vs : Nat) : Prop := (∀ a, mm_K S' a = mm_K S a) ∧ (∀ a k, mm_I S' a k = mm_I S a k) ∧ (∀ a, mm_L S' a = mm_L S a) ∧ (∀ a k, a ≠ vs → mm_P S' a k = mm_P S a k)
theorem vsO.refl (S : mm_H) (vs : Nat) : vsO S S vs := ⟨fun _ => rfl, fun _ _ => rfl, fun _ => rfl, fun _ _ _ => rfl⟩
theorem vsO.fr {S S' : mm_H} {vs : Nat} (h : vsO S S' vs) : Fr S S' (fun b => b = vs) := fun a _ ha => ⟨h.1 a, h.2.1 a, fun k => h.2.2.2 a k ha, h.2.2.1 a⟩
theorem RelP.go {S S' : mm_H} {X : xx_X} {W : Nat → Nat → Nat} {o nw sf vs cn : Nat} {va ga : Nat → Nat} (h : RelP S X W o nw sf vs cn va ga) (hO : vsO S S' vs) (hv : ∀ v, v < 150 → mm_P S' vs v = bif decide (v < X.1 10) && heldN X v then some (va v) else none) : Rel S' X W o nw sf vs cn va ga := by
  obtain ⟨⟨o1, o2, o3, o4, o5, o6, o7, o8, o9, o10, o11, o12, o13⟩, h2, h3, h4, h5, h6, h7, h8, h9, h10, h11⟩ := h
  have hF := hO.fr
  have ne : ∀ b, mm_K S b ≠ 8 → ¬ b = vs := fun b hb e => hb (by rw [e]; exact h5)
  have ar : ∀ b, ∀ i c, mm_P S b i = some c → mm_K S c = 6 → ¬ c = vs := fun b i c _ q => ne c (by omega)
  have no : ¬ o = vs := ne o (by omega)
  obtain ⟨p1, p2, p3, p4⟩ := hO
  refine ⟨⟨(p1 o).trans o1, (p4 o 0 no).trans o2, (p4 o 1 no).trans o3, (p4 o 2 no).trans o4, (p2 o 3).trans o5, (p4 o 4 no).trans o6, (p4 o 5 no).trans o7, (p2 o 6).trans o8, (p2 o 7).trans o9, (p2 o 8).trans o10, (p2 o 9).trans o11, (p2 o 10).trans o12, (p2 o 11).trans o13⟩, h2, h3.fr hF (ne _ (by have := h3.1; omega)) (ar nw), h4.fr hF (ne _ (by have := h4.1; omega)) (ar sf), (p1 vs).trans h5, (p3 vs).trans h6, hv, fun v hv1 hv2 => (h8 v hv1 hv2).fr hF (ne _ (by have := (h8 v hv1 hv2).1; omega)) (fun b hb _ _ => ⟨ne b (by omega), ar b⟩) (fun b hb => ne b (by omega)), fun v hv1 hv2 i hi => (h9 v hv1 hv2 i hi).fr hF (ne _ (by have := (h9 v hv1 hv2 i hi).1.1; omega)) (ar _), ?_, h11⟩
  refine ⟨fun a b i j c q1 q2 q3 q4 q5 => ?_, fun a i c q1 q3 => ?_⟩
  · rw [p1] at q1 q2 q5
    have na : a ≠ vs := fun e => by rw [e] at q1; omega
    have nb : b ≠ vs := fun e => by rw [e] at q2; omega
    rw [p4 a i na] at q3
    rw [p4 b j nb] at q4
    exact h10.1 a b i j c q1 q2 q3 q4 q5
  · rw [p1] at q1 ⊢
    have na : a ≠ vs := fun e => by rw [e] at q1; omega
    rw [p4 a i na] at q3
    exact h10.2 a i c q1 q3
/-- a view is opened once more, or closed -/
theorem Rel.op {S : mm_H} {X : xx_X} {W : Nat → Nat → Nat} {o nw sf vs cn : Nat} {va ga : Nat → Nat} (h : Rel S X W o nw sf vs cn va ga) {j m : Nat} (hj : j < X.1 10) (hh : heldN X j = true) (hm : m ≤ 2147483647) : RelP (mm_sI S (va j) 3 (nI m)) (xA X 14 j m) W o nw sf vs cn va ga := by
  obtain ⟨⟨o1, o2, o3, o4, o5, o6, o7, o8, o9, o10, o11, o12, o13⟩, h2, h3, h4, h5, h6, h7, h8, h9, h10, h11⟩ := h
  have hK := (h8 j hj hh).1
  have hF := Fr.sI S (va j) 3 (nI m)
  have ne : ∀ b, mm_K S b ≠ 3 → ¬ b = va j := fun b hb e => hb (by rw [e]; exact hK)
  have ar : ∀ b, ∀ i c, mm_P S b i = some c → mm_K S c = 6 → ¬ c = va j := fun b i c _ q => ne c (by omega)
  have le : ∀ v, v < X.1 10 → heldN (xA X 14 j m) v = true → heldN X v = true := fun v hv q => by
    by_cases e : v = j
    · rw [e]; exact hh
    · unfold heldN at q ⊢
      rw [xA_j e] at q
      exact q
  have pk : ∀ n, picC (xA X 14 j m) n = picC X n ∧ picW (xA X 14 j m) n = picW X n := fun n => by
    unfold picC picW
    rw [xA_o (f := 14) (g := 1) (by decide), xA_o (f := 14) (g := 2) (by decide)]
    exact ⟨rfl, rfl⟩
  have vj : ∀ v, v < X.1 10 → heldN X v = true → v ≠ j → va v ≠ va j := fun v hv q e e2 => by
    have q1 := (h8 v hv q).2.1
    rw [e2, (h8 j hj hh).2.1] at q1
    have hb := h11.1.2.2.1
    exact e ((nI_eq (by omega) (by omega)).mp q1).symm
  refine ⟨⟨o1, o2, o3, o4, (mm_I_a (ne o (by omega))).trans o5, o6, o7, (mm_I_a (ne o (by omega))).trans o8, (mm_I_a (ne o (by omega))).trans o9, (mm_I_a (ne o (by omega))).trans o10, (mm_I_a (ne o (by omega))).trans o11, (mm_I_a (ne o (by omega))).trans o12, (mm_I_a (ne o (by omega))).trans o13⟩, h2, ?_, ?_, h5, h6, fun v hv => ⟨fun q1 q2 => ?_, ?_⟩, fun v hv q => ?_, ?_, h10, ?_⟩
  · rw [(pk _).1, (pk _).2]; exact h3.fr hF (ne _ (by have := h3.1; omega)) (ar nw)
  · rw [(pk _).1, (pk _).2]; exact h4.fr hF (ne _ (by have := h4.1; omega)) (ar sf)
  · show mm_P S vs v = _
    rw [h7 v hv, decide_eq_true (show v < X.1 10 from q1), le v q1 q2]; rfl
  · show mm_P S vs v = none ∨ (v < X.1 10 ∧ mm_P S vs v = some (va v) ∧ mm_K S (va v) = 3 ∧ mm_I (mm_sI S (va j) 3 (nI m)) (va v) 3 = nI ((xA X 14 j m).2.1 14 v))
    by_cases q1 : v < X.1 10
    · cases q2 : heldN X v with
      | true =>
        refine Or.inr ⟨q1, by rw [h7 v hv, decide_eq_true q1, q2]; rfl, (h8 v q1 q2).1, ?_⟩
        by_cases e : v = j
        · subst e; rw [mm_I_s, xA_s]
        · rw [mm_I_a (vj v q1 q2 e), xA_j e]; exact (h8 v q1 q2).2.2.1
      | false => exact Or.inl (by rw [h7 v hv, q2, Bool.and_false]; rfl)
    · exact Or.inl (by rw [h7 v hv, decide_eq_false q1]; rfl)
  · have q2 := le v hv q
    by_cases e : v = j
    · subst e
      obtain ⟨a1, a2, a3, st, pr, a4, a5, a6, a7, a8, a9, a10, a11⟩ := h8 v hv q2
      refine ⟨a1, (mm_I_k (by decide)).trans a2, by rw [mm_I_s, xA_s], st, pr, a4, a5, a6, a7, ?_, a9, ?_, ?_⟩
      · rw [xA_o (by decide), (pk _).1, (pk _).2]; exact a8.fr hF (ne _ (by have := a8.1; omega)) (ar st)
      · rw [xA_o (by decide)]; exact a10
      · rw [xA_o (f := 14) (g := 12) (by decide), xA_o (f := 14) (g := 13) (by decide)]; exact a11
    · exact ((h8 v hv q2).fr hF (vj v hv q2 e) (fun b hb _ _ => ⟨ne b (by omega), ar b⟩) (fun b hb => ne b (by omega))).ofX (xA_j e) (by rw [xA_o (by decide)]) (by rw [xA_o (by decide)]) (fun i _ => by rw [xA_o (by decide)]) (pk _).1 (pk _).2
  · rw [xA_o (f := 14) (g := 12) (by decide), xA_o (f := 14) (g := 13) (by decide)]
    intro v hv q i hi
    have hs := h9 v hv (le v hv q) i hi
    exact hs.fr hF (ne _ (by have := hs.1.1; omega)) (ar _)
  · obtain ⟨g1, g2, g3, g4, g5, g6, g7⟩ := h11
    have hb : xx_bd (xA X 14 j m) := g2.set hm
    refine ⟨g1.of hb g1.1 rfl g1.2.2.2.1 g1.2.2.2.2.1 g1.2.2.2.2.2.1 rfl (fun i => by rw [xA_o (by decide)]; exact g1.2.2.2.2.2.2.2.2.2.2.2.2.1 i), hb, by rw [xA_o (by decide)]; exact g3, g4, g5, by rw [xA_o (by decide)]; exact g6, ?_⟩
    rw [xA_o (f := 14) (g := 11) (by decide), xA_o (f := 14) (g := 12) (by decide), xA_o (f := 14) (g := 13) (by decide)]
    intro v hv q
    obtain ⟨q1, q2, q3⟩ := g7 v hv (le v hv q)
    exact ⟨q1, fun i hi => ⟨(q2 i hi).1, (q2 i hi).2.1.o (by decide) (by decide) (by decide), (q2 i hi).2.2⟩, q3⟩
