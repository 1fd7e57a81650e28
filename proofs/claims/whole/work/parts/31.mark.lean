/-! counting segments: each is marked once -/
def mkM (X : xx_X) (v i s : Nat) : Bool := anyN (fun u => heldN X u && anyN (fun t => decide (X.2.1 13 (4 * u + t) = s)) (X.2.1 12 u)) v || anyN (fun t => decide (X.2.1 13 (4 * v + t) = s)) i
theorem mkM_h {X : xx_X} {v : Nat} (h : heldN X v = true) : mkM X v (X.2.1 12 v) = mkM X (v + 1) 0 := by
  funext s
  simp [mkM, anyN, h]
theorem mkM_n {X : xx_X} {v : Nat} (h : heldN X v = false) : mkM X v 0 = mkM X (v + 1) 0 := by
  funext s
  simp [mkM, anyN, h]
theorem mkM_e (X : xx_X) : mkM X (X.1 10) 0 = thereB X := by
  funext s
  simp [mkM, anyN, thereB]
theorem mkM_i (X : xx_X) (v i : Nat) : mkM X v (i + 1) = fun s => mkM X v i s || decide (X.2.1 13 (4 * v + i) = s) := by
  funext s
  simp [mkM, anyN, Bool.or_assoc]
theorem cnt_or1 {f : Nat → Bool} {s0 : Nat} : ∀ {n : Nat}, s0 < n → f s0 = false → cntN (fun s => f s || decide (s0 = s)) n = cntN f n + 1
  | 0, h, _ => absurd h (Nat.not_lt_zero _)
  | n + 1, h, hf => by
    by_cases e : s0 = n
    · subst e
      rw [cntN_t (f := fun s => f s || decide (s0 = s)) (by simp), cntN_f0 hf]
      congr 1
      exact cntN_congr (fun i hi => by simp [show ¬ s0 = i by omega])
    · rw [cntN_s, cntN_s, cnt_or1 (show s0 < n by omega) hf]
      simp only [decide_eq_false e, Bool.or_false]
      omega
def mkO (S T : mm_H) (X : xx_X) (ga : Nat → Nat) (cn : Nat) (M : Nat → Bool) : Prop := (∀ a, mm_K T a = mm_K S a) ∧ (∀ a k, mm_P T a k = mm_P S a k) ∧ (∀ a, mm_L T a = mm_L S a) ∧ (∀ a k, mm_K S a ≠ 1 ∨ k ≠ 3 → mm_I T a k = mm_I S a k) ∧ ∀ v, v < X.1 10 → heldN X v = true → ∀ i, i < X.2.1 12 v → ∃ lc, mm_I T (ga (X.2.1 13 (4 * v + i))) 3 = nI lc ∧ (M (X.2.1 13 (4 * v + i)) = true → lc = cn + 1) ∧ (M (X.2.1 13 (4 * v + i)) = false → lc ≤ cn)
theorem mkO.put {S T : mm_H} {X : xx_X} {ga : Nat → Nat} {cn v i : Nat} (h : mkO S T X ga cn (mkM X v i)) (hK : mm_K S (ga (X.2.1 13 (4 * v + i))) = 1) (inj : ∀ u, u < X.1 10 → heldN X u = true → ∀ t, t < X.2.1 12 u → ga (X.2.1 13 (4 * u + t)) = ga (X.2.1 13 (4 * v + i)) → X.2.1 13 (4 * u + t) = X.2.1 13 (4 * v + i)) : mkO S (mm_sI T (ga (X.2.1 13 (4 * v + i))) 3 (nI (cn + 1))) X ga cn (mkM X v (i + 1)) := by
  obtain ⟨h1, h2, h3, h4, h5⟩ := h
  refine ⟨h1, h2, h3, fun a k q => ?_, fun u hu hh t ht => ?_⟩
  · rw [mm_I_sI, if_neg (fun e => by
      rcases q with q | q
      · exact q (by rw [e.1]; exact hK)
      · exact q e.2)]
    exact h4 a k q
  · rw [mkM_i]
    by_cases e : ga (X.2.1 13 (4 * u + t)) = ga (X.2.1 13 (4 * v + i))
    · have e2 := inj u hu hh t ht e
      rw [e2, mm_I_s]
      exact ⟨cn + 1, rfl, fun _ => rfl, fun q => by simp at q⟩
    · obtain ⟨lc, q1, q2, q3⟩ := h5 u hu hh t ht
      have e2 : ¬ X.2.1 13 (4 * v + i) = X.2.1 13 (4 * u + t) := fun q => e (by rw [q])
      refine ⟨lc, by rw [mm_I_a e]; exact q1, ?_, ?_⟩
      · simp only [decide_eq_false e2, Bool.or_false]; exact q2
      · simp only [decide_eq_false e2, Bool.or_false]; exact q3
theorem mkM_t {X : xx_X} {v i : Nat} (h : mkM X v i (X.2.1 13 (4 * v + i)) = true) : mkM X v (i + 1) = mkM X v i := by
  rw [mkM_i]
  funext s
  by_cases e : X.2.1 13 (4 * v + i) = s
  · subst e; simp [h]
  · simp [e]
theorem Rel.mk {S T : mm_H} {X : xx_X} {W : Nat → Nat → Nat} {o nw sf vs cn : Nat} {va ga : Nat → Nat} {M : Nat → Bool} (hL : Rel S X W o nw sf vs cn va ga) (h : mkO (mm_sI S o 11 (nI (cn + 1))) T X ga cn M) : Rel T X W o nw sf vs (cn + 1) va ga := by
  obtain ⟨⟨o1, o2, o3, o4, o5, o6, o7, o8, o9, o10, o11, o12, o13⟩, hns, hnw, hsf, hvK, hvL, hvs, hview, hsegs, hUQ, hXI⟩ := hL
  obtain ⟨h1, h2, h3, h4, h5⟩ := h
  have h1 : ∀ a, mm_K T a = mm_K S a := h1
  have h2 : ∀ a k, mm_P T a k = mm_P S a k := h2
  have h3 : ∀ a, mm_L T a = mm_L S a := h3
  have hI : ∀ a k, (mm_K S a ≠ 1 ∨ k ≠ 3) → (a ≠ o ∨ k ≠ 11) → mm_I T a k = mm_I S a k := fun a k q1 q2 => by
    rw [h4 a k q1, mm_I_sI, if_neg (fun e => by omega)]
  have hF : Fr S T (fun b => mm_K S b = 1 ∨ b = o) := fun a _ hM => ⟨h1 a, fun k => hI a k (Or.inl (fun e => hM (Or.inl e))) (Or.inl (fun e => hM (Or.inr e))), h2 a, h3 a⟩
  have ne : ∀ b, mm_K S b ≠ 1 → mm_K S b ≠ 4 → ¬ (mm_K S b = 1 ∨ b = o) := fun b q1 q4 q => by
    rcases q with q | q
    · exact q1 q
    · exact q4 (by rw [q]; exact o1)
  have ar : ∀ b, ∀ i c, mm_P S b i = some c → mm_K S c = 6 → ¬ (mm_K S c = 1 ∨ c = o) := fun b i c _ q => ne c (by omega) (by omega)
  have hoI : ∀ k, k ≠ 11 → mm_I T o k = mm_I S o k := fun k hk => hI o k (Or.inl (by omega)) (Or.inr hk)
  refine ⟨⟨(h1 o).trans o1, (h2 o 0).trans o2, (h2 o 1).trans o3, (h2 o 2).trans o4, (hoI 3 (by decide)).trans o5, (h2 o 4).trans o6, (h2 o 5).trans o7, (hoI 6 (by decide)).trans o8, (hoI 7 (by decide)).trans o9, (hoI 8 (by decide)).trans o10, (hoI 9 (by decide)).trans o11, (hoI 10 (by decide)).trans o12, ?_⟩, hns, hnw.fr hF (ne _ (by have := hnw.1; omega) (by have := hnw.1; omega)) (ar nw), hsf.fr hF (ne _ (by have := hsf.1; omega) (by have := hsf.1; omega)) (ar sf), (h1 vs).trans hvK, (h3 vs).trans hvL, fun v hv => (h2 vs v).trans (hvs v hv), fun v hv q => ?_, fun v hv q i hi => ?_, ?_, hXI⟩
  · rw [h4 o 11 (Or.inl (by show mm_K S o ≠ 1; omega)), mm_I_s]
  · exact (hview v hv q).fr hF (ne _ (by have := (hview v hv q).1; omega) (by have := (hview v hv q).1; omega)) (fun b hb _ _ => ⟨ne b (by omega) (by omega), ar b⟩) (fun b hb => ne b (by omega) (by omega))
  · obtain ⟨⟨g1, g2, g3, c, g4, g5, g6, g7, g8⟩, -⟩ := hsegs v hv q i hi
    obtain ⟨lc, l1, l2, l3⟩ := h5 v hv q i hi
    have no : ga (X.2.1 13 (4 * v + i)) ≠ o := fun e => by rw [e] at g1; omega
    refine ⟨⟨(h1 _).trans g1, (hI _ 0 (Or.inr (by decide)) (Or.inl no)).trans g2, (hI _ 2 (Or.inr (by decide)) (Or.inl no)).trans g3, c, (h2 _ 1).trans g4, (h1 c).trans g5, (h3 c).trans g6, fun k hk => (hI c k (Or.inl (by omega)) (Or.inl (fun e => by rw [e] at g5; omega))).trans (g7 k hk), g8⟩, lc, l1, ?_⟩
    cases hM : M (X.2.1 13 (4 * v + i)) with
    | true => have := l2 hM; omega
    | false => have := l3 hM; omega
  · refine ⟨fun a b i j d q1 q2 q3 q4 q5 => ?_, fun a i d q1 q3 => ?_⟩
    · rw [h1] at q1 q2 q5
      rw [h2] at q3 q4
      exact hUQ.1 a b i j d q1 q2 q3 q4 q5
    · rw [h1] at q1 ⊢
      rw [h2] at q3
      exact hUQ.2 a i d q1 q3
