/-! while a new view is being made: only the object itself, and cells that are new, change -/
theorem UQ.sN {S : mm_H} (h : UQ S) {q : Nat} (hq : mm_K S q = 0) (kd n : Nat) : UQ (mm_sN S q kd n) := by
  refine ⟨fun a b i j c q1 q2 q3 q4 q5 => ?_, fun a i c q1 q3 => ?_⟩
  · rw [mm_P_sN] at q3 q4
    by_cases ea : a = q
    · rw [if_pos ea] at q3; cases q3
    by_cases eb : b = q
    · rw [if_pos eb] at q4; cases q4
    rw [if_neg ea] at q3
    rw [if_neg eb] at q4
    rw [mm_K_sN, if_neg ea] at q1
    rw [mm_K_sN, if_neg eb] at q2
    have hc := h.2 a i c q1 q3
    rw [mm_K_sN, if_neg (fun e => hc (by rw [e]; exact hq))] at q5
    exact h.1 a b i j c q1 q2 q3 q4 q5
  · rw [mm_P_sN] at q3
    by_cases ea : a = q
    · rw [if_pos ea] at q3; cases q3
    rw [if_neg ea] at q3
    rw [mm_K_sN, if_neg ea] at q1
    have hc := h.2 a i c q1 q3
    rw [mm_K_sN, if_neg (fun e => hc (by rw [e]; exact hq))]
    exact hc
theorem UQ.sPo {S : mm_H} (h : UQ S) {a k : Nat} {v : Option Nat} (ha : mm_K S a ≠ 1) (ha2 : mm_K S a ≠ 2) : UQ (mm_sP S a k v) := by
  refine ⟨fun x y i j c q1 q2 q3 q4 q5 => ?_, fun x i c q1 q3 => ?_⟩
  · have q1 : mm_K S x = 1 ∨ mm_K S x = 2 := q1
    have q2 : mm_K S y = 1 ∨ mm_K S y = 2 := q2
    rw [mm_P_sP, if_neg (fun e => by have := e.1; subst this; omega)] at q3
    rw [mm_P_sP, if_neg (fun e => by have := e.1; subst this; omega)] at q4
    exact h.1 x y i j c q1 q2 q3 q4 q5
  · have q1 : mm_K S x = 1 ∨ mm_K S x = 2 := q1
    rw [mm_P_sP, if_neg (fun e => by have := e.1; subst this; omega)] at q3
    exact h.2 x i c q1 q3
theorem UQ.fld {S : mm_H} (h : UQ S) {a k c : Nat} (hn : ∀ b i, (mm_K S b = 1 ∨ mm_K S b = 2) → mm_P S b i ≠ some c) (hc : mm_K S c ≠ 0) : UQ (mm_sP S a k (some c)) := by
  refine ⟨fun x y i j d q1 q2 q3 q4 q5 => ?_, fun x i d q1 q3 => ?_⟩
  · have q1 : mm_K S x = 1 ∨ mm_K S x = 2 := q1
    have q2 : mm_K S y = 1 ∨ mm_K S y = 2 := q2
    rw [mm_P_sP] at q3 q4
    by_cases ex : x = a ∧ i = k
    · rw [if_pos ex] at q3
      cases q3
      by_cases ey : y = a ∧ j = k
      · exact ⟨ex.1.trans ey.1.symm, ex.2.trans ey.2.symm⟩
      · rw [if_neg ey] at q4
        exact absurd q4 (hn y j q2)
    · rw [if_neg ex] at q3
      by_cases ey : y = a ∧ j = k
      · rw [if_pos ey] at q4
        cases q4
        exact absurd q3 (hn x i q1)
      · rw [if_neg ey] at q4
        exact h.1 x y i j d q1 q2 q3 q4 q5
  · have q1 : mm_K S x = 1 ∨ mm_K S x = 2 := q1
    rw [mm_P_sP] at q3
    by_cases ex : x = a ∧ i = k
    · rw [if_pos ex] at q3
      cases q3
      exact hc
    · rw [if_neg ex] at q3
      exact h.2 x i d q1 q3
theorem UQ.noref {S : mm_H} (h : UQ S) {q : Nat} (hq : mm_K S q = 0) : ∀ b i, (mm_K S b = 1 ∨ mm_K S b = 2) → mm_P S b i ≠ some q := fun b i hb e => h.2 b i q hb e hq
/-- a field of ints, fresh -/
theorem UQ.arr {S : mm_H} (h : UQ S) {q : Nat} (hq : mm_K S q = 0) (n : Nat) {a k : Nat} : UQ (mm_sP (mm_sN S q 6 n) a k (some q)) := by
  refine (h.sN hq 6 n).fld (fun b i hb e => ?_) (by rw [mm_K_sN, if_pos rfl]; decide)
  rw [mm_P_sN] at e
  by_cases eb : b = q
  · rw [if_pos eb] at e; cases e
  · rw [if_neg eb] at e
    rw [mm_K_sN, if_neg eb] at hb
    exact h.noref hq b i hb e
def gR (S T : mm_H) (o q a b : Nat) : Prop := Fr S T (fun x => x = o ∨ x = q) ∧ mm_K T o = 4 ∧ (∀ k, mm_P T o k = mm_P S o k) ∧ (∀ k, k ≠ 6 → k ≠ 7 → mm_I T o k = mm_I S o k) ∧ mm_I T o 6 = nI a ∧ mm_I T o 7 = nI b ∧ UQ T
theorem gR.refl {S : mm_H} {o q a b : Nat} (h1 : mm_K S o = 4) (h2 : mm_I S o 6 = nI a) (h3 : mm_I S o 7 = nI b) (h4 : UQ S) : gR S S o q a b := ⟨fun _ _ _ => ⟨rfl, fun _ => rfl, fun _ => rfl, rfl⟩, h1, fun _ => rfl, fun _ _ _ => rfl, h2, h3, h4⟩
theorem gR.trans {S T U : mm_H} {o q a b a' b' : Nat} (h : gR S T o q a b) (g : gR T U o q a' b') : gR S U o q a' b' := by
  obtain ⟨h1, h2, h3, h4, h5, h6, h7⟩ := h
  obtain ⟨g1, g2, g3, g4, g5, g6, g7⟩ := g
  exact ⟨(h1.trans g1).mono (fun x _ e => by rcases e with e | e <;> exact e), g2, fun k => (g3 k).trans (h3 k), fun k q6 q7 => (g4 k q6 q7).trans (h4 k q6 q7), g5, g6, g7⟩
theorem gR.wid {S T : mm_H} {o a b : Nat} (h : gR S T o o a b) (q : Nat) : gR S T o q a b := ⟨h.1.mono (fun x _ e => Or.inl (by rcases e with e | e <;> exact e)), h.2⟩
theorem gR.old {S T : mm_H} {o q a b : Nat} (h : gR S T o q a b) (hq : mm_K S q = 0) : gR S T o o a b := ⟨h.1.mono (fun x hx e => by
  rcases e with e | e
  · exact Or.inl e
  · exact absurd hq (by rw [← e]; exact hx)), h.2⟩
theorem gR.fresh {S T : mm_H} {o q a b x : Nat} (h : gR S T o q a b) (hq : mm_K T q ≠ 0) (hx : mm_K T x = 0) : mm_K S x = 0 := by
  by_cases e : mm_K S x = 0
  · exact e
  · exfalso
    by_cases ex : x = o ∨ x = q
    · rcases ex with ex | ex
      · have := h.2.1; rw [ex] at hx; omega
      · rw [ex] at hx; exact hq hx
    · have := (h.1 x e ex).1
      omega
theorem gR.new {S T : mm_H} {o q a b g : Nat} (h : gR S T o q a b) (hg : mm_K T g = 0) (hq : mm_K T q ≠ 0) (kd n : Nat) : gR S (mm_sN T g kd n) o q a b := by
  obtain ⟨h1, h2, h3, h4, h5, h6, h7⟩ := h
  have no : o ≠ g := fun e => by rw [e] at h2; omega
  exact ⟨(h1.trans (Fr.sN T kd n hg)).mono (fun x _ e => by rcases e with e | e; exact e; exact e.elim), by rw [mm_K_sN, if_neg no]; exact h2, fun k => by rw [mm_P_sN, if_neg no]; exact h3 k, fun k q6 q7 => by rw [mm_I_sN, if_neg no]; exact h4 k q6 q7, by rw [mm_I_sN, if_neg no]; exact h5, by rw [mm_I_sN, if_neg no]; exact h6, h7.sN hg kd n⟩
/-- a write to a row of segments that is new -/
theorem gR.row {S T : mm_H} {o q a b k : Nat} {v : Option Nat} (h : gR S T o q a b) (hq : mm_K T q = 7) : gR S (mm_sP T q k v) o q a b := by
  obtain ⟨h1, h2, h3, h4, h5, h6, h7⟩ := h
  have no : o ≠ q := fun e => by rw [e] at h2; omega
  exact ⟨(h1.trans (Fr.sP T q k v)).mono (fun x _ e => by rcases e with e | e; exact e; exact Or.inr e), h2, fun j => by rw [mm_P_sP, if_neg (fun e => no e.1)]; exact h3 j, h4, h5, h6, h7.sPo (by omega) (by omega)⟩
/-- what isNewRow reads -/
def lf (T : mm_H) (o nw v st n m : Nat) (ch wd : Nat → Nat) : Prop := mm_K T o = 4 ∧ mm_P T o 0 = some nw ∧ stA T nw n ch wd ∧ mm_P T o 4 = some v ∧ mm_K T v = 3 ∧ mm_P T v 1 = some st ∧ mm_K T st = 2 ∧ mm_I T st 0 = nI m ∧ m ≤ 600
theorem gR.st {S T : mm_H} {o q a b u n : Nat} {ch wd : Nat → Nat} (h : gR S T o q a b) (ho : mm_K S o = 4) (hq : q = o ∨ mm_K S q = 7) (hs : stA S u n ch wd) : stA T u n ch wd := by
  have ne : ∀ x, mm_K S x ≠ 4 → mm_K S x ≠ 7 → ¬ (x = o ∨ x = q) := fun x q4 q7 e => by
    rcases e with e | e
    · exact q4 (by rw [e]; exact ho)
    · rcases hq with hq | hq
      · exact q4 (by rw [e, hq]; exact ho)
      · exact q7 (by rw [e]; exact hq)
  exact hs.fr h.1 (ne u (by have := hs.1; omega) (by have := hs.1; omega)) (fun i c _ h6 => ne c (by omega) (by omega))
theorem gR.sg {S T : mm_H} {o q a b g s r : Nat} {w : Nat → Nat} (h : gR S T o q a b) (ho : mm_K S o = 4) (hq : q = o ∨ mm_K S q = 7) (hs : sgA S g s r w) : sgA T g s r w ∧ mm_I T g 3 = mm_I S g 3 := by
  have ne : ∀ x, mm_K S x ≠ 4 → mm_K S x ≠ 7 → ¬ (x = o ∨ x = q) := fun x q4 q7 e => by
    rcases e with e | e
    · exact q4 (by rw [e]; exact ho)
    · rcases hq with hq | hq
      · exact q4 (by rw [e, hq]; exact ho)
      · exact q7 (by rw [e]; exact hq)
  have n1 := ne g (by have := hs.1; omega) (by have := hs.1; omega)
  exact ⟨hs.fr h.1 n1 (fun i c _ h6 => ne c (by omega) (by omega)), (h.1 g (by have := hs.1; omega) n1).2.1 3⟩
theorem lf.fr {S T : mm_H} {o q a b nw v st n m : Nat} {ch wd : Nat → Nat} (hl : lf S o nw v st n m ch wd) (h : gR S T o q a b) (hq : q = o ∨ mm_K S q = 7) : lf T o nw v st n m ch wd := by
  obtain ⟨l1, l2, l3, l4, l5, l6, l7, l8, l9⟩ := hl
  have ne : ∀ x, mm_K S x ≠ 4 → mm_K S x ≠ 7 → ¬ (x = o ∨ x = q) := fun x q4 q7 e => by
    rcases e with e | e
    · exact q4 (by rw [e]; exact l1)
    · rcases hq with hq | hq
      · exact q4 (by rw [e, hq]; exact l1)
      · exact q7 (by rw [e]; exact hq)
  obtain ⟨v1, v2, v3, v4⟩ := h.1 v (by omega) (ne v (by omega) (by omega))
  obtain ⟨s1, s2, s3, s4⟩ := h.1 st (by omega) (ne st (by omega) (by omega))
  exact ⟨h.2.1, (h.2.2.1 0).trans l2, h.st l1 hq l3, (h.2.2.1 4).trans l4, v1.trans l5, (v3 1).trans l6, s1.trans l7, (s2 0).trans l8, l9⟩
/-- a segment that is being made: the keys below k have been looked at -/
def sgN (S T : mm_H) (g a k : Nat) (w : Nat → Nat) : Prop := mm_K S g = 0 ∧ mm_K T g = 1 ∧ mm_I T g 0 = nI a ∧ mm_I T g 2 = nI (cntN (nz w) k) ∧ mm_I T g 3 = nI 0 ∧ ∃ c, mm_P T g 1 = some c ∧ mm_K S c = 0 ∧ mm_K T c = 6 ∧ mm_L T c = 16 ∧ ∀ j, j < 16 → mm_I T c j = nI (if j < k then w j else 0)
theorem sgN.sg {S T : mm_H} {g a : Nat} {w : Nat → Nat} (h : sgN S T g a 16 w) (hw : ∀ k, w k ≤ 600) : sgA T g a (cntN (nz w) 16) w := by
  obtain ⟨h1, h2, h3, h4, h5, c, h6, h7, h8, h9, h10⟩ := h
  exact ⟨h2, h3, h4, c, h6, h8, h9, fun k hk => by rw [h10 k hk, if_pos hk], cntN_le _ _, hw⟩
theorem sgN.skip {S T : mm_H} {g a k : Nat} {w : Nat → Nat} (h : sgN S T g a k w) (hk : w k = 0) : sgN S T g a (k + 1) w := by
  obtain ⟨h1, h2, h3, h4, h5, c, h6, h7, h8, h9, h10⟩ := h
  refine ⟨h1, h2, h3, by rw [cntN_f0 (nz_f.mpr hk)]; exact h4, h5, c, h6, h7, h8, h9, fun j hj => ?_⟩
  rw [h10 j hj]
  by_cases e : j = k
  · rw [e, if_neg (Nat.lt_irrefl k), if_pos (Nat.lt_succ_self k), hk]
  · by_cases e2 : j < k
    · rw [if_pos e2, if_pos (by omega)]
    · rw [if_neg e2, if_neg (by omega)]
theorem sgN.put {S T : mm_H} {g a k o b c a' : Nat} {w : Nat → Nat} (h : sgN S T g a k w) (hG : gR S T o o a' b) (hc : mm_P T g 1 = some c) (hk : 0 < w k) : sgN S (mm_sI (mm_sI (mm_sI T c k (nI (w k))) g 2 (nI (cntN (nz w) k + 1))) o 7 (nI (b + 1))) g a (k + 1) w ∧ gR S (mm_sI (mm_sI (mm_sI T c k (nI (w k))) g 2 (nI (cntN (nz w) k + 1))) o 7 (nI (b + 1))) o o a' (b + 1) := by
  obtain ⟨h1, h2, h3, h4, h5, c', h6, h7, h8, h9, h10⟩ := h
  cases hc.symm.trans h6
  have hz : nz w k = true := nz_t.mpr hk
  obtain ⟨g1, g2, g3, g4, g5, g6, g7⟩ := hG
  have gc : g ≠ c := fun e => by rw [e] at h2; omega
  have go : g ≠ o := fun e => by rw [e] at h2; omega
  have co : c ≠ o := fun e => by rw [e] at h8; omega
  constructor
  · refine ⟨h1, h2, ?_, ?_, ?_, c, h6, h7, h8, h9, fun j hj => ?_⟩
    · rw [mm_I_a go, mm_I_k (by decide), mm_I_a gc]; exact h3
    · rw [mm_I_a go, mm_I_s, cntN_t hz]
    · rw [mm_I_a go, mm_I_k (by decide), mm_I_a gc]; exact h5
    · rw [mm_I_a co, mm_I_a (Ne.symm gc)]
      by_cases e : j = k
      · rw [e, mm_I_s, if_pos (Nat.lt_succ_self k)]
      · rw [mm_I_k e, h10 j hj]
        by_cases e2 : j < k
        · rw [if_pos e2, if_pos (by omega)]
        · rw [if_neg e2, if_neg (by omega)]
  · refine ⟨(((g1.trans (Fr.sI T c k _)).trans (Fr.sI _ g 2 _)).trans (Fr.sI _ o 7 _)).mono (fun x hx e => ?_), g2, g3, fun j q6 q7 => ?_, ?_, mm_I_s, g7⟩
    · rcases e with ((e | e) | e) | e
      · exact e
      · exact absurd h7 (by rw [← e]; exact hx)
      · exact absurd h1 (by rw [← e]; exact hx)
      · exact Or.inl e
    · rw [mm_I_k q7, mm_I_a (Ne.symm go), mm_I_a (Ne.symm co)]; exact g4 j q6 q7
    · rw [mm_I_k (by decide), mm_I_a (Ne.symm go), mm_I_a (Ne.symm co)]; exact g5
theorem sgN.mk {T : mm_H} {o g q a b : Nat} (h1 : mm_K T o = 4) (h3 : mm_I T o 7 = nI b) (h4 : UQ T) (hg : mm_K T g = 0) (hq : mm_K (mm_sN T g 1 0) q = 0) : gR T (mm_sI (mm_sI (mm_sI (mm_sI (mm_sP (mm_sN (mm_sN T g 1 0) q 6 16) g 1 (some q)) g 2 (nI 0)) g 3 (nI 0)) g 0 (nI a)) o 6 (nI (a + 1))) o o (a + 1) b ∧ ∀ w, sgN T (mm_sI (mm_sI (mm_sI (mm_sI (mm_sP (mm_sN (mm_sN T g 1 0) q 6 16) g 1 (some q)) g 2 (nI 0)) g 3 (nI 0)) g 0 (nI a)) o 6 (nI (a + 1))) g a 0 w := by
  have go : g ≠ o := fun e => by rw [e] at hg; omega
  have gq : g ≠ q := fun e => by rw [mm_K_sN, if_pos e.symm] at hq; omega
  have qK : mm_K T q = 0 := by rw [mm_K_sN, if_neg (Ne.symm gq)] at hq; exact hq
  have oq : o ≠ q := fun e => by rw [e] at h1; omega
  have hU : UQ (mm_sP (mm_sN (mm_sN T g 1 0) q 6 16) g 1 (some q)) := (h4.sN hg 1 0).arr hq 16
  have hF := ((((((Fr.sN T 1 0 hg).trans (Fr.sN _ 6 16 hq)).trans (Fr.sP _ g 1 (some q))).trans (Fr.sI _ g 2 (nI 0))).trans (Fr.sI _ g 3 (nI 0))).trans (Fr.sI _ g 0 (nI a))).trans (Fr.sI _ o 6 (nI (a + 1)))
  constructor
  · refine ⟨hF.mono (fun x hx e => ?_), ?_, fun k => ?_, fun k q6 q7 => ?_, mm_I_s, ?_, hU⟩
    · have ng : x ≠ g := fun e => hx (by rw [e]; exact hg)
      rcases e with (((((e | e) | e) | e) | e) | e) | e
      · exact e.elim
      · exact e.elim
      · exact absurd e ng
      · exact absurd e ng
      · exact absurd e ng
      · exact absurd e ng
      · exact Or.inl e
    · show mm_K (mm_sN (mm_sN T g 1 0) q 6 16) o = 4
      rw [mm_K_sN, if_neg oq, mm_K_sN, if_neg (Ne.symm go)]; exact h1
    · show mm_P (mm_sP (mm_sN (mm_sN T g 1 0) q 6 16) g 1 (some q)) o k = _
      rw [mm_P_sP, if_neg (fun e => go e.1.symm), mm_P_sN, if_neg oq, mm_P_sN, if_neg (Ne.symm go)]
    · rw [mm_I_k q6, mm_I_a (Ne.symm go), mm_I_a (Ne.symm go), mm_I_a (Ne.symm go), mm_I_sP, mm_I_sN, if_neg oq, mm_I_sN, if_neg (Ne.symm go)]
    · rw [mm_I_k (by decide), mm_I_a (Ne.symm go), mm_I_a (Ne.symm go), mm_I_a (Ne.symm go), mm_I_sP, mm_I_sN, if_neg oq, mm_I_sN, if_neg (Ne.symm go)]; exact h3
  · intro w
    refine ⟨hg, ?_, ?_, ?_, ?_, q, ?_, qK, ?_, ?_, fun j hj => ?_⟩
    · show mm_K (mm_sN (mm_sN T g 1 0) q 6 16) g = 1
      rw [mm_K_sN, if_neg gq, mm_K_sN, if_pos rfl]
    · rw [mm_I_a go, mm_I_s]
    · rw [mm_I_a go, mm_I_k (by decide), mm_I_k (by decide), mm_I_s]; rfl
    · rw [mm_I_a go, mm_I_k (by decide), mm_I_s]
    · show mm_P (mm_sP (mm_sN (mm_sN T g 1 0) q 6 16) g 1 (some q)) g 1 = _
      rw [mm_P_sP, if_pos ⟨rfl, rfl⟩]
    · show mm_K (mm_sN (mm_sN T g 1 0) q 6 16) q = 6
      rw [mm_K_sN, if_pos rfl]
    · show mm_L (mm_sN (mm_sN T g 1 0) q 6 16) q = 16
      rw [mm_L_sN, if_pos rfl]
    · rw [mm_I_a (Ne.symm oq), mm_I_a (Ne.symm gq), mm_I_a (Ne.symm gq), mm_I_a (Ne.symm gq), mm_I_sP, mm_I_sN, if_pos rfl, if_neg (Nat.not_lt_zero j)]; rfl
