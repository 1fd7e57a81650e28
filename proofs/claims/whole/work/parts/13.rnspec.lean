/-! what a refreshing does -/
theorem xA_o {Y : xx_X} {f i v g : Nat} (h : g ≠ f) : (xA Y f i v).2.1 g = Y.2.1 g := by
  funext j
  show (if g = f ∧ j = i then v else Y.2.1 g j) = _
  rw [if_neg (fun q => h q.1)]
theorem xA_j {Y : xx_X} {f i v j : Nat} (h : j ≠ i) : (xA Y f i v).2.1 f j = Y.2.1 f j := by
  show (if f = f ∧ j = i then v else Y.2.1 f j) = _
  rw [if_neg (fun q => h q.2)]
theorem xA_s {Y : xx_X} {f i v : Nat} : (xA Y f i v).2.1 f i = v := by
  show (if f = f ∧ i = i then v else Y.2.1 f i) = _
  rw [if_pos ⟨rfl, rfl⟩]
theorem xI_o {Y : xx_X} {f v g : Nat} (h : g ≠ f) : (xI Y f v).1 g = Y.1 g := by
  show (if g = f then v else Y.1 g) = _
  rw [if_neg h]
theorem xI_s {Y : xx_X} {f v : Nat} : (xI Y f v).1 f = v := by
  show (if f = f then v else Y.1 f) = _
  rw [if_pos rfl]
def newW (X : xx_X) (k : Nat) : Nat := if X.2.1 11 (X.1 15) < wr X k (X.1 0) then wr X k (X.1 0) else 0
def keepB (X : xx_X) (W : Nat → Nat → Nat) (j : Nat) : Bool := decide (0 < lvW (X.2.1 1) (W (X.2.1 13 (4 * X.1 15 + j))) (X.1 0))
def W1 (X : xx_X) (W : Nat → Nat → Nat) (s : Nat) : Nat → Nat := if s = X.1 6 then newW X else W s
def bst (f : Nat → Nat) : Nat → Nat × Nat
  | 0 => (0, 1000)
  | i + 1 => if f i < (bst f i).2 then (i, f i) else bst f i
theorem bst_s (f : Nat → Nat) (i : Nat) : bst f (i + 1) = if f i < (bst f i).2 then (i, f i) else bst f i := rfl
theorem bst_lt (f : Nat → Nat) : ∀ i, (bst f i).1 ≤ i - 1 ∧ (bst f i).2 ≤ 1000
  | 0 => ⟨Nat.le_refl _, Nat.le_refl _⟩
  | i + 1 => by
    have h := bst_lt f i
    rw [bst_s]
    by_cases e : f i < (bst f i).2
    · rw [if_pos e]; exact ⟨by show i ≤ i + 1 - 1; omega, by show f i ≤ 1000; omega⟩
    · rw [if_neg e]; exact ⟨by omega, h.2⟩
/-- what stays as it was, while the new view is being made -/
def rF (X Y : xx_X) : Prop := (∀ f, f ≠ 6 → f ≠ 9 → Y.1 f = X.1 f) ∧ Y.2.1 1 = X.2.1 1 ∧ Y.2.1 2 = X.2.1 2 ∧ (∀ t, t < X.1 6 → Y.2.1 7 t = X.2.1 7 t) ∧ (∀ i, i < 16 * X.1 6 → Y.2.1 8 i = X.2.1 8 i) ∧ (∀ u, u ≠ X.1 10 → Y.2.1 11 u = X.2.1 11 u ∧ Y.2.1 12 u = X.2.1 12 u ∧ Y.2.1 14 u = X.2.1 14 u) ∧ (∀ i, i < 4 * X.1 10 → Y.2.1 13 i = X.2.1 13 i) ∧ Y.2.1 11 (X.1 10) = X.1 0 ∧ Y.2.1 14 (X.1 10) = 0 ∧ Y.2.2 = X.2.2 ∧ xx_bd Y
theorem rF.a7 {X Y : xx_X} {t v : Nat} (h : rF X Y) (ht : X.1 6 ≤ t) (hv : v ≤ 16) : rF X (xA Y 7 t v) := by
  obtain ⟨h1, h2, h3, h4, h5, h6, h7, h8, h9, h10, h11⟩ := h
  exact ⟨h1, by rw [xA_o (by decide)]; exact h2, by rw [xA_o (by decide)]; exact h3, fun u hu => by rw [xA_j (by omega)]; exact h4 u hu, fun i hi => by rw [xA_o (by decide)]; exact h5 i hi, fun u hu => by rw [xA_o (by decide), xA_o (by decide), xA_o (by decide)]; exact h6 u hu, fun i hi => by rw [xA_o (by decide)]; exact h7 i hi, by rw [xA_o (by decide)]; exact h8, by rw [xA_o (by decide)]; exact h9, h10, h11.set hv⟩
theorem rF.a8 {X Y : xx_X} {i0 v : Nat} (h : rF X Y) (ht : 16 * X.1 6 ≤ i0) (hv : v ≤ 600) : rF X (xA Y 8 i0 v) := by
  obtain ⟨h1, h2, h3, h4, h5, h6, h7, h8, h9, h10, h11⟩ := h
  exact ⟨h1, by rw [xA_o (by decide)]; exact h2, by rw [xA_o (by decide)]; exact h3, fun u hu => by rw [xA_o (by decide)]; exact h4 u hu, fun i hi => by rw [xA_j (by omega)]; exact h5 i hi, fun u hu => by rw [xA_o (by decide), xA_o (by decide), xA_o (by decide)]; exact h6 u hu, fun i hi => by rw [xA_o (by decide)]; exact h7 i hi, by rw [xA_o (by decide)]; exact h8, by rw [xA_o (by decide)]; exact h9, h10, h11.set hv⟩
theorem rF.a12 {X Y : xx_X} {v : Nat} (h : rF X Y) (hv : v ≤ 4) : rF X (xA Y 12 (X.1 10) v) := by
  obtain ⟨h1, h2, h3, h4, h5, h6, h7, h8, h9, h10, h11⟩ := h
  exact ⟨h1, by rw [xA_o (by decide)]; exact h2, by rw [xA_o (by decide)]; exact h3, fun u hu => by rw [xA_o (by decide)]; exact h4 u hu, fun i hi => by rw [xA_o (by decide)]; exact h5 i hi, fun u hu => by rw [xA_o (by decide), xA_j hu, xA_o (by decide)]; exact h6 u hu, fun i hi => by rw [xA_o (by decide)]; exact h7 i hi, by rw [xA_o (by decide)]; exact h8, by rw [xA_o (by decide)]; exact h9, h10, h11.set hv⟩
theorem rF.a13 {X Y : xx_X} {i0 v : Nat} (h : rF X Y) (ht : 4 * X.1 10 ≤ i0) (hv : v ≤ 319) : rF X (xA Y 13 i0 v) := by
  obtain ⟨h1, h2, h3, h4, h5, h6, h7, h8, h9, h10, h11⟩ := h
  exact ⟨h1, by rw [xA_o (by decide)]; exact h2, by rw [xA_o (by decide)]; exact h3, fun u hu => by rw [xA_o (by decide)]; exact h4 u hu, fun i hi => by rw [xA_o (by decide)]; exact h5 i hi, fun u hu => by rw [xA_o (by decide), xA_o (by decide), xA_o (by decide)]; exact h6 u hu, fun i hi => by rw [xA_j (by omega)]; exact h7 i hi, by rw [xA_o (by decide)]; exact h8, by rw [xA_o (by decide)]; exact h9, h10, h11.set hv⟩
theorem rF.i69 {X Y : xx_X} {f v : Nat} (h : rF X Y) (hf : f = 6 ∨ f = 9) : rF X (xI Y f v) := by
  obtain ⟨h1, h2⟩ := h
  exact ⟨fun g g6 g9 => by rw [xI_o (by omega)]; exact h1 g g6 g9, h2⟩
theorem sgR.toF {X Y : xx_X} {t : Nat} {w : Nat → Nat} (h : sgR X t w) (hF : rF X Y) (ht : t < X.1 6) : sgR Y t w := by
  obtain ⟨h1, h2, h3, h4, h5, h6⟩ := hF
  refine ⟨by rw [h4 t ht]; exact h.1, fun k hk hw => ?_⟩
  have hc := cnt_lt hk (nz_t.mpr hw)
  have h16 := cntN_le (nz w) 16
  rw [h5 _ (by omega), h2]
  exact h.2 k hk hw
/-- what a refreshing asks of the view before it; W: the rows of each segment -/
def rH (X : xx_X) (W : Nat → Nat → Nat) : Prop := xx_ok X ∧ xx_bd X ∧ X.1 10 < 150 ∧ X.1 9 < 100000 ∧
  (∀ i, i < X.2.1 12 (X.1 15) → X.2.1 13 (4 * X.1 15 + i) < X.1 6 ∧ sgR X (X.2.1 13 (4 * X.1 15 + i)) (W (X.2.1 13 (4 * X.1 15 + i))) ∧ ∀ k, k < 16 → W (X.2.1 13 (4 * X.1 15 + i)) k ≤ X.2.1 11 (X.1 15)) ∧
  (∀ i j, i < X.2.1 12 (X.1 15) → j < X.2.1 12 (X.1 15) → i ≠ j → ∀ k, k < 16 → 0 < W (X.2.1 13 (4 * X.1 15 + i)) k → 0 < W (X.2.1 13 (4 * X.1 15 + j)) k → cg (X.2.1 1) k (X.1 0) = W (X.2.1 13 (4 * X.1 15 + i)) k → cg (X.2.1 1) k (X.1 0) = W (X.2.1 13 (4 * X.1 15 + j)) k → False)
/-- the segments that were kept so far, of the first i -/
def lstK (X : xx_X) (W : Nat → Nat → Nat) (Y : xx_X) (i : Nat) : Prop := Y.2.1 12 (X.1 10) = cntN (keepB X W) i ∧ ∀ j, j < i → keepB X W j = true → Y.2.1 13 (4 * X.1 10 + cntN (keepB X W) j) = X.2.1 13 (4 * X.1 15 + j)
theorem lstK.put {X Y : xx_X} {W : Nat → Nat → Nat} {i v : Nat} (h : lstK X W Y i) (hb : keepB X W i = true) (hv : v = X.2.1 13 (4 * X.1 15 + i)) : lstK X W (xA (xA Y 13 (4 * X.1 10 + Y.2.1 12 (X.1 10)) v) 12 (X.1 10) (Y.2.1 12 (X.1 10) + 1)) (i + 1) := by
  refine ⟨by rw [xA_s, cntN_t hb, h.1], fun j hj hj2 => ?_⟩
  rw [xA_o (by decide), h.1]
  by_cases e : j = i
  · subst e; rw [xA_s, hv]
  · rw [xA_j (fun q => e (cnt_inj hj2 hb (by omega)))]; exact h.2 j (by omega) hj2
theorem lstK.skip {X Y : xx_X} {W : Nat → Nat → Nat} {i : Nat} (h : lstK X W Y i) (hb : keepB X W i = false) : lstK X W Y (i + 1) := by
  refine ⟨by rw [cntN_f hb, h.1]; rfl, fun j hj hj2 => ?_⟩
  by_cases e : j = i
  · subst e; rw [hb] at hj2; cases hj2
  · exact h.2 j (by omega) hj2
theorem xx_ok.bd {X : xx_X} (h : xx_ok X) : (∀ i, X.2.1 7 i ≤ 16) ∧ (∀ i, X.2.1 8 i ≤ 600) ∧ (∀ i, X.2.1 1 i < 16) := ⟨h.2.2.2.2.2.2.2.2.2.1, h.2.2.2.2.2.2.2.2.2.2.1, h.2.2.2.2.2.2.2.1⟩
theorem xx_bd.k7 {X : xx_X} (h : xx_bd X) (i : Nat) : X.2.1 1 i < 16 := Nat.lt_succ_of_le (h 1 i)
theorem xx_bd.k9 {X : xx_X} (h : xx_bd X) (i : Nat) : X.2.1 7 i ≤ 16 := h 7 i
theorem xx_bd.k10 {X : xx_X} (h : xx_bd X) (i : Nat) : X.2.1 8 i ≤ 600 := h 8 i
def newcN (X : xx_X) : Nat := cntN (nz (newW X)) 16
def nwB (X : xx_X) : Bool := decide (0 < newcN X)
def kcN (X : xx_X) (W : Nat → Nat → Nat) : Nat := cntN (keepB X W) (X.2.1 12 (X.1 15))
def l1N (X : xx_X) (W : Nat → Nat → Nat) : Nat := kcN X W + (bif nwB X then 1 else 0)
/-- q: the row of segments before a merge -/
def qOK (X : xx_X) (W : Nat → Nat → Nat) (q : Nat → Nat) : Prop := (∀ j, j < X.2.1 12 (X.1 15) → keepB X W j = true → q (cntN (keepB X W) j) = X.2.1 13 (4 * X.1 15 + j)) ∧ (nwB X = true → q (kcN X W) = X.1 6)
def sumq (X : xx_X) (W : Nat → Nat → Nat) (q : Nat → Nat) (t : Nat) : Nat := lvW (X.2.1 1) (W1 X W (q t)) (X.1 0) + lvW (X.2.1 1) (W1 X W (q (t + 1))) (X.1 0)
def bestq (X : xx_X) (W : Nat → Nat → Nat) (q : Nat → Nat) : Nat := (bst (sumq X W q) 3).1
def mwq (X : xx_X) (W : Nat → Nat → Nat) (q : Nat → Nat) : Nat → Nat := mwW (X.2.1 1) (X.1 0) (W1 X W (q (bestq X W q))) (W1 X W (q (bestq X W q + 1)))
def tgt (q : Nat → Nat) (b z t : Nat) : Nat := if t < b then q t else if t = b then z else q (t + 1)
def rnY (X : xx_X) (W : Nat → Nat → Nat) (Y : xx_X) (q : Nat → Nat) : Prop := rF X Y ∧ qOK X W q ∧
  ((l1N X W ≤ 3 ∧ Y.2.1 12 (X.1 10) = l1N X W ∧ (∀ t, t < l1N X W → Y.2.1 13 (4 * X.1 10 + t) = q t) ∧ Y.1 6 = X.1 6 + (bif nwB X then 1 else 0) ∧ Y.1 9 = X.1 9 + newcN X ∧ (nwB X = true → sgR Y (X.1 6) (newW X))) ∨
   (l1N X W = 4 ∧ Y.2.1 12 (X.1 10) = 3 ∧ (∀ t, t < 3 → Y.2.1 13 (4 * X.1 10 + t) = tgt q (bestq X W q) (X.1 6 + 1) t) ∧ Y.1 6 = X.1 6 + 2 ∧ Y.1 9 = X.1 9 + newcN X + cntN (nz (mwq X W q)) 16 ∧ sgR Y (X.1 6) (newW X) ∧ sgR Y (X.1 6 + 1) (mwq X W q)))
def rnR (X : xx_X) (W : Nat → Nat → Nat) (X' : xx_X) : Prop := ∃ Y q, rnY X W Y q ∧ X' = xI (xI Y 10 (X.1 10 + 1)) 15 (X.1 10)
theorem sgR.o {Y : xx_X} {s f i v : Nat} {w : Nat → Nat} (h : sgR Y s w) (h1 : f ≠ 1) (h7 : f ≠ 7) (h8 : f ≠ 8) : sgR (xA Y f i v) s w := by
  refine ⟨by rw [xA_o (Ne.symm h7)]; exact h.1, fun k hk hw => ?_⟩
  rw [xA_o (Ne.symm h8), xA_o (Ne.symm h1)]
  exact h.2 k hk hw
theorem newW_key {X : xx_X} {k : Nat} (h : 0 < newW X k) : X.2.1 1 (newW X k) = k ∧ newW X k = cg (X.2.1 1) k (X.1 0) ∧ X.2.1 11 (X.1 15) < newW X k ∧ newW X k ≤ X.1 0 := by
  unfold newW at h ⊢
  by_cases e : X.2.1 11 (X.1 15) < wr X k (X.1 0)
  · rw [if_pos e] at h ⊢
    unfold wr at h e ⊢
    by_cases e2 : 0 < cg (X.2.1 1) k (X.1 0) ∧ 0 < X.2.1 2 (cg (X.2.1 1) k (X.1 0))
    · rw [if_pos e2] at e ⊢
      exact ⟨cg_key _ _ _ e2.1, rfl, e, cg_le _ _ _⟩
    · rw [if_neg e2] at h; omega
  · rw [if_neg e] at h; omega
theorem sgR.ofrk {X Y : xx_X} (hF : rF X Y) (h : rkO Y (X.1 6) (newW X) 16) : sgR Y (X.1 6) (newW X) := ⟨h.1, fun k hk hm => ⟨h.2 k hk hm, by rw [hF.2.1]; exact (newW_key hm).1⟩⟩
/-- each segment of the row before a merge -/
theorem qOK.seg {X Y : xx_X} {W : Nat → Nat → Nat} {q : Nat → Nat} (hH : rH X W) (hq : qOK X W q) (hF : rF X Y) (hN : nwB X = true → sgR Y (X.1 6) (newW X)) {t : Nat} (ht : t < l1N X W) : q t < X.1 6 + (bif nwB X then 1 else 0) ∧ sgR Y (q t) (W1 X W (q t)) := by
  by_cases e : t < kcN X W
  · obtain ⟨j, hj, hb, hc⟩ := cnt_surj e
    obtain ⟨h1, h2, -⟩ := hH.2.2.2.2.1 j hj
    have hqt : q t = X.2.1 13 (4 * X.1 15 + j) := by rw [← hc]; exact hq.1 j hj hb
    rw [hqt]
    refine ⟨by omega, ?_⟩
    unfold W1
    rw [if_neg (by omega)]
    exact h2.toF hF h1
  · unfold l1N at ht
    cases hb : nwB X with
    | false => rw [hb] at ht; exact absurd ht (by simp; omega)
    | true =>
      rw [hb] at ht
      have et : t = kcN X W := by simp at ht; omega
      have hqt : q t = X.1 6 := by rw [et]; exact hq.2 hb
      rw [hqt]
      refine ⟨by simp, ?_⟩
      unfold W1
      rw [if_pos rfl]
      exact hN hb
/-- no key is live in two of them -/
theorem qOK.dj {X : xx_X} {W : Nat → Nat → Nat} {q : Nat → Nat} (hH : rH X W) (hq : qOK X W q) {a b : Nat} (ha : a < l1N X W) (hb : b < l1N X W) (hab : a ≠ b) (k : Nat) (hk : k < 16) (h1 : 0 < W1 X W (q a) k) (h2 : 0 < W1 X W (q b) k) (h3 : cg (X.2.1 1) k (X.1 0) = W1 X W (q a) k) (h4 : cg (X.2.1 1) k (X.1 0) = W1 X W (q b) k) : False := by
  have old : ∀ t, t < kcN X W → ∃ j, j < X.2.1 12 (X.1 15) ∧ cntN (keepB X W) j = t ∧ W1 X W (q t) = W (X.2.1 13 (4 * X.1 15 + j)) := by
    intro t ht
    obtain ⟨j, hj, hb, hc⟩ := cnt_surj ht
    refine ⟨j, hj, hc, ?_⟩
    have hqt : q t = X.2.1 13 (4 * X.1 15 + j) := by rw [← hc]; exact hq.1 j hj hb
    have := (hH.2.2.2.2.1 j hj).1
    unfold W1
    rw [hqt, if_neg (by omega)]
  have new : ∀ t, t < l1N X W → ¬ t < kcN X W → t = kcN X W ∧ W1 X W (q t) = newW X := by
    intro t ht hn
    unfold l1N at ht
    cases hb : nwB X with
    | false => rw [hb] at ht; exact absurd ht (by simp; omega)
    | true =>
      rw [hb] at ht
      have et : t = kcN X W := by simp at ht; omega
      refine ⟨et, ?_⟩
      unfold W1
      rw [et, hq.2 hb, if_pos rfl]
  by_cases ea : a < kcN X W <;> by_cases eb : b < kcN X W
  · obtain ⟨i, hi, ci, wi⟩ := old a ea
    obtain ⟨j, hj, cj, wj⟩ := old b eb
    rw [wi] at h1 h3
    rw [wj] at h2 h4
    exact hH.2.2.2.2.2 i j hi hj (fun e => hab (by rw [← ci, ← cj, e])) k hk h1 h2 h3 h4
  · obtain ⟨i, hi, ci, wi⟩ := old a ea
    obtain ⟨-, wb⟩ := new b hb eb
    rw [wi] at h1 h3
    rw [wb] at h2 h4
    have := (hH.2.2.2.2.1 i hi).2.2 k hk
    have := (newW_key h2).2.2.1
    omega
  · obtain ⟨i, hi, ci, wi⟩ := old b eb
    obtain ⟨-, wa⟩ := new a ha ea
    rw [wi] at h2 h4
    rw [wa] at h1 h3
    have := (hH.2.2.2.2.1 i hi).2.2 k hk
    have := (newW_key h1).2.2.1
    omega
  · exact hab ((new a ha ea).1.trans (new b hb eb).1.symm)
theorem rF0 {X : xx_X} (hb : xx_bd X) (h0 : X.1 0 ≤ 600) : rF X (xA (xA (xA X 11 (X.1 10) (X.1 0)) 14 (X.1 10) 0) 12 (X.1 10) 0) := by
  refine ⟨fun _ _ _ => rfl, ?_, ?_, fun t _ => ?_, fun i _ => ?_, fun u hu => ⟨?_, ?_, ?_⟩, fun i _ => ?_, ?_, ?_, rfl, ((hb.set h0).set (Nat.zero_le _)).set (Nat.zero_le _)⟩
  · rw [xA_o (by decide), xA_o (by decide), xA_o (by decide)]
  · rw [xA_o (by decide), xA_o (by decide), xA_o (by decide)]
  · rw [xA_o (by decide), xA_o (by decide), xA_o (by decide)]
  · rw [xA_o (by decide), xA_o (by decide), xA_o (by decide)]
  · rw [xA_o (by decide), xA_o (by decide), xA_j hu]
  · rw [xA_j hu, xA_o (by decide), xA_o (by decide)]
  · rw [xA_o (by decide), xA_j hu, xA_o (by decide)]
  · rw [xA_o (by decide), xA_o (by decide), xA_o (by decide)]
  · rw [xA_o (by decide), xA_o (by decide), xA_s]
  · rw [xA_o (by decide), xA_s]
theorem rn_new {X Y : xx_X} {W : Nat → Nat → Nat} (hH : rH X W) (hF : rF X Y) (e9 : Y.1 9 = X.1 9) (hL : lstK X W Y (X.2.1 12 (X.1 15))) (hP : rkO Y (X.1 6) (newW X) 16) (hpos : 0 < Y.2.1 7 (X.1 6)) {Z : xx_X} (hZ : Z = xI (xA (xA (xI Y 9 (Y.1 9 + Y.2.1 7 (X.1 6))) 13 (4 * X.1 10 + Y.2.1 12 (X.1 10)) (X.1 6)) 12 (X.1 10) (Y.2.1 12 (X.1 10) + 1)) 6 (X.1 6 + 1)) :
    rF X Z ∧ Z.2.1 12 (X.1 10) = l1N X W ∧ nwB X = true ∧ Z.1 6 = X.1 6 + 1 ∧ Z.1 9 = X.1 9 + newcN X ∧ sgR Z (X.1 6) (newW X) ∧ qOK X W (fun t => Z.2.1 13 (4 * X.1 10 + t)) := by
  have hnb : nwB X = true := decide_eq_true (by unfold newcN; rw [← hP.1]; exact hpos)
  have hm3 := hH.1.2.2.2.2.2.2.2.2.2.2.2.2.1 (X.1 15)
  have hm2 := hH.1.2.2.2.2.2.2.1
  have hm1 := hH.1.2.2.1
  have hc := cntN_le (keepB X W) (X.2.1 12 (X.1 15))
  have hl1 := hL.1
  subst hZ
  refine ⟨(((hF.i69 (Or.inr rfl)).a13 (by omega) (by omega)).a12 (by omega)).i69 (Or.inl rfl), ?_, hnb, xI_s, ?_, ?_, ?_, ?_⟩
  · show (xA _ 12 (X.1 10) _).2.1 12 (X.1 10) = _
    rw [xA_s, hl1]
    unfold l1N kcN
    rw [hnb]; rfl
  · rw [xI_o (by decide)]
    show (xI Y 9 (Y.1 9 + Y.2.1 7 (X.1 6))).1 9 = _
    rw [xI_s, e9, hP.1]
    rfl
  · exact ((sgR.ofrk hF hP).o (Y := xI Y 9 (Y.1 9 + Y.2.1 7 (X.1 6))) (f := 13) (i := 4 * X.1 10 + Y.2.1 12 (X.1 10)) (v := X.1 6) (by decide) (by decide) (by decide)).o (by decide) (by decide) (by decide)
  · intro j hj hb
    show (xA (xA (xI Y 9 (Y.1 9 + Y.2.1 7 (X.1 6))) 13 (4 * X.1 10 + Y.2.1 12 (X.1 10)) (X.1 6)) 12 (X.1 10) (Y.2.1 12 (X.1 10) + 1)).2.1 13 (4 * X.1 10 + cntN (keepB X W) j) = _
    have hlt := cnt_lt hj hb
    rw [xA_o (by decide), xA_j (by omega)]
    exact hL.2 j hj hb
  · intro _
    show (xA (xA (xI Y 9 (Y.1 9 + Y.2.1 7 (X.1 6))) 13 (4 * X.1 10 + Y.2.1 12 (X.1 10)) (X.1 6)) 12 (X.1 10) (Y.2.1 12 (X.1 10) + 1)).2.1 13 (4 * X.1 10 + kcN X W) = _
    rw [xA_o (by decide), show kcN X W = Y.2.1 12 (X.1 10) from hl1.symm, xA_s]
theorem rn_old {X Y : xx_X} {W : Nat → Nat → Nat} (e6 : Y.1 6 = X.1 6) (e9 : Y.1 9 = X.1 9) (hL : lstK X W Y (X.2.1 12 (X.1 15))) (hP : rkO Y (X.1 6) (newW X) 16) (hpos : Y.2.1 7 (X.1 6) ≤ 0) :
    Y.2.1 12 (X.1 10) = l1N X W ∧ nwB X = false ∧ Y.1 6 = X.1 6 + (bif nwB X then 1 else 0) ∧ Y.1 9 = X.1 9 + newcN X ∧ qOK X W (fun t => Y.2.1 13 (4 * X.1 10 + t)) := by
  have h0 : newcN X = 0 := by unfold newcN; rw [← hP.1]; omega
  have hnb : nwB X = false := decide_eq_false (by omega)
  refine ⟨?_, hnb, by rw [hnb]; exact e6, by rw [h0]; exact e9, fun j hj hb => hL.2 j hj hb, fun h => by rw [hnb] at h; cases h⟩
  unfold l1N
  rw [hnb]
  exact hL.1
/-! crash and drop -/
def xO (X : xx_X) (n : Nat) : xx_X := (X.1, fun f i => if f = 14 ∧ i < n then 0 else X.2.1 f i, X.2.2.1, X.2.2.2)
theorem xO_s (X : xx_X) (n : Nat) : xA (xO X n) 14 n 0 = xO X (n + 1) := by
  unfold xA xO
  refine Prod.ext rfl (Prod.ext ?_ rfl)
  funext f i
  show (if f = 14 ∧ i = n then 0 else if f = 14 ∧ i < n then 0 else X.2.1 f i) = if f = 14 ∧ i < n + 1 then 0 else X.2.1 f i
  by_cases h : f = 14
  · by_cases h2 : i = n
    · rw [if_pos ⟨h, h2⟩, if_pos ⟨h, by omega⟩]
    · rw [if_neg (fun q => h2 q.2)]
      by_cases h3 : i < n
      · rw [if_pos ⟨h, h3⟩, if_pos ⟨h, by omega⟩]
      · rw [if_neg (fun q => h3 q.2), if_neg (fun q => by omega)]
  · rw [if_neg (fun q => h q.1), if_neg (fun q => h q.1), if_neg (fun q => h q.1)]
theorem xO_0 (X : xx_X) : xO X 0 = X := by
  unfold xO
  refine Prod.ext rfl (Prod.ext ?_ rfl)
  funext f i
  show (if f = 14 ∧ i < 0 then 0 else X.2.1 f i) = X.2.1 f i
  rw [if_neg (fun q => by omega)]
theorem xO_o {X : xx_X} {n f : Nat} (h : f ≠ 14) : (xO X n).2.1 f = X.2.1 f := by
  funext i
  show (if f = 14 ∧ i < n then 0 else X.2.1 f i) = _
  rw [if_neg (fun q => h q.1)]
/-- what a crash leaves, before it is refreshed -/
def crX (X : xx_X) : xx_X := xI (xO (xI X 0 (X.1 17)) (X.1 10)) 15 (X.1 16)
theorem crX_1 (X : xx_X) : (crX X).1 0 = X.1 17 ∧ (crX X).1 15 = X.1 16 ∧ ∀ f, f ≠ 0 → f ≠ 15 → (crX X).1 f = X.1 f := by
  refine ⟨?_, xI_s, fun f h0 h15 => ?_⟩
  · unfold crX; rw [xI_o (by decide)]; exact xI_s (Y := X) (f := 0) (v := X.1 17)
  · unfold crX; rw [xI_o h15]; exact xI_o (Y := X) (f := 0) (v := X.1 17) h0
theorem crX_2 (X : xx_X) {f : Nat} (h : f ≠ 14) : (crX X).2.1 f = X.2.1 f := xO_o h
theorem xx_ok.cr {X : xx_X} (h : xx_ok X) : xx_ok (crX X) := by
  obtain ⟨k0, k1, k2, k3, k4, k5, k6, k7, k8, k9, k10, k11, k12, k13⟩ := h
  obtain ⟨c0, c15, cf⟩ := crX_1 X
  refine ⟨by omega, by rw [cf 10 (by decide) (by decide)]; exact k1, by rw [cf 10 (by decide) (by decide)]; exact k2, by rw [c15, cf 10 (by decide) (by decide)]; exact k4, by rw [cf 16 (by decide) (by decide), cf 10 (by decide) (by decide)]; exact k4, by rw [cf 17 (by decide) (by decide), c0]; exact Nat.le_refl _, by rw [cf 6 (by decide) (by decide), cf 10 (by decide) (by decide)]; exact k6, ?_, ?_, ?_, ?_, ?_, ?_, ?_⟩
  · rw [crX_2 X (by decide)]; exact k7
  · rw [crX_2 X (by decide)]; exact k8
  · rw [crX_2 X (by decide)]; exact k9
  · rw [crX_2 X (by decide)]; exact k10
  · rw [crX_2 X (by decide)]; exact k11
  · rw [crX_2 X (by decide)]; exact k12
  · rw [crX_2 X (by decide)]; exact k13
def sp_refresh (X : xx_X) (W : Nat → Nat → Nat) (z : Int32) (X' : xx_X) : Prop := (newsB X = true ∧ X.1 10 = 150 ∧ z = -5 ∧ X' = X) ∨ (newsB X = false ∧ X' = X ∧ z = nI (X.1 15)) ∨ (newsB X = true ∧ X.1 10 < 150 ∧ rnR X W X' ∧ z = nI (X.1 10))
def sp_commit (X : xx_X) (W : Nat → Nat → Nat) (z : Int32) (X' : xx_X) : Prop := (newsB X = true ∧ X.1 10 = 150 ∧ z = -5 ∧ X' = X) ∨ (newsB X = false ∧ X' = xI (xI X 16 (X.1 15)) 17 (X.1 0) ∧ z = nI (X.1 15)) ∨ (newsB X = true ∧ X.1 10 < 150 ∧ (∃ X2, rnR X W X2 ∧ X' = xI (xI X2 16 (X.1 10)) 17 (X.1 0)) ∧ z = nI (X.1 10))
def sp_crash (X : xx_X) (W : Nat → Nat → Nat) (z : Int32) (X' : xx_X) : Prop := (X.2.1 11 (X.1 16) < X.1 17 ∧ X.1 10 = 150 ∧ z = -5 ∧ X' = X) ∨ (z = nI (X.1 0 - X.1 17) ∧ (newsB (crX X) = false ∧ X' = crX X ∨ newsB (crX X) = true ∧ X.1 10 < 150 ∧ rnR (crX X) W X'))
def addX (X : xx_X) (k w : Nat) : xx_X := xA (xA (xI X 0 (X.1 0 + 1)) 1 (X.1 0 + 1) k) 2 (X.1 0 + 1) w
def stillB (X : xx_X) (j : Nat) (q : Int32) (k : Nat) : Bool := hasB X j k q && decide (cg (X.2.1 1) k (X.1 0) = wr X k (X.2.1 11 j))
def dropX (X : xx_X) (j : Nat) (q : Int32) : Nat → xx_X
  | 0 => X
  | k + 1 => bif stillB X j q k then addX (dropX X j q k) k 0 else dropX X j q k
def sp_drop (X : xx_X) (v q : Int32) : Int32 × xx_X :=
  if heldB X v = true then
    (if inb q (nI 0) (nI 255) = true then
      (if X.1 0 + cntN (stillB X v.toNatClampNeg q) 16 ≤ 600 then (nI (cntN (stillB X v.toNatClampNeg q) 16), xI (dropX X v.toNatClampNeg q 16) 3 (cntN (fun k => hasB X v.toNatClampNeg k q && !(stillB X v.toNatClampNeg q k)) 16)) else (-5, X))
    else (-3, X))
  else (-2, X)
theorem cg_congr {ck ck' : Nat → Nat} {k : Nat} : ∀ {n : Nat}, (∀ i, i ≤ n → ck i = ck' i) → cg ck k n = cg ck' k n
  | 0, _ => rfl
  | n + 1, h => by
    rw [cg_s, cg_s, h (n + 1) (Nat.le_refl _), cg_congr (fun i hi => h i (by omega))]
theorem dropX_fr (X : xx_X) (j : Nat) (q : Int32) : ∀ K, (dropX X j q K).1 0 = X.1 0 + cntN (stillB X j q) K ∧ (∀ f, f ≠ 0 → (dropX X j q K).1 f = X.1 f) ∧ (∀ f, f ≠ 1 → f ≠ 2 → (dropX X j q K).2.1 f = X.2.1 f) ∧ (∀ f i, i ≤ X.1 0 → (dropX X j q K).2.1 f i = X.2.1 f i) ∧ (dropX X j q K).2.2 = X.2.2
  | 0 => ⟨rfl, fun _ _ => rfl, fun _ _ _ => rfl, fun _ _ _ => rfl, rfl⟩
  | K + 1 => by
    obtain ⟨h1, h2, h3, h4, h5⟩ := dropX_fr X j q K
    unfold dropX
    cases hb : stillB X j q K with
    | false => rw [cntN_f hb]; exact ⟨h1, h2, h3, h4, h5⟩
    | true =>
      rw [cntN_t hb]
      simp only [cond_true]
      unfold addX
      refine ⟨?_, fun f hf => ?_, fun f f1 f2 => ?_, fun f i hi => ?_, h5⟩
      · show (xI (dropX X j q K) 0 ((dropX X j q K).1 0 + 1)).1 0 = _
        rw [xI_s, h1]; omega
      · show (xI (dropX X j q K) 0 ((dropX X j q K).1 0 + 1)).1 f = _
        rw [xI_o hf]; exact h2 f hf
      · rw [xA_o f2, xA_o f1]; exact h3 f f1 f2
      · by_cases e2 : f = 2
        · subst e2; rw [xA_j (by omega), xA_o (by decide)]; exact h4 2 i hi
        · rw [xA_o e2]
          by_cases e1 : f = 1
          · subst e1; rw [xA_j (by omega)]; exact h4 1 i hi
          · rw [xA_o e1]; exact h4 f i hi
