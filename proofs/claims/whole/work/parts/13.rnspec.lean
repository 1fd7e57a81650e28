/-! what a refreshing does -/
theorem xA_o {Y : xx_X} {f i v g : Nat} (h : g ≠ f) : (xA Y f i v).2.1 g = Y.2.1 g := by
  funext j
  show (if g = f ∧ j = i then v else Y.2.1 g j) = _
  rw [if_neg (fun q => h q.1)]
theorem xA_j {Y : xx_X} {f i v j : Nat} (h : j ≠ i) : (xA Y f i v).2.1 f j = Y.2.1 f j := by
  show (if f = f ∧ j = i then v else Y.2.1 f j) = _
  rw [if_neg (fun q => h q.2)]
theorem xA_s {Y : xx_X} {f i v : Nat} : (xA Y f i v).2.1 f i = v := by
  show (if f = f ∧ i = i then v else Y.2.1 f i) = _
  rw [if_pos ⟨rfl, rfl⟩]
theorem xI_o {Y : xx_X} {f v g : Nat} (h : g ≠ f) : (xI Y f v).1 g = Y.1 g := by
  show (if g = f then v else Y.1 g) = _
  rw [if_neg h]
theorem xI_s {Y : xx_X} {f v : Nat} : (xI Y f v).1 f = v := by
  show (if f = f then v else Y.1 f) = _
  rw [if_pos rfl]
def newW (X : xx_X) (k : Nat) : Nat := if X.2.1 11 (X.1 15) < wr X k (X.1 0) then wr X k (X.1 0) else 0
def keepB (X : xx_X) (W : Nat → Nat → Nat) (j : Nat) : Bool := decide (0 < lvW (X.2.1 1) (W (X.2.1 13 (4 * X.1 15 + j))) (X.1 0))
def W1 (X : xx_X) (W : Nat → Nat → Nat) (s : Nat) : Nat → Nat := if s = X.1 6 then newW X else W s
def bst (f : Nat → Nat) : Nat → Nat × Nat
  | 0 => (0, 1000)
  | i + 1 => if f i < (bst f i).2 then (i, f i) else bst f i
theorem bst_s (f : Nat → Nat) (i : Nat) : bst f (i + 1) = if f i < (bst f i).2 then (i, f i) else bst f i := rfl
theorem bst_lt (f : Nat → Nat) : ∀ i, (bst f i).1 ≤ i - 1 ∧ (bst f i).2 ≤ 1000
  | 0 => ⟨Nat.le_refl _, Nat.le_refl _⟩
  | i + 1 => by
    have h := bst_lt f i
    rw [bst_s]
    by_cases e : f i < (bst f i).2
    · rw [if_pos e]; exact ⟨by show i ≤ i + 1 - 1; omega, by show f i ≤ 1000; omega⟩
    · rw [if_neg e]; exact ⟨by omega, h.2⟩
/-- what stays as it was, while the new view is being made -/
def rF (X Y : xx_X) : Prop := (∀ f, f ≠ 6 → f ≠ 9 → Y.1 f = X.1 f) ∧ Y.2.1 1 = X.2.1 1 ∧ Y.2.1 2 = X.2.1 2 ∧ (∀ t, t < X.1 6 → Y.2.1 7 t = X.2.1 7 t) ∧ (∀ i, i < 16 * X.1 6 → Y.2.1 8 i = X.2.1 8 i) ∧ (∀ u, u ≠ X.1 10 → Y.2.1 11 u = X.2.1 11 u ∧ Y.2.1 12 u = X.2.1 12 u ∧ Y.2.1 14 u = X.2.1 14 u) ∧ (∀ i, i < 4 * X.1 10 → Y.2.1 13 i = X.2.1 13 i) ∧ Y.2.1 11 (X.1 10) = X.1 0 ∧ Y.2.1 14 (X.1 10) = 0 ∧ Y.2.2 = X.2.2 ∧ xx_bd Y
theorem rF.a7 {X Y : xx_X} {t v : Nat} (h : rF X Y) (ht : X.1 6 ≤ t) (hv : v ≤ 16) : rF X (xA Y 7 t v) := by
  obtain ⟨h1, h2, h3, h4, h5, h6, h7, h8, h9, h10, h11⟩ := h
  exact ⟨h1, by rw [xA_o (by decide)]; exact h2, by rw [xA_o (by decide)]; exact h3, fun u hu => by rw [xA_j (by omega)]; exact h4 u hu, fun i hi => by rw [xA_o (by decide)]; exact h5 i hi, fun u hu => by rw [xA_o (by decide), xA_o (by decide), xA_o (by decide)]; exact h6 u hu, fun i hi => by rw [xA_o (by decide)]; exact h7 i hi, by rw [xA_o (by decide)]; exact h8, by rw [xA_o (by decide)]; exact h9, h10, h11.set hv⟩
theorem rF.a8 {X Y : xx_X} {i0 v : Nat} (h : rF X Y) (ht : 16 * X.1 6 ≤ i0) (hv : v ≤ 600) : rF X (xA Y 8 i0 v) := by
  obtain ⟨h1, h2, h3, h4, h5, h6, h7, h8, h9, h10, h11⟩ := h
  exact ⟨h1, by rw [xA_o (by decide)]; exact h2, by rw [xA_o (by decide)]; exact h3, fun u hu => by rw [xA_o (by decide)]; exact h4 u hu, fun i hi => by rw [xA_j (by omega)]; exact h5 i hi, fun u hu => by rw [xA_o (by decide), xA_o (by decide), xA_o (by decide)]; exact h6 u hu, fun i hi => by rw [xA_o (by decide)]; exact h7 i hi, by rw [xA_o (by decide)]; exact h8, by rw [xA_o (by decide)]; exact h9, h10, h11.set hv⟩
theorem rF.a12 {X Y : xx_X} {v : Nat} (h : rF X Y) (hv : v ≤ 4) : rF X (xA Y 12 (X.1 10) v) := by
  obtain ⟨h1, h2, h3, h4, h5, h6, h7, h8, h9, h10, h11⟩ := h
  exact ⟨h1, by rw [xA_o (by decide)]; exact h2, by rw [xA_o (by decide)]; exact h3, fun u hu => by rw [xA_o (by decide)]; exact h4 u hu, fun i hi => by rw [xA_o (by decide)]; exact h5 i hi, fun u hu => by rw [xA_o (by decide), xA_j hu, xA_o (by decide)]; exact h6 u hu, fun i hi => by rw [xA_o (by decide)]; exact h7 i hi, by rw [xA_o (by decide)]; exact h8, by rw [xA_o (by decide)]; exact h9, h10, h11.set hv⟩
theorem rF.a13 {X Y : xx_X} {i0 v : Nat} (h : rF X Y) (ht : 4 * X.1 10 ≤ i0) (hv : v ≤ 319) : rF X (xA Y 13 i0 v) := by
  obtain ⟨h1, h2, h3, h4, h5, h6, h7, h8, h9, h10, h11⟩ := h
  exact ⟨h1, by rw [xA_o (by decide)]; exact h2, by rw [xA_o (by decide)]; exact h3, fun u hu => by rw [xA_o (by decide)]; exact h4 u hu, fun i hi => by rw [xA_o (by decide)]; exact h5 i hi, fun u hu => by rw [xA_o (by decide), xA_o (by decide), xA_o (by decide)]; exact h6 u hu, fun i hi => by rw [xA_j (by omega)]; exact h7 i hi, by rw [xA_o (by decide)]; exact h8, by rw [xA_o (by decide)]; exact h9, h10, h11.set hv⟩
theorem rF.i69 {X Y : xx_X} {f v : Nat} (h : rF X Y) (hf : f = 6 ∨ f = 9) : rF X (xI Y f v) := by
  obtain ⟨h1, h2⟩ := h
  exact ⟨fun g g6 g9 => by rw [xI_o (by omega)]; exact h1 g g6 g9, h2⟩
theorem sgR.rF {X Y : xx_X} {t : Nat} {w : Nat → Nat} (h : sgR X t w) (hF : rF X Y) (ht : t < X.1 6) : sgR Y t w := by
  obtain ⟨h1, h2, h3, h4, h5, h6⟩ := hF
  refine ⟨by rw [h4 t ht]; exact h.1, fun k hk hw => ?_⟩
  have hc := cnt_lt hk (nz_t.mpr hw)
  have h16 := cntN_le (nz w) 16
  rw [h5 _ (by omega), h2]
  exact h.2 k hk hw
/-- what a refreshing asks of the view before it; W: the rows of each segment -/
def rH (X : xx_X) (W : Nat → Nat → Nat) : Prop := xx_ok X ∧ xx_bd X ∧ X.1 10 < 150 ∧ X.1 9 < 100000 ∧
  (∀ i, i < X.2.1 12 (X.1 15) → X.2.1 13 (4 * X.1 15 + i) < X.1 6 ∧ sgR X (X.2.1 13 (4 * X.1 15 + i)) (W (X.2.1 13 (4 * X.1 15 + i))) ∧ ∀ k, k < 16 → W (X.2.1 13 (4 * X.1 15 + i)) k ≤ X.2.1 11 (X.1 15)) ∧
  (∀ i j, i < X.2.1 12 (X.1 15) → j < X.2.1 12 (X.1 15) → i ≠ j → ∀ k, k < 16 → 0 < W (X.2.1 13 (4 * X.1 15 + i)) k → 0 < W (X.2.1 13 (4 * X.1 15 + j)) k → cg (X.2.1 1) k (X.1 0) = W (X.2.1 13 (4 * X.1 15 + i)) k → cg (X.2.1 1) k (X.1 0) = W (X.2.1 13 (4 * X.1 15 + j)) k → False)
/-- the segments that were kept so far, of the first i -/
def lstK (X : xx_X) (W : Nat → Nat → Nat) (Y : xx_X) (i : Nat) : Prop := Y.2.1 12 (X.1 10) = cntN (keepB X W) i ∧ ∀ j, j < i → keepB X W j = true → Y.2.1 13 (4 * X.1 10 + cntN (keepB X W) j) = X.2.1 13 (4 * X.1 15 + j)
theorem lstK.put {X Y : xx_X} {W : Nat → Nat → Nat} {i v : Nat} (h : lstK X W Y i) (hb : keepB X W i = true) (hv : v = X.2.1 13 (4 * X.1 15 + i)) : lstK X W (xA (xA Y 13 (4 * X.1 10 + Y.2.1 12 (X.1 10)) v) 12 (X.1 10) (Y.2.1 12 (X.1 10) + 1)) (i + 1) := by
  refine ⟨by rw [xA_s, cntN_t hb, h.1], fun j hj hj2 => ?_⟩
  rw [xA_o (by decide), h.1]
  by_cases e : j = i
  · subst e; rw [xA_s, hv]
  · rw [xA_j (fun q => e (cnt_inj hj2 hb (by omega)))]; exact h.2 j (by omega) hj2
theorem lstK.skip {X Y : xx_X} {W : Nat → Nat → Nat} {i : Nat} (h : lstK X W Y i) (hb : keepB X W i = false) : lstK X W Y (i + 1) := by
  refine ⟨by rw [cntN_f hb, h.1]; rfl, fun j hj hj2 => ?_⟩
  by_cases e : j = i
  · subst e; rw [hb] at hj2; cases hj2
  · exact h.2 j (by omega) hj2
theorem xx_ok.bd {X : xx_X} (h : xx_ok X) : (∀ i, X.2.1 7 i ≤ 16) ∧ (∀ i, X.2.1 8 i ≤ 600) ∧ (∀ i, X.2.1 1 i < 16) := ⟨h.2.2.2.2.2.2.2.2.2.1, h.2.2.2.2.2.2.2.2.2.2.1, h.2.2.2.2.2.2.2.1⟩
theorem xx_bd.k7 {X : xx_X} (h : xx_bd X) (i : Nat) : X.2.1 1 i < 16 := Nat.lt_succ_of_le (h 1 i)
theorem xx_bd.k9 {X : xx_X} (h : xx_bd X) (i : Nat) : X.2.1 7 i ≤ 16 := h 7 i
theorem xx_bd.k10 {X : xx_X} (h : xx_bd X) (i : Nat) : X.2.1 8 i ≤ 600 := h 8 i
