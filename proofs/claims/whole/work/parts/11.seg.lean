/-! segments: the rows of a segment, as a number for each key (0: no row) -/
theorem cnt_mono {f : Nat → Bool} : ∀ {a b : Nat}, a ≤ b → cntN f a ≤ cntN f b
  | a, 0, h => by rw [show a = 0 by omega]; exact Nat.le_refl _
  | a, b + 1, h => by
    by_cases e : a = b + 1
    · rw [e]; exact Nat.le_refl _
    · have := cnt_mono (f := f) (show a ≤ b by omega)
      rw [cntN_s]
      omega
theorem cnt_lt {f : Nat → Bool} {a b : Nat} (h : a < b) (hf : f a = true) : cntN f a < cntN f b := by
  have h1 : cntN f (a + 1) = cntN f a + 1 := cntN_t hf
  have h2 : cntN f (a + 1) ≤ cntN f b := cnt_mono h
  omega
theorem cnt_inj {f : Nat → Bool} {a b : Nat} (ha : f a = true) (hb : f b = true) (h : cntN f a = cntN f b) : a = b := by
  rcases Nat.lt_trichotomy a b with q | q | q
  · have := cnt_lt q ha; omega
  · exact q
  · have := cnt_lt q hb; omega
theorem cnt_surj {f : Nat → Bool} : ∀ {N i : Nat}, i < cntN f N → ∃ k, k < N ∧ f k = true ∧ cntN f k = i
  | 0, i, h => absurd h (Nat.not_lt_zero i)
  | N + 1, i, h => by
    by_cases q : i < cntN f N
    · obtain ⟨k, h1, h2, h3⟩ := cnt_surj q
      exact ⟨k, by omega, h2, h3⟩
    · cases hf : f N with
      | true =>
        rw [cntN_t hf] at h
        exact ⟨N, by omega, hf, by omega⟩
      | false =>
        rw [cntN_f hf] at h
        omega
def nz (w : Nat → Nat) (k : Nat) : Bool := decide (0 < w k)
theorem nz_t {w : Nat → Nat} {k : Nat} : nz w k = true ↔ 0 < w k := by simp [nz]
theorem nz_f {w : Nat → Nat} {k : Nat} : nz w k = false ↔ w k = 0 := by simp [nz]
def sgR (X : xx_X) (s : Nat) (w : Nat → Nat) : Prop := X.2.1 7 s = cntN (nz w) 16 ∧ ∀ k, k < 16 → 0 < w k → X.2.1 8 (16 * s + cntN (nz w) k) = w k ∧ X.2.1 1 (w k) = k
/-- how many rows are live as of n -/
def lvW (ck w : Nat → Nat) (n : Nat) : Nat := cntN (fun k => nz w k && decide (cg ck k n = w k)) 16
theorem lvW_of {X : xx_X} {s n : Nat} {w : Nat → Nat} (h : sgR X s w) : liveN X s n = lvW (X.2.1 1) w n := by
  have key : ∀ K, K ≤ 16 → cntN (lvB X s n) (cntN (nz w) K) = cntN (fun k => nz w k && decide (cg (X.2.1 1) k n = w k)) K := by
    intro K
    induction K with
    | zero => intro _; rfl
    | succ K ih =>
      intro hK
      have ih := ih (by omega)
      cases hz : nz w K with
      | false =>
        rw [cntN_f hz, cntN_f (f := fun k => nz w k && decide (cg (X.2.1 1) k n = w k)) (by simp [hz])]
        exact ih
      | true =>
        obtain ⟨h1, h2⟩ := h.2 K (by omega) (nz_t.mp hz)
        rw [cntN_t hz, cntN_s, cntN_s, ih]
        simp only [lvB, h1, h2, hz, Bool.true_and]
  unfold liveN lvW
  rw [h.1]
  exact key 16 (Nat.le_refl _)
theorem lvW_le (ck w : Nat → Nat) (n : Nat) : lvW ck w n ≤ 16 := cntN_le _ 16
def bdF : Nat → Nat
  | 1 => 15
  | 2 => 255
  | 7 => 16
  | 8 => 600
  | 11 => 600
  | 12 => 4
  | 13 => 319
  | _ => 2147483647
def xx_bd (X : xx_X) : Prop := ∀ f i, X.2.1 f i ≤ bdF f
theorem xx_bd.set {X : xx_X} (h : xx_bd X) {f i v : Nat} (hv : v ≤ bdF f) : xx_bd (xA X f i v) := fun g j => by
  show (if g = f ∧ j = i then v else X.2.1 g j) ≤ bdF g
  by_cases e : g = f ∧ j = i
  · rw [if_pos e, e.1]; exact hv
  · rw [if_neg e]; exact h g j
theorem xx_bd.setI {X : xx_X} (h : xx_bd X) {f v : Nat} : xx_bd (xI X f v) := h
/-- what a merge has put so far: the keys below K -/
def rkO (Y : xx_X) (s : Nat) (mw : Nat → Nat) (K : Nat) : Prop := Y.2.1 7 s = cntN (nz mw) K ∧ ∀ k, k < K → 0 < mw k → Y.2.1 8 (16 * s + cntN (nz mw) k) = mw k
def mF (X Y : xx_X) (s : Nat) : Prop := Y.1 = X.1 ∧ (∀ f, f ≠ 7 → f ≠ 8 → Y.2.1 f = X.2.1 f) ∧ (∀ t, t ≠ s → Y.2.1 7 t = X.2.1 7 t) ∧ (∀ i, i < 16 * s → Y.2.1 8 i = X.2.1 8 i) ∧ Y.2.2 = X.2.2 ∧ (xx_bd X → xx_bd Y)
theorem mF.refl (X : xx_X) (s : Nat) : mF X X s := ⟨rfl, fun _ _ _ => rfl, fun _ _ => rfl, fun _ _ => rfl, rfl, fun h => h⟩
theorem mF.put {X Y : xx_X} {s b v c : Nat} (h : mF X Y s) (hv : v ≤ 600) (hc : c ≤ 16) : mF X (xA (xA Y 8 (16 * s + b) v) 7 s c) s := by
  obtain ⟨h1, h2, h3, h4, h5, h6⟩ := h
  refine ⟨h1, fun f f7 f8 => ?_, fun t ht => ?_, fun i hi => ?_, h5, fun hb => ((h6 hb).set hv).set hc⟩
  · funext j
    show (if f = 7 ∧ j = s then c else if f = 8 ∧ j = 16 * s + b then v else Y.2.1 f j) = _
    rw [if_neg (fun q => f7 q.1), if_neg (fun q => f8 q.1), h2 f f7 f8]
  · show (if 7 = 7 ∧ t = s then c else if 7 = 8 ∧ t = 16 * s + b then v else Y.2.1 7 t) = _
    rw [if_neg (fun q => ht q.2), if_neg (fun q => by omega), h3 t ht]
  · show (if 8 = 7 ∧ i = s then c else if 8 = 8 ∧ i = 16 * s + b then v else Y.2.1 8 i) = _
    rw [if_neg (fun q => by omega), if_neg (fun q => by omega), h4 i hi]
theorem rkO.put {Y : xx_X} {s K v : Nat} {mw : Nat → Nat} (h : rkO Y s mw K) (hv : mw K = v) (h0 : 0 < v) : rkO (xA (xA Y 8 (16 * s + Y.2.1 7 s) v) 7 s (Y.2.1 7 s + 1)) s mw (K + 1) := by
  have hz : nz mw K = true := nz_t.mpr (by omega)
  refine ⟨?_, fun k hk hm => ?_⟩
  · show (if 7 = 7 ∧ s = s then Y.2.1 7 s + 1 else _) = _
    rw [if_pos ⟨rfl, rfl⟩, cntN_t hz, h.1]
  · show (if 8 = 7 ∧ 16 * s + cntN (nz mw) k = s then Y.2.1 7 s + 1 else if 8 = 8 ∧ 16 * s + cntN (nz mw) k = 16 * s + Y.2.1 7 s then v else Y.2.1 8 (16 * s + cntN (nz mw) k)) = mw k
    rw [if_neg (fun q => by omega), h.1]
    by_cases e : k = K
    · subst e
      rw [if_pos ⟨rfl, rfl⟩, hv]
    · rw [if_neg (fun q => e (cnt_inj (nz_t.mpr hm) hz (by omega)))]
      exact h.2 k (by omega) hm
theorem rkO.skip {Y : xx_X} {s K : Nat} {mw : Nat → Nat} (h : rkO Y s mw K) (hv : mw K = 0) : rkO Y s mw (K + 1) := by
  refine ⟨by rw [cntN_f (nz_f.mpr hv), h.1]; rfl, fun k hk hm => ?_⟩
  by_cases e : k = K
  · subst e; omega
  · exact h.2 k (by omega) hm
theorem sgR.keep {X Y : xx_X} {s t : Nat} {w : Nat → Nat} (h : sgR X t w) (hF : mF X Y s) (ht : t < s) : sgR Y t w := by
  obtain ⟨h1, h2, h3, h4, h5, h6⟩ := hF
  refine ⟨by rw [h3 t (by omega)]; exact h.1, fun k hk hw => ?_⟩
  have hc := cnt_lt hk (nz_t.mpr hw)
  have h16 := cntN_le (nz w) 16
  rw [h4 _ (by omega), h2 1 (by decide) (by decide)]
  exact h.2 k hk hw
theorem cg_key (ck : Nat → Nat) (k : Nat) : ∀ n, 0 < cg ck k n → ck (cg ck k n) = k
  | 0, h => absurd h (Nat.lt_irrefl 0)
  | n + 1, h => by
    rw [cg_s] at h ⊢
    by_cases e : ck (n + 1) = k
    · rw [if_pos e]; exact e
    · rw [if_neg e] at h ⊢; exact cg_key ck k n h
/-- the rows of a merge -/
def mwW (ck : Nat → Nat) (n : Nat) (w1 w2 : Nat → Nat) (k : Nat) : Nat := bif (nz w1 k && decide (cg ck k n = w1 k)) || (nz w2 k && decide (cg ck k n = w2 k)) then cg ck k n else 0
theorem mwW_pos {ck : Nat → Nat} {n : Nat} {w1 w2 : Nat → Nat} {k : Nat} (h : 0 < mwW ck n w1 w2 k) : mwW ck n w1 w2 k = cg ck k n ∧ 0 < cg ck k n := by
  unfold mwW at h ⊢
  cases hb : ((nz w1 k && decide (cg ck k n = w1 k)) || (nz w2 k && decide (cg ck k n = w2 k))) with
  | true => rw [hb] at h; exact ⟨rfl, h⟩
  | false => rw [hb] at h; exact absurd h (Nat.lt_irrefl 0)
def mgR (X X' : xx_X) (mw : Nat → Nat) : Prop := (∀ f, f ≠ 6 → f ≠ 9 → X'.1 f = X.1 f) ∧ X'.1 6 = X.1 6 + 1 ∧ X'.1 9 = X.1 9 + cntN (nz mw) 16 ∧ (∀ f, f ≠ 7 → f ≠ 8 → X'.2.1 f = X.2.1 f) ∧ (∀ t, t ≠ X.1 6 → X'.2.1 7 t = X.2.1 7 t) ∧ (∀ i, i < 16 * X.1 6 → X'.2.1 8 i = X.2.1 8 i) ∧ X'.2.2 = X.2.2 ∧ sgR X' (X.1 6) mw ∧ (xx_bd X → xx_bd X')
