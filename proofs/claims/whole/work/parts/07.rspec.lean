/-! what the reference's own methods answer, in numbers -/
theorem nI_one : nI 1 = 1 := rfl
theorem bI_f {b : Bool} (h : b = false) : nI 0 = bI b := by rw [h]; rfl
theorem bI_t {b : Bool} (h : b = true) : nI 1 = bI b := by rw [h]; rfl
def inb (v a b : Int32) : Bool := decide (a ≤ v) && decide (v ≤ b)
theorem inb_nI {v : Int32} {a b : Nat} (h : inb v (nI a) (nI b) = true) (ha : a < 2 ^ 31) (hb : b < 2 ^ 31) : ∃ j, a ≤ j ∧ j ≤ b ∧ v = nI j := by
  simp only [inb, Bool.and_eq_true, decide_eq_true_eq] at h
  have h0 : ¬ v < 0 := fun q => by
    have h1 : nI 0 ≤ nI a := nI_le (Nat.zero_le a) ha
    have h2 : (0 : Int32) ≤ v := Int32.le_trans h1 h.1
    exact absurd q (Int32.not_lt.mpr h2)
  obtain ⟨j, hj, rfl⟩ := nI_of h0
  exact ⟨j, (nI_leI ha hj).mp h.1, (nI_leI hj hb).mp h.2, rfl⟩
theorem inb_of {j a b : Nat} (hj : j < 2 ^ 31) (ha : a < 2 ^ 31) (hb : b < 2 ^ 31) : inb (nI j) (nI a) (nI b) = (decide (a ≤ j) && decide (j ≤ b)) := by
  simp only [inb]
  congr 1
  · exact decide_eq_decide.mpr (nI_leI ha hj)
  · exact decide_eq_decide.mpr (nI_leI hj hb)
def heldN (X : xx_X) (j : Nat) : Bool := decide (j = X.1 15) || decide (j = X.1 16) || decide (0 < X.2.1 14 j)
def heldB (X : xx_X) (v : Int32) : Bool := inb v (nI 0) (nI (X.1 10 - 1)) && heldN X v.toNatClampNeg
theorem heldB_true {X : xx_X} {v : Int32} (h : heldB X v = true) (h1 : 1 ≤ X.1 10) (h2 : X.1 10 ≤ 150) : ∃ j, j < X.1 10 ∧ v = nI j ∧ heldN X j = true := by
  simp only [heldB, Bool.and_eq_true] at h
  obtain ⟨j, -, hj, rfl⟩ := inb_nI h.1 (by omega) (by omega)
  refine ⟨j, by omega, rfl, ?_⟩
  have h3 := h.2
  rwa [nI_clamp (by omega)] at h3
theorem heldB_nI {X : xx_X} {j : Nat} (hj : j < 2 ^ 31) (h1 : 1 ≤ X.1 10) (h2 : X.1 10 ≤ 150) : heldB X (nI j) = (decide (j < X.1 10) && heldN X j) := by
  simp only [heldB]
  rw [inb_of hj (by omega) (by omega), nI_clamp hj]
  congr 1
  simp only [Nat.zero_le, decide_true, Bool.true_and]
  exact decide_eq_decide.mpr (by omega)
def cg (ck : Nat → Nat) (k : Nat) : Nat → Nat
  | 0 => 0
  | n + 1 => if ck (n + 1) = k then n + 1 else cg ck k n
theorem cg_s (ck : Nat → Nat) (k n : Nat) : cg ck k (n + 1) = if ck (n + 1) = k then n + 1 else cg ck k n := rfl
theorem cg_le (ck : Nat → Nat) (k : Nat) : ∀ n, cg ck k n ≤ n
  | 0 => Nat.le_refl 0
  | n + 1 => by
    unfold cg
    split
    · exact Nat.le_refl _
    · exact Nat.le_trans (cg_le ck k n) (Nat.le_succ n)
def wr (X : xx_X) (k n : Nat) : Nat := if 0 < cg (X.2.1 1) k n ∧ 0 < X.2.1 2 (cg (X.2.1 1) k n) then cg (X.2.1 1) k n else 0
theorem wr_le (X : xx_X) (k n : Nat) : wr X k n ≤ n := by
  unfold wr
  split
  · exact cg_le _ _ _
  · exact Nat.zero_le _
def hasB (X : xx_X) (v k : Nat) (q : Int32) : Bool := decide (0 < wr X k (X.2.1 11 v)) && decide (nI (X.2.1 2 (wr X k (X.2.1 11 v))) &&& q = q)
def lvN (X : xx_X) (s n : Nat) : Nat → Nat
  | 0 => 0
  | i + 1 => lvN X s n i + (if cg (X.2.1 1) (X.2.1 1 (X.2.1 8 (16 * s + i))) n = X.2.1 8 (16 * s + i) then 1 else 0)
theorem lvN_le (X : xx_X) (s n : Nat) : ∀ i, lvN X s n i ≤ i
  | 0 => Nat.le_refl 0
  | i + 1 => by
    have := lvN_le X s n i
    unfold lvN
    split <;> omega
def liveN (X : xx_X) (s n : Nat) : Nat := lvN X s n (X.2.1 7 s)
def bitsN (v : Int32) : Nat → Int32
  | 0 => 0
  | b + 1 => bitsN v b + ((v >>> (nI b &&& 31)) &&& 1)
def worthN (X : xx_X) (v k : Nat) (w : Int32) : Int32 := nI 1000 * bitsN (nI (X.2.1 2 (wr X k (X.2.1 11 v))) &&& w) 8 + nI (wr X k (X.2.1 11 v))
/-- the reference's own bounds -/
def xx_ok (X : xx_X) : Prop := X.1 0 ≤ 600 ∧ 1 ≤ X.1 10 ∧ X.1 10 ≤ 150 ∧ X.1 15 < X.1 10 ∧ X.1 16 < X.1 10 ∧ X.1 17 ≤ X.1 0 ∧ X.1 6 + 2 ≤ 2 * X.1 10 ∧ (∀ i, X.2.1 1 i < 16) ∧ (∀ i, X.2.1 2 i ≤ 255) ∧ (∀ i, X.2.1 7 i ≤ 16) ∧ (∀ i, X.2.1 8 i ≤ 600) ∧ (∀ i, X.2.1 11 i ≤ 600) ∧ (∀ i, X.2.1 12 i ≤ 3) ∧ (∀ i, X.2.1 13 i < 320)
def newsB (X : xx_X) : Bool := decide (X.2.1 11 (X.1 15) < X.1 0)
