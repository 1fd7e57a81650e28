/-! THE RELATION between the class's memory S and the reference's X; W: the rows of each segment -/
def picC (X : xx_X) (m k : Nat) : Nat := cg (X.2.1 1) k m
def picW (X : xx_X) (m k : Nat) : Nat := X.2.1 2 (cg (X.2.1 1) k m)
def viewV (S : mm_H) (X : xx_X) (ga : Nat → Nat) (nw sf v a : Nat) : Prop := mm_K S a = 3 ∧ mm_I S a 0 = nI v ∧ mm_I S a 3 = nI (X.2.1 14 v) ∧ ∃ st pr, mm_P S a 1 = some st ∧ mm_P S a 2 = some pr ∧ st ≠ nw ∧ st ≠ sf ∧ stA S st (X.2.1 11 v) (picC X (X.2.1 11 v)) (picW X (X.2.1 11 v)) ∧ mm_K S pr = 7 ∧ mm_L S pr = X.2.1 12 v ∧ ∀ i, i < X.2.1 12 v → mm_P S pr i = some (ga (X.2.1 13 (4 * v + i)))
def segV (S : mm_H) (W : Nat → Nat → Nat) (g s cn : Nat) : Prop := sgA S g s (cntN (nz (W s)) 16) (W s) ∧ ∃ lc, mm_I S g 3 = nI lc ∧ lc ≤ cn
/-- each row of ints belongs to one object alone -/
def UQ (S : mm_H) : Prop := (∀ a b i j c, (mm_K S a = 1 ∨ mm_K S a = 2) → (mm_K S b = 1 ∨ mm_K S b = 2) → mm_P S a i = some c → mm_P S b j = some c → mm_K S c = 6 → a = b ∧ i = j) ∧ ∀ a i c, (mm_K S a = 1 ∨ mm_K S a = 2) → mm_P S a i = some c → mm_K S c ≠ 0
/-- what holds of the reference alone -/
def xInv (X : xx_X) (W : Nat → Nat → Nat) : Prop := xx_ok X ∧ xx_bd X ∧ X.2.1 2 0 = 0 ∧ X.1 9 ≤ 32 * X.1 10 ∧ X.1 3 ≤ 16 ∧ X.2.1 11 (X.1 16) ≤ X.1 17 ∧
  (∀ v, v < X.1 10 → heldN X v = true → X.2.1 11 v ≤ X.1 0 ∧ (∀ i, i < X.2.1 12 v → X.2.1 13 (4 * v + i) < X.1 6 ∧ sgR X (X.2.1 13 (4 * v + i)) (W (X.2.1 13 (4 * v + i))) ∧ ∀ k, k < 16 → W (X.2.1 13 (4 * v + i)) k ≤ X.2.1 11 v) ∧
    (∀ i j, i < X.2.1 12 v → j < X.2.1 12 v → i ≠ j → X.2.1 13 (4 * v + i) ≠ X.2.1 13 (4 * v + j) ∧ ∀ k, k < 16 → 0 < W (X.2.1 13 (4 * v + i)) k → W (X.2.1 13 (4 * v + i)) k ≠ W (X.2.1 13 (4 * v + j)) k))
/-- the object itself -/
def objV (S : mm_H) (X : xx_X) (o nw sf vs cn : Nat) (va : Nat → Nat) : Prop := mm_K S o = 4 ∧ mm_P S o 0 = some nw ∧ mm_P S o 1 = some sf ∧ mm_P S o 2 = some vs ∧ mm_I S o 3 = nI (X.1 10) ∧ mm_P S o 4 = some (va (X.1 15)) ∧ mm_P S o 5 = some (va (X.1 16)) ∧ mm_I S o 6 = nI (X.1 6) ∧ mm_I S o 7 = nI (X.1 9) ∧ mm_I S o 8 = nI (X.1 3) ∧ mm_I S o 9 = X.2.2.1 ∧ mm_I S o 10 = X.2.2.2 ∧ mm_I S o 11 = nI cn
def Rel (S : mm_H) (X : xx_X) (W : Nat → Nat → Nat) (o nw sf vs cn : Nat) (va ga : Nat → Nat) : Prop := objV S X o nw sf vs cn va ∧ nw ≠ sf ∧ stA S nw (X.1 0) (picC X (X.1 0)) (picW X (X.1 0)) ∧ stA S sf (X.1 17) (picC X (X.1 17)) (picW X (X.1 17)) ∧ mm_K S vs = 8 ∧ mm_L S vs = 150 ∧ (∀ v, v < 150 → mm_P S vs v = bif decide (v < X.1 10) && heldN X v then some (va v) else none) ∧ (∀ v, v < X.1 10 → heldN X v = true → viewV S X ga nw sf v (va v)) ∧ (∀ v, v < X.1 10 → heldN X v = true → ∀ i, i < X.2.1 12 v → segV S W (ga (X.2.1 13 (4 * v + i))) (X.2.1 13 (4 * v + i)) cn) ∧ UQ S ∧ xInv X W
theorem picW_wr {X : xx_X} (h0 : X.2.1 2 0 = 0) (k n : Nat) : X.2.1 2 (wr X k n) = picW X n k := by
  unfold wr picW
  by_cases e : 0 < cg (X.2.1 1) k n ∧ 0 < X.2.1 2 (cg (X.2.1 1) k n)
  · rw [if_pos e]
  · rw [if_neg e, h0]
    by_cases e1 : 0 < cg (X.2.1 1) k n
    · have : ¬ 0 < X.2.1 2 (cg (X.2.1 1) k n) := fun h => e ⟨e1, h⟩
      omega
    · rw [show cg (X.2.1 1) k n = 0 by omega, h0]
theorem wr_pos {X : xx_X} (h0 : X.2.1 2 0 = 0) (k n : Nat) : 0 < wr X k n ↔ 0 < picW X n k := by
  rw [← picW_wr h0]
  unfold wr
  by_cases e : 0 < cg (X.2.1 1) k n ∧ 0 < X.2.1 2 (cg (X.2.1 1) k n)
  · rw [if_pos e]; exact ⟨fun _ => e.2, fun _ => e.1⟩
  · rw [if_neg e, h0]
theorem wr_wa {X : xx_X} (h0 : X.2.1 2 0 = 0) (k n : Nat) : wr X k n = waN (picC X n) (picW X n) k := by
  unfold waN
  by_cases e : 0 < picW X n k
  · rw [if_pos e]
    have h1 := (wr_pos h0 k n).mpr e
    unfold wr at h1 ⊢
    by_cases e2 : 0 < cg (X.2.1 1) k n ∧ 0 < X.2.1 2 (cg (X.2.1 1) k n)
    · rw [if_pos e2]; rfl
    · rw [if_neg e2] at h1; omega
  · rw [if_neg e]
    have h9 : ¬ 0 < wr X k n := fun h => e ((wr_pos h0 k n).mp h)
    omega
theorem hasB_fit {X : xx_X} (h0 : X.2.1 2 0 = 0) (v k : Nat) (q : Int32) : hasB X v k q = fitB (picW X (X.2.1 11 v)) q k := by
  unfold hasB fitB
  rw [picW_wr h0, decide_eq_decide.mpr (wr_pos h0 k (X.2.1 11 v))]
theorem nx_and (a b : Nat) : nI a &&& nI b = nI (a &&& b) := by
  apply Int32.toBitVec_inj.mp
  show BitVec.ofNat 32 a &&& BitVec.ofNat 32 b = BitVec.ofNat 32 (a &&& b)
  exact (BitVec.ofNat_and).symm
def pcN (m : Nat) : Nat := (bitsN (nI m) 8).toNatClampNeg
theorem pc_all : ∀ m, m < 256 → bcI (nI m) = nI (pcN m) ∧ bitsN (nI m) 8 = nI (pcN m) ∧ pcN m ≤ 8 := by decide +kernel
theorem rk_cmp {a b c d w : Nat} (ha : a ≤ 255) (hb : b ≤ 255) (hc : c ≤ 600) (hd : d ≤ 600) : (bcI (nI a &&& nI w) * nI 601 + nI c < bcI (nI b &&& nI w) * nI 601 + nI d) ↔ (nI 1000 * bitsN (nI a &&& nI w) 8 + nI c < nI 1000 * bitsN (nI b &&& nI w) 8 + nI d) := by
  have h1 : a &&& w < 256 := Nat.lt_of_le_of_lt Nat.and_le_left (by omega)
  have h2 : b &&& w < 256 := Nat.lt_of_le_of_lt Nat.and_le_left (by omega)
  obtain ⟨p1, p2, p3⟩ := pc_all _ h1
  obtain ⟨q1, q2, q3⟩ := pc_all _ h2
  rw [nx_and, nx_and, p1, p2, q1, q2, pk_mul, pk_mul, pk_mul, pk_mul, nI_add, nI_add, nI_add, nI_add, nI_ltI (by omega) (by omega), nI_ltI (by omega) (by omega)]
  omega
theorem rankN_eq (ch wd : Nat → Nat) (w : Int32) (k : Nat) : rankN ch wd w k = bcI (nI (wd k) &&& w) * nI 601 + nI (ch k) := rfl
theorem ahead_bef {X : xx_X} (h0 : X.2.1 2 0 = 0) (hb : ∀ i, X.2.1 2 i ≤ 255) (v : Nat) (hv : X.2.1 11 v ≤ 600) (q : Int32) (w k : Nat) (hk : hasB X v k q = true) : aheadN X v q (nI w) k = befN (picC X (X.2.1 11 v)) (picW X (X.2.1 11 v)) q (nI w) k := by
  unfold aheadN befN
  apply cntN_congr
  intro j _
  rw [hasB_fit h0]
  cases hj : fitB (picW X (X.2.1 11 v)) q j with
  | false => rw [Bool.false_and, Bool.false_and]
  | true =>
    rw [Bool.true_and, Bool.true_and]
    have live : ∀ i, fitB (picW X (X.2.1 11 v)) q i = true → wr X i (X.2.1 11 v) = picC X (X.2.1 11 v) i := fun i hi => by
      rw [wr_wa h0]
      unfold waN
      rw [if_pos (of_decide_eq_true (Bool.and_eq_true_iff.mp hi).1)]
    rw [hasB_fit h0] at hk
    have e1 : ∀ i, fitB (picW X (X.2.1 11 v)) q i = true → worthN X v i (nI w) = nI 1000 * bitsN (nI (picW X (X.2.1 11 v) i) &&& nI w) 8 + nI (picC X (X.2.1 11 v) i) := fun i hi => by
      unfold worthN
      rw [picW_wr h0, live i hi]
    rw [e1 k hk, e1 j hj]
    have hc : ∀ i, picC X (X.2.1 11 v) i ≤ 600 := fun i => Nat.le_trans (cg_le _ _ _) hv
    have hw : ∀ i, picW X (X.2.1 11 v) i ≤ 255 := fun i => hb _
    rw [rankN_eq, rankN_eq]
    exact decide_eq_decide.mpr (rk_cmp (hw k) (hw j) (hc k) (hc j)).symm
