/-! what the reference's own methods answer, in numbers -/
theorem nI_one : nI 1 = 1 := rfl
theorem bI_f {b : Bool} (h : b = false) : nI 0 = bI b := by rw [h]; rfl
theorem bI_t {b : Bool} (h : b = true) : nI 1 = bI b := by rw [h]; rfl
def inb (v a b : Int32) : Bool := decide (a ≤ v) && decide (v ≤ b)
theorem inb_nI {v : Int32} {a b : Nat} (h : inb v (nI a) (nI b) = true) (ha : a < 2 ^ 31) (hb : b < 2 ^ 31) : ∃ j, a ≤ j ∧ j ≤ b ∧ v = nI j := by
  simp only [inb, Bool.and_eq_true, decide_eq_true_eq] at h
  have h0 : ¬ v < 0 := fun q => by
    have h1 : nI 0 ≤ nI a := nI_le (Nat.zero_le a) ha
    have h2 : (0 : Int32) ≤ v := Int32.le_trans h1 h.1
    exact absurd q (Int32.not_lt.mpr h2)
  obtain ⟨j, hj, rfl⟩ := nI_of h0
  exact ⟨j, (nI_leI ha hj).mp h.1, (nI_leI hj hb).mp h.2, rfl⟩
theorem inb_of {j a b : Nat} (hj : j < 2 ^ 31) (ha : a < 2 ^ 31) (hb : b < 2 ^ 31) : inb (nI j) (nI a) (nI b) = (decide (a ≤ j) && decide (j ≤ b)) := by
  simp only [inb]
  congr 1
  · exact decide_eq_decide.mpr (nI_leI ha hj)
  · exact decide_eq_decide.mpr (nI_leI hj hb)
def heldN (X : xx_X) (j : Nat) : Bool := decide (j = X.1 15) || decide (j = X.1 16) || decide (0 < X.2.1 14 j)
def heldB (X : xx_X) (v : Int32) : Bool := inb v (nI 0) (nI (X.1 10 - 1)) && heldN X v.toNatClampNeg
theorem heldB_true {X : xx_X} {v : Int32} (h : heldB X v = true) (h1 : 1 ≤ X.1 10) (h2 : X.1 10 ≤ 150) : ∃ j, j < X.1 10 ∧ v = nI j ∧ heldN X j = true := by
  simp only [heldB, Bool.and_eq_true] at h
  obtain ⟨j, -, hj, rfl⟩ := inb_nI h.1 (by omega) (by omega)
  refine ⟨j, by omega, rfl, ?_⟩
  have h3 := h.2
  rwa [nI_clamp (by omega)] at h3
theorem heldB_nI {X : xx_X} {j : Nat} (hj : j < 2 ^ 31) (h1 : 1 ≤ X.1 10) (h2 : X.1 10 ≤ 150) : heldB X (nI j) = (decide (j < X.1 10) && heldN X j) := by
  simp only [heldB]
  rw [inb_of hj (by omega) (by omega), nI_clamp hj]
  congr 1
  simp only [Nat.zero_le, decide_true, Bool.true_and]
  exact decide_eq_decide.mpr (by omega)
def cg (ck : Nat → Nat) (k : Nat) : Nat → Nat
  | 0 => 0
  | n + 1 => if ck (n + 1) = k then n + 1 else cg ck k n
theorem cg_s (ck : Nat → Nat) (k n : Nat) : cg ck k (n + 1) = if ck (n + 1) = k then n + 1 else cg ck k n := rfl
theorem cg_le (ck : Nat → Nat) (k : Nat) : ∀ n, cg ck k n ≤ n
  | 0 => Nat.le_refl 0
  | n + 1 => by
    unfold cg
    split
    · exact Nat.le_refl _
    · exact Nat.le_trans (cg_le ck k n) (Nat.le_succ n)
def wr (X : xx_X) (k n : Nat) : Nat := if 0 < cg (X.2.1 1) k n ∧ 0 < X.2.1 2 (cg (X.2.1 1) k n) then cg (X.2.1 1) k n else 0
theorem wr_le (X : xx_X) (k n : Nat) : wr X k n ≤ n := by
  unfold wr
  split
  · exact cg_le _ _ _
  · exact Nat.zero_le _
def hasB (X : xx_X) (v k : Nat) (q : Int32) : Bool := decide (0 < wr X k (X.2.1 11 v)) && decide (nI (X.2.1 2 (wr X k (X.2.1 11 v))) &&& q = q)
def lvB (X : xx_X) (s n i : Nat) : Bool := decide (cg (X.2.1 1) (X.2.1 1 (X.2.1 8 (16 * s + i))) n = X.2.1 8 (16 * s + i))
def bitsN (v : Int32) : Nat → Int32
  | 0 => 0
  | b + 1 => bitsN v b + ((v >>> (nI b &&& 31)) &&& 1)
def worthN (X : xx_X) (v k : Nat) (w : Int32) : Int32 := nI 1000 * bitsN (nI (X.2.1 2 (wr X k (X.2.1 11 v))) &&& w) 8 + nI (wr X k (X.2.1 11 v))
/-- the reference's own bounds -/
def xx_ok (X : xx_X) : Prop := X.1 0 ≤ 600 ∧ 1 ≤ X.1 10 ∧ X.1 10 ≤ 150 ∧ X.1 15 < X.1 10 ∧ X.1 16 < X.1 10 ∧ X.1 17 ≤ X.1 0 ∧ X.1 6 + 2 ≤ 2 * X.1 10 ∧ (∀ i, X.2.1 1 i < 16) ∧ (∀ i, X.2.1 2 i ≤ 255) ∧ (∀ i, X.2.1 7 i ≤ 16) ∧ (∀ i, X.2.1 8 i ≤ 600) ∧ (∀ i, X.2.1 11 i ≤ 600) ∧ (∀ i, X.2.1 12 i ≤ 3) ∧ (∀ i, X.2.1 13 i < 320)
def newsB (X : xx_X) : Bool := decide (X.2.1 11 (X.1 15) < X.1 0)
theorem sw_cases {n : Nat} (v : Int32) (hn : n < 2 ^ 31) : (v.toInt < 0 ∨ ((n : Int) - 1) < v.toInt) ∨ ∃ j, j < n ∧ v.toInt = (j : Int) := by
  by_cases h1 : v.toInt < 0
  · exact Or.inl (Or.inl h1)
  · by_cases h2 : ((n : Int) - 1) < v.toInt
    · exact Or.inl (Or.inr h2)
    · exact Or.inr ⟨v.toInt.toNat, by omega, by omega⟩
theorem toInt_nI {v : Int32} {j : Nat} (h : v.toInt = (j : Int)) (hj : j < 2 ^ 31) : v = nI j := Int32.toInt_inj.mp (by rw [h, nI_toInt hj])
def cntN (f : Nat → Bool) : Nat → Nat
  | 0 => 0
  | n + 1 => cntN f n + (bif f n then 1 else 0)
theorem cntN_s (f : Nat → Bool) (n : Nat) : cntN f (n + 1) = cntN f n + (bif f n then 1 else 0) := rfl
theorem cntN_t {f : Nat → Bool} {n : Nat} (h : f n = true) : cntN f (n + 1) = cntN f n + 1 := by rw [cntN_s, h]; rfl
theorem cntN_f {f : Nat → Bool} {n : Nat} (h : f n = false) : cntN f (n + 1) = cntN f n + 0 := by rw [cntN_s, h]; rfl
theorem cntN_le (f : Nat → Bool) : ∀ n, cntN f n ≤ n
  | 0 => Nat.le_refl 0
  | n + 1 => by
    have := cntN_le f n
    unfold cntN
    cases f n <;> simp <;> omega
theorem cntN_congr {f g : Nat → Bool} : ∀ {n : Nat}, (∀ i, i < n → f i = g i) → cntN f n = cntN g n
  | 0, _ => rfl
  | n + 1, h => by
    unfold cntN
    rw [cntN_congr (fun i hi => h i (by omega)), h n (by omega)]
def anyN (f : Nat → Bool) : Nat → Bool
  | 0 => false
  | n + 1 => anyN f n || f n
theorem anyN_true {f : Nat → Bool} : ∀ {n i : Nat}, i < n → f i = true → anyN f n = true
  | n + 1, i, h, hf => by
    unfold anyN
    by_cases e : i = n
    · subst e; simp [hf]
    · simp [anyN_true (show i < n by omega) hf]
theorem anyN_iff {f : Nat → Bool} : ∀ {n : Nat}, anyN f n = true ↔ ∃ i, i < n ∧ f i = true
  | 0 => by simp [anyN]
  | n + 1 => by
    unfold anyN
    rw [Bool.or_eq_true, anyN_iff]
    constructor
    · rintro (⟨i, h1, h2⟩ | h)
      · exact ⟨i, by omega, h2⟩
      · exact ⟨n, by omega, h⟩
    · rintro ⟨i, h1, h2⟩
      by_cases e : i = n
      · subst e; exact Or.inr h2
      · exact Or.inl ⟨i, by omega, h2⟩
def firstN (f : Nat → Bool) : Nat → Nat → Int32
  | _, 0 => -1
  | k, m + 1 => bif f k then nI k else firstN f (k + 1) m
theorem firstN_s (f : Nat → Bool) (k m : Nat) : firstN f k (m + 1) = bif f k then nI k else firstN f (k + 1) m := rfl
theorem firstN_t {f : Nat → Bool} {k m : Nat} (h : f k = true) : firstN f k (m + 1) = nI k := by rw [firstN_s, h]; rfl
theorem firstN_f {f : Nat → Bool} {k m : Nat} (h : f k = false) : firstN f k (m + 1) = firstN f (k + 1) m := by rw [firstN_s, h]; rfl
def liveN (X : xx_X) (s n : Nat) : Nat := cntN (lvB X s n) (X.2.1 7 s)
def aheadN (X : xx_X) (v : Nat) (q w : Int32) (k : Nat) : Nat := cntN (fun j => hasB X v j q && decide (worthN X v k w < worthN X v j w)) 16
def thereB (X : xx_X) (s : Nat) : Bool := anyN (fun v => heldN X v && anyN (fun i => decide (X.2.1 13 (4 * v + i) = s)) (X.2.1 12 v)) (X.1 10)
/-! what each call answers, and the reference's memory behind it -/
def sp_told3 (X : xx_X) (k w : Nat) (e : Int32) : Int32 × xx_X :=
  if ¬ e = -1 ∧ ¬ e = nI (wr X k (X.1 0)) then (-4, xW (xE X e) (nI (wr X k (X.1 0))))
  else if X.1 0 = 600 then (-5, X)
  else (nI (X.1 0 + 1), xA (xA (xI X 0 (X.1 0 + 1)) 1 (X.1 0 + 1) k) 2 (X.1 0 + 1) w)
def sp_write (X : xx_X) (key words e : Int32) : Int32 × xx_X :=
  if inb key (nI 0) (nI 15) = true ∧ inb words (nI 1) (nI 255) = true ∧ -1 ≤ e then sp_told3 X key.toNatClampNeg words.toNatClampNeg e else (-3, X)
def sp_remove (X : xx_X) (key e : Int32) : Int32 × xx_X :=
  if inb key (nI 0) (nI 15) = true ∧ -1 ≤ e then sp_told3 X key.toNatClampNeg 0 e else (-3, X)
def sp_conflict (X : xx_X) (a : Int32) : Int32 := if a = 0 then nI (X.1 3) else if a = nI 1 then X.2.2.1 else if a = nI 2 then X.2.2.2 else -3
def sp_sync (X : xx_X) : Int32 × xx_X := (nI (X.1 0 - X.1 17), xI X 17 (X.1 0))
def sp_open (X : xx_X) (v : Int32) : Int32 × xx_X :=
  if heldB X v = true then (nI (X.2.1 14 v.toNatClampNeg + 1), xA X 14 v.toNatClampNeg (X.2.1 14 v.toNatClampNeg + 1)) else (-2, X)
def sp_close (X : xx_X) (v : Int32) : Int32 × xx_X :=
  if heldB X v = true then (if X.2.1 14 v.toNatClampNeg = 0 then (-3, X) else (nI (X.2.1 14 v.toNatClampNeg - 1), xA X 14 v.toNatClampNeg (X.2.1 14 v.toNatClampNeg - 1))) else (-2, X)
def sp_get (X : xx_X) (key : Int32) : Int32 := if inb key (nI 0) (nI 15) = true then nI (X.2.1 2 (wr X key.toNatClampNeg (X.1 0))) else -3
def sp_number (X : xx_X) (key : Int32) : Int32 := if inb key (nI 0) (nI 15) = true then nI (cg (X.2.1 1) key.toNatClampNeg (X.1 0)) else -3
def sp_at (X : xx_X) (v key : Int32) : Int32 := if heldB X v = true then (if inb key (nI 0) (nI 15) = true then nI (X.2.1 2 (wr X key.toNatClampNeg (X.2.1 11 v.toNatClampNeg))) else -3) else -2
def sp_find (X : xx_X) (v q : Int32) : Int32 := if heldB X v = true then (if inb q (nI 0) (nI 255) = true then nI (cntN (fun k => hasB X v.toNatClampNeg k q) 16) else -3) else -2
def sp_match (X : xx_X) (v q w i : Int32) : Int32 := if heldB X v = true then (if inb q (nI 0) (nI 255) = true ∧ inb w (nI 0) (nI 255) = true then firstN (fun k => hasB X v.toNatClampNeg k q && decide (nI (aheadN X v.toNatClampNeg q w k) = i)) 0 16 else -3) else -2
def sp_segments (X : xx_X) (v : Int32) : Int32 := if heldB X v = true then nI (X.2.1 12 v.toNatClampNeg) else -2
theorem ge_nI {v : Int32} {a : Nat} (h : ¬ v < nI a) (ha : a < 2 ^ 31) : ∃ j, a ≤ j ∧ j < 2 ^ 31 ∧ v = nI j := by
  have h0 : ¬ v < 0 := fun q => by
    have h1 : nI 0 ≤ nI a := nI_le (Nat.zero_le a) ha
    have h2 : (0 : Int32) ≤ v := Int32.le_trans h1 (Int32.not_lt.mp h)
    exact absurd q (Int32.not_lt.mpr h2)
  obtain ⟨j, hj, rfl⟩ := nI_of h0
  exact ⟨j, (nI_leI ha hj).mp (Int32.not_lt.mp h), hj, rfl⟩
theorem inb_m1 {v : Int32} {m : Nat} (h : inb v (nI 0) (nI m - nI 1) = true) (hm : m < 2 ^ 30) : ∃ j, j < m ∧ v = nI j := by
  cases m with
  | zero =>
    exfalso
    simp only [inb, Bool.and_eq_true, decide_eq_true_eq] at h
    have h1 : nI 0 ≤ nI 0 - nI 1 := Int32.le_trans h.1 h.2
    exact absurd h1 (by decide)
  | succ m =>
    rw [pk_sub (by omega)] at h
    obtain ⟨j, -, hj, rfl⟩ := inb_nI h (by omega) (by omega)
    exact ⟨j, by omega, rfl⟩
def sg_ans (X : xx_X) (j s : Nat) (a : Int32) : Int32 := if a = 0 then nI s else if a = nI 1 then nI (X.2.1 7 s) else if a = nI 2 then nI (liveN X s (X.2.1 11 j)) else if ¬ a < nI 10 ∧ a.toNatClampNeg - 10 < X.2.1 7 s then nI (X.2.1 1 (X.2.1 8 (16 * s + a.toNatClampNeg - 10))) else -3
def sp_segment (X : xx_X) (v i a : Int32) : Int32 := if heldB X v = true then (if inb i (nI 0) (nI (X.2.1 12 v.toNatClampNeg) - nI 1) = true then sg_ans X v.toNatClampNeg (X.2.1 13 (4 * v.toNatClampNeg + i.toNatClampNeg)) a else -3) else -2
def sp_told (X : xx_X) (a : Int32) : Int32 := if a.toInt = 0 then nI (X.1 15) else if a.toInt = 1 then nI (X.1 16) else if a.toInt = 2 then nI (X.1 17) else if a.toInt = 3 then nI (X.1 0) else if a.toInt = 4 then nI (X.1 9) else if a.toInt = 5 then nI (cntN (thereB X) (X.1 6)) else if a.toInt = 6 then nI (X.1 6) else if a.toInt = 7 then nI (cntN (heldN X) (X.1 10)) else -3
