/-! THE REFERENCE'S OWN MEMORY: X = (its counts, by field; its rows, by field and place; what was expected, what it was) -/
abbrev xx_X : Type := (Nat → Nat) × (Nat → Nat → Nat) × Int32 × Int32
def xx_len : Nat → Nat
  | 1 => 601
  | 2 => 601
  | 7 => 320
  | 8 => 5120
  | 11 => 150
  | 12 => 150
  | 13 => 600
  | 14 => 150
  | _ => 0
def xx_if (f : Nat) : Bool := f == 0 || f == 3 || f == 6 || f == 9 || f == 10 || f == 15 || f == 16 || f == 17
def xx_af (f : Nat) : Bool := f == 1 || f == 2 || f == 7 || f == 8 || f == 11 || f == 12 || f == 13 || f == 14
def xI (X : xx_X) (f v : Nat) : xx_X := (fun g => if g = f then v else X.1 g, X.2.1, X.2.2.1, X.2.2.2)
def xA (X : xx_X) (f i v : Nat) : xx_X := (X.1, fun g j => if g = f ∧ j = i then v else X.2.1 g j, X.2.2.1, X.2.2.2)
def xE (X : xx_X) (v : Int32) : xx_X := (X.1, X.2.1, v, X.2.2.2)
def xW (X : xx_X) (v : Int32) : xx_X := (X.1, X.2.1, X.2.2.1, v)
def xx_B (X : xx_X) : Prop := (∀ f, X.1 f < 2 ^ 31) ∧ ∀ f i, X.2.1 f i < 2 ^ 31
def xx_R (S : mm_H) (r : Nat) (ad : Nat → Nat) (X : xx_X) : Prop :=
  mm_K S r = 5 ∧ (∀ f, xx_if f = true → mm_I S r f = nI (X.1 f)) ∧ mm_I S r 4 = X.2.2.1 ∧ mm_I S r 5 = X.2.2.2 ∧ (∀ f, xx_af f = true → mm_P S r f = some (ad f) ∧ mm_K S (ad f) = 6 ∧ mm_L S (ad f) = xx_len f ∧ ∀ i, i < xx_len f → mm_I S (ad f) i = nI (X.2.1 f i)) ∧ (∀ f g, xx_af f = true → xx_af g = true → ad f = ad g → f = g) ∧ xx_B X
theorem xx_R.lt {S : mm_H} {r : Nat} {ad : Nat → Nat} {X : xx_X} (h : xx_R S r ad X) (f i : Nat) : X.2.1 f i < 2 ^ 31 := h.2.2.2.2.2.2.2 f i
theorem xx_R.li {S : mm_H} {r : Nat} {ad : Nat → Nat} {X : xx_X} (h : xx_R S r ad X) (f : Nat) : X.1 f < 2 ^ 31 := h.2.2.2.2.2.2.1 f
theorem xx_R.ne {S : mm_H} {r : Nat} {ad : Nat → Nat} {X : xx_X} (h : xx_R S r ad X) {f : Nat} (hf : xx_af f = true) : ad f ≠ r := fun e => by
  have h1 := (h.2.2.2.2.1 f hf).2.1
  rw [e, h.1] at h1
  omega
theorem xx_if4 {f : Nat} (hf : xx_if f = true) : f ≠ 4 ∧ f ≠ 5 := ⟨fun e => by subst e; exact absurd hf (by decide), fun e => by subst e; exact absurd hf (by decide)⟩
theorem xx_R.setI {S : mm_H} {r : Nat} {ad : Nat → Nat} {X : xx_X} (h : xx_R S r ad X) {f v : Nat} (hf : xx_if f = true) (hv : v < 2 ^ 31) : xx_R (mm_sI S r f (nI v)) r ad (xI X f v) := by
  obtain ⟨h1, h2, h3, h4, h5, h6, h7⟩ := id h
  have h45 := xx_if4 hf
  refine ⟨h1, fun g hg => ?_, ?_, ?_, fun g hg => ?_, h6, fun g => ?_, h7.2⟩
  · rw [mm_I_sI]
    by_cases e : g = f
    · subst e; simp [xI]
    · simp only [xI, e, and_false, if_false]; exact h2 g hg
  · rw [mm_I_sI, if_neg (fun e => h45.1 e.2.symm)]; exact h3
  · rw [mm_I_sI, if_neg (fun e => h45.2 e.2.symm)]; exact h4
  · refine ⟨(h5 g hg).1, (h5 g hg).2.1, (h5 g hg).2.2.1, fun i hi => ?_⟩
    rw [mm_I_sI, if_neg (fun e => h.ne hg e.1)]
    exact (h5 g hg).2.2.2 i hi
  · show (if g = f then v else X.1 g) < 2 ^ 31
    by_cases e : g = f
    · rw [if_pos e]; exact hv
    · rw [if_neg e]; exact h7.1 g
theorem xx_R.setA {S : mm_H} {r : Nat} {ad : Nat → Nat} {X : xx_X} (h : xx_R S r ad X) {f i v : Nat} (hf : xx_af f = true) (hv : v < 2 ^ 31) : xx_R (mm_sI S (ad f) i (nI v)) r ad (xA X f i v) := by
  obtain ⟨h1, h2, h3, h4, h5, h6, h7⟩ := id h
  refine ⟨h1, fun g hg => ?_, ?_, ?_, fun g hg => ?_, h6, h7.1, fun g j => ?_⟩
  · rw [mm_I_sI, if_neg (fun e => h.ne hf e.1.symm)]; exact h2 g hg
  · rw [mm_I_sI, if_neg (fun e => h.ne hf e.1.symm)]; exact h3
  · rw [mm_I_sI, if_neg (fun e => h.ne hf e.1.symm)]; exact h4
  · refine ⟨(h5 g hg).1, (h5 g hg).2.1, (h5 g hg).2.2.1, fun j hj => ?_⟩
    show _ = nI (if g = f ∧ j = i then v else X.2.1 g j)
    rw [mm_I_sI]
    by_cases e : g = f ∧ j = i
    · rw [if_pos e, if_pos ⟨by rw [e.1], e.2⟩]
    · rw [if_neg e, if_neg (fun q => e ⟨h6 g f hg hf q.1, q.2⟩)]
      exact (h5 g hg).2.2.2 j hj
  · show (if g = f ∧ j = i then v else X.2.1 g j) < 2 ^ 31
    by_cases e : g = f ∧ j = i
    · rw [if_pos e]; exact hv
    · rw [if_neg e]; exact h7.2 g j
theorem xx_R.setE {S : mm_H} {r : Nat} {ad : Nat → Nat} {X : xx_X} (h : xx_R S r ad X) (v : Int32) : xx_R (mm_sI S r 4 v) r ad (xE X v) := by
  obtain ⟨h1, h2, h3, h4, h5, h6, h7⟩ := id h
  refine ⟨h1, fun g hg => ?_, ?_, ?_, fun g hg => ?_, h6, h7⟩
  · rw [mm_I_sI, if_neg (fun e => (xx_if4 hg).1 e.2)]; exact h2 g hg
  · rw [mm_I_sI, if_pos ⟨rfl, rfl⟩]; rfl
  · rw [mm_I_sI, if_neg (fun e => by omega)]; exact h4
  · refine ⟨(h5 g hg).1, (h5 g hg).2.1, (h5 g hg).2.2.1, fun i hi => ?_⟩
    rw [mm_I_sI, if_neg (fun e => h.ne hg e.1)]
    exact (h5 g hg).2.2.2 i hi
theorem xx_R.setW {S : mm_H} {r : Nat} {ad : Nat → Nat} {X : xx_X} (h : xx_R S r ad X) (v : Int32) : xx_R (mm_sI S r 5 v) r ad (xW X v) := by
  obtain ⟨h1, h2, h3, h4, h5, h6, h7⟩ := id h
  refine ⟨h1, fun g hg => ?_, ?_, ?_, fun g hg => ?_, h6, h7⟩
  · rw [mm_I_sI, if_neg (fun e => (xx_if4 hg).2 e.2)]; exact h2 g hg
  · rw [mm_I_sI, if_neg (fun e => by omega)]; exact h3
  · rw [mm_I_sI, if_pos ⟨rfl, rfl⟩]; rfl
  · refine ⟨(h5 g hg).1, (h5 g hg).2.1, (h5 g hg).2.2.1, fun i hi => ?_⟩
    rw [mm_I_sI, if_neg (fun e => h.ne hg e.1)]
    exact (h5 g hg).2.2.2 i hi
/-! rows over numbers of Nat, and over truths -/
def bI (b : Bool) : Int32 := bif b then 1 else 0
theorem bI_01 (b : Bool) : bI b = 0 ∨ bI b = 1 := by cases b; exact Or.inl rfl; exact Or.inr rfl
theorem bI_0 {b : Bool} : bI b = 0 ↔ b = false := by cases b <;> simp [bI]
theorem vv_iaddN {x : vv_X} {cc : ByteArray} {own : String} {fr lo mL kc ks pc : Nat} {lv : List (Nat × Value)} {st : List Value} {S : mm_H} {a b : Nat} (hx : vv_C x cc own fr lo mL) (hd : decode cc pc = .ok (.iadd, 1)) (k : vv_V x kc ks (pc + 1) lv (.int (nI (a + b)) :: st) S) : vv_V x kc ks pc lv (.int (nI b) :: .int (nI a) :: st) S := vv_iadd hx hd (by rw [nI_add]; exact k)
theorem vv_isubN {x : vv_X} {cc : ByteArray} {own : String} {fr lo mL kc ks pc : Nat} {lv : List (Nat × Value)} {st : List Value} {S : mm_H} {a b : Nat} (hx : vv_C x cc own fr lo mL) (hd : decode cc pc = .ok (.isub, 1)) (h : b ≤ a) (k : vv_V x kc ks (pc + 1) lv (.int (nI (a - b)) :: st) S) : vv_V x kc ks pc lv (.int (nI b) :: .int (nI a) :: st) S := vv_isub hx hd (by rw [pk_sub h]; exact k)
theorem vv_imulN {x : vv_X} {cc : ByteArray} {own : String} {fr lo mL kc ks pc : Nat} {lv : List (Nat × Value)} {st : List Value} {S : mm_H} {a b : Nat} (hx : vv_C x cc own fr lo mL) (hd : decode cc pc = .ok (.imul, 1)) (k : vv_V x kc ks (pc + 1) lv (.int (nI (a * b)) :: st) S) : vv_V x kc ks pc lv (.int (nI b) :: .int (nI a) :: st) S := vv_imul hx hd (by rw [pk_mul]; exact k)
theorem vv_icmp_eqN {x : vv_X} {cc : ByteArray} {own : String} {fr lo mL kc ks pc : Nat} {lv : List (Nat × Value)} {st : List Value} {S : mm_H} {a b : Nat} {off : Int} {tgt : Nat} (hx : vv_C x cc own fr lo mL) (hd : decode cc pc = .ok (.if_icmp .eq off, 3)) (ht : (pc : Int) + off = (tgt : Int)) (ha : a < 2 ^ 31) (hb : b < 2 ^ 31) (kt : a = b → vv_V x kc ks tgt lv st S) (kf : ¬ a = b → vv_V x kc ks (pc + 3) lv st S) : vv_V x kc ks pc lv (.int (nI b) :: .int (nI a) :: st) S := vv_icmp_eq hx hd ht (fun z => kt ((nI_eq ha hb).mp z)) (fun z => kf (fun q => z ((nI_eq ha hb).mpr q)))
theorem vv_icmp_neN {x : vv_X} {cc : ByteArray} {own : String} {fr lo mL kc ks pc : Nat} {lv : List (Nat × Value)} {st : List Value} {S : mm_H} {a b : Nat} {off : Int} {tgt : Nat} (hx : vv_C x cc own fr lo mL) (hd : decode cc pc = .ok (.if_icmp .ne off, 3)) (ht : (pc : Int) + off = (tgt : Int)) (ha : a < 2 ^ 31) (hb : b < 2 ^ 31) (kt : ¬ a = b → vv_V x kc ks tgt lv st S) (kf : a = b → vv_V x kc ks (pc + 3) lv st S) : vv_V x kc ks pc lv (.int (nI b) :: .int (nI a) :: st) S := vv_icmp_ne hx hd ht (fun z => kt (fun q => z ((nI_eq ha hb).mpr q))) (fun z => kf ((nI_eq ha hb).mp z))
theorem vv_icmp_ltN {x : vv_X} {cc : ByteArray} {own : String} {fr lo mL kc ks pc : Nat} {lv : List (Nat × Value)} {st : List Value} {S : mm_H} {a b : Nat} {off : Int} {tgt : Nat} (hx : vv_C x cc own fr lo mL) (hd : decode cc pc = .ok (.if_icmp .lt off, 3)) (ht : (pc : Int) + off = (tgt : Int)) (ha : a < 2 ^ 31) (hb : b < 2 ^ 31) (kt : a < b → vv_V x kc ks tgt lv st S) (kf : ¬ a < b → vv_V x kc ks (pc + 3) lv st S) : vv_V x kc ks pc lv (.int (nI b) :: .int (nI a) :: st) S := vv_icmp_lt hx hd ht (fun z => kt ((nI_ltI ha hb).mp z)) (fun z => kf (fun q => z ((nI_ltI ha hb).mpr q)))
theorem vv_icmp_geN {x : vv_X} {cc : ByteArray} {own : String} {fr lo mL kc ks pc : Nat} {lv : List (Nat × Value)} {st : List Value} {S : mm_H} {a b : Nat} {off : Int} {tgt : Nat} (hx : vv_C x cc own fr lo mL) (hd : decode cc pc = .ok (.if_icmp .ge off, 3)) (ht : (pc : Int) + off = (tgt : Int)) (ha : a < 2 ^ 31) (hb : b < 2 ^ 31) (kt : b ≤ a → vv_V x kc ks tgt lv st S) (kf : ¬ b ≤ a → vv_V x kc ks (pc + 3) lv st S) : vv_V x kc ks pc lv (.int (nI b) :: .int (nI a) :: st) S := vv_icmp_ge hx hd ht (fun z => kt ((nI_leI hb ha).mp z)) (fun z => kf (fun q => z ((nI_leI hb ha).mpr q)))
theorem vv_icmp_gtN {x : vv_X} {cc : ByteArray} {own : String} {fr lo mL kc ks pc : Nat} {lv : List (Nat × Value)} {st : List Value} {S : mm_H} {a b : Nat} {off : Int} {tgt : Nat} (hx : vv_C x cc own fr lo mL) (hd : decode cc pc = .ok (.if_icmp .gt off, 3)) (ht : (pc : Int) + off = (tgt : Int)) (ha : a < 2 ^ 31) (hb : b < 2 ^ 31) (kt : b < a → vv_V x kc ks tgt lv st S) (kf : ¬ b < a → vv_V x kc ks (pc + 3) lv st S) : vv_V x kc ks pc lv (.int (nI b) :: .int (nI a) :: st) S := vv_icmp_gt hx hd ht (fun z => kt ((nI_ltI hb ha).mp z)) (fun z => kf (fun q => z ((nI_ltI hb ha).mpr q)))
theorem vv_icmp_leN {x : vv_X} {cc : ByteArray} {own : String} {fr lo mL kc ks pc : Nat} {lv : List (Nat × Value)} {st : List Value} {S : mm_H} {a b : Nat} {off : Int} {tgt : Nat} (hx : vv_C x cc own fr lo mL) (hd : decode cc pc = .ok (.if_icmp .le off, 3)) (ht : (pc : Int) + off = (tgt : Int)) (ha : a < 2 ^ 31) (hb : b < 2 ^ 31) (kt : a ≤ b → vv_V x kc ks tgt lv st S) (kf : ¬ a ≤ b → vv_V x kc ks (pc + 3) lv st S) : vv_V x kc ks pc lv (.int (nI b) :: .int (nI a) :: st) S := vv_icmp_le hx hd ht (fun z => kt ((nI_leI ha hb).mp z)) (fun z => kf (fun q => z ((nI_leI ha hb).mpr q)))
theorem vv_if_eqN {x : vv_X} {cc : ByteArray} {own : String} {fr lo mL kc ks pc : Nat} {lv : List (Nat × Value)} {st : List Value} {S : mm_H} {a : Nat} {off : Int} {tgt : Nat} (hx : vv_C x cc own fr lo mL) (hd : decode cc pc = .ok (.ifCond .eq off, 3)) (ht : (pc : Int) + off = (tgt : Int)) (ha : a < 2 ^ 31) (kt : a = 0 → vv_V x kc ks tgt lv st S) (kf : ¬ a = 0 → vv_V x kc ks (pc + 3) lv st S) : vv_V x kc ks pc lv (.int (nI a) :: st) S := vv_if_eq hx hd ht (fun z => kt ((nI_eq (b := 0) ha (by decide)).mp z)) (fun z => kf (fun q => z ((nI_eq (b := 0) ha (by decide)).mpr q)))
theorem vv_if_neN {x : vv_X} {cc : ByteArray} {own : String} {fr lo mL kc ks pc : Nat} {lv : List (Nat × Value)} {st : List Value} {S : mm_H} {a : Nat} {off : Int} {tgt : Nat} (hx : vv_C x cc own fr lo mL) (hd : decode cc pc = .ok (.ifCond .ne off, 3)) (ht : (pc : Int) + off = (tgt : Int)) (ha : a < 2 ^ 31) (kt : ¬ a = 0 → vv_V x kc ks tgt lv st S) (kf : a = 0 → vv_V x kc ks (pc + 3) lv st S) : vv_V x kc ks pc lv (.int (nI a) :: st) S := vv_if_ne hx hd ht (fun z => kt (fun q => z ((nI_eq (b := 0) ha (by decide)).mpr q))) (fun z => kf ((nI_eq (b := 0) ha (by decide)).mp z))
theorem vv_if_gtN {x : vv_X} {cc : ByteArray} {own : String} {fr lo mL kc ks pc : Nat} {lv : List (Nat × Value)} {st : List Value} {S : mm_H} {a : Nat} {off : Int} {tgt : Nat} (hx : vv_C x cc own fr lo mL) (hd : decode cc pc = .ok (.ifCond .gt off, 3)) (ht : (pc : Int) + off = (tgt : Int)) (ha : a < 2 ^ 31) (kt : 0 < a → vv_V x kc ks tgt lv st S) (kf : ¬ 0 < a → vv_V x kc ks (pc + 3) lv st S) : vv_V x kc ks pc lv (.int (nI a) :: st) S := vv_if_gt hx hd ht (fun z => kt ((nI_ltI (a := 0) (by decide) ha).mp z)) (fun z => kf (fun q => z ((nI_ltI (a := 0) (by decide) ha).mpr q)))
theorem vv_if_leN {x : vv_X} {cc : ByteArray} {own : String} {fr lo mL kc ks pc : Nat} {lv : List (Nat × Value)} {st : List Value} {S : mm_H} {a : Nat} {off : Int} {tgt : Nat} (hx : vv_C x cc own fr lo mL) (hd : decode cc pc = .ok (.ifCond .le off, 3)) (ht : (pc : Int) + off = (tgt : Int)) (ha : a < 2 ^ 31) (kt : a ≤ 0 → vv_V x kc ks tgt lv st S) (kf : ¬ a ≤ 0 → vv_V x kc ks (pc + 3) lv st S) : vv_V x kc ks pc lv (.int (nI a) :: st) S := vv_if_le hx hd ht (fun z => kt ((nI_leI (b := 0) ha (by decide)).mp z)) (fun z => kf (fun q => z ((nI_leI (b := 0) ha (by decide)).mpr q)))
theorem vv_if_eqB {x : vv_X} {cc : ByteArray} {own : String} {fr lo mL kc ks pc : Nat} {lv : List (Nat × Value)} {st : List Value} {S : mm_H} {b : Bool} {off : Int} {tgt : Nat} (hx : vv_C x cc own fr lo mL) (hd : decode cc pc = .ok (.ifCond .eq off, 3)) (ht : (pc : Int) + off = (tgt : Int)) (kt : b = false → vv_V x kc ks tgt lv st S) (kf : b = true → vv_V x kc ks (pc + 3) lv st S) : vv_V x kc ks pc lv (.int (bI b) :: st) S := vv_if_eq hx hd ht (fun z => kt (bI_0.mp z)) (fun z => kf (by cases b; exact absurd rfl z; rfl))
theorem vv_if_neB {x : vv_X} {cc : ByteArray} {own : String} {fr lo mL kc ks pc : Nat} {lv : List (Nat × Value)} {st : List Value} {S : mm_H} {b : Bool} {off : Int} {tgt : Nat} (hx : vv_C x cc own fr lo mL) (hd : decode cc pc = .ok (.ifCond .ne off, 3)) (ht : (pc : Int) + off = (tgt : Int)) (kt : b = true → vv_V x kc ks tgt lv st S) (kf : b = false → vv_V x kc ks (pc + 3) lv st S) : vv_V x kc ks pc lv (.int (bI b) :: st) S := vv_if_ne hx hd ht (fun z => kt (by cases b; exact absurd rfl z; rfl)) (fun z => kf (bI_0.mp z))
theorem rr_geti {e0 : Nat} {x : vv_X} {cc : ByteArray} {own : String} {fr lo mL kc ks pc : Nat} {lv : List (Nat × Value)} {st : List Value} {S : mm_H} {r index : Nat} {ad : Nat → Nat} {X : xx_X} (f : Nat) (hx : vv_C x cc own fr lo mL) (hd : decode cc pc = .ok (.getfield index, 3)) (hl : Cond.fieldLink own index (TX4 f).1 (TX4 f).2.1 (TX4 f).2.2.1 ∈ lw_tbl) (hlt : f < 18) (hly : (mm_ly 5)[f]? = some true) (hf : xx_if f = true) (hR : xx_R S r ad X) (hee : X.1 f = e0) (kk : vv_V x kc ks (pc + 3) lv (.int (nI e0) :: st) S) : vv_V x kc ks pc lv (.ref r :: st) S := vv_geti f hx hd hl kl_4 hlt hly hR.1 (by rw [hR.2.1 f hf, hee]; exact kk)
theorem rr_get4 {x : vv_X} {cc : ByteArray} {own : String} {fr lo mL kc ks pc : Nat} {lv : List (Nat × Value)} {st : List Value} {S : mm_H} {r index : Nat} {ad : Nat → Nat} {X : xx_X} (hx : vv_C x cc own fr lo mL) (hd : decode cc pc = .ok (.getfield index, 3)) (hl : Cond.fieldLink own index (TX4 4).1 (TX4 4).2.1 (TX4 4).2.2.1 ∈ lw_tbl) (hR : xx_R S r ad X) (kk : vv_V x kc ks (pc + 3) lv (.int X.2.2.1 :: st) S) : vv_V x kc ks pc lv (.ref r :: st) S := vv_geti 4 hx hd hl kl_4 (by decide) rfl hR.1 (by rw [hR.2.2.1]; exact kk)
theorem rr_get5 {x : vv_X} {cc : ByteArray} {own : String} {fr lo mL kc ks pc : Nat} {lv : List (Nat × Value)} {st : List Value} {S : mm_H} {r index : Nat} {ad : Nat → Nat} {X : xx_X} (hx : vv_C x cc own fr lo mL) (hd : decode cc pc = .ok (.getfield index, 3)) (hl : Cond.fieldLink own index (TX4 5).1 (TX4 5).2.1 (TX4 5).2.2.1 ∈ lw_tbl) (hR : xx_R S r ad X) (kk : vv_V x kc ks (pc + 3) lv (.int X.2.2.2 :: st) S) : vv_V x kc ks pc lv (.ref r :: st) S := vv_geti 5 hx hd hl kl_4 (by decide) rfl hR.1 (by rw [hR.2.2.2.1]; exact kk)
theorem rr_getr {x : vv_X} {cc : ByteArray} {own : String} {fr lo mL kc ks pc : Nat} {lv : List (Nat × Value)} {st : List Value} {S : mm_H} {r index : Nat} {ad : Nat → Nat} {X : xx_X} (f : Nat) (hx : vv_C x cc own fr lo mL) (hd : decode cc pc = .ok (.getfield index, 3)) (hl : Cond.fieldLink own index (TX4 f).1 (TX4 f).2.1 (TX4 f).2.2.1 ∈ lw_tbl) (hlt : f < 18) (hly : (mm_ly 5)[f]? = some false) (hf : xx_af f = true) (hR : xx_R S r ad X) (kk : vv_V x kc ks (pc + 3) lv (.ref (ad f) :: st) S) : vv_V x kc ks pc lv (.ref r :: st) S := vv_getr f hx hd hl kl_4 hlt hly hR.1 (hR.2.2.2.2.1 f hf).1 kk
theorem xx_lenB (f : Nat) (hf : xx_af f = true) : xx_len f < 2 ^ 31 := by
  simp only [xx_af, Bool.or_eq_true, beq_iff_eq] at hf
  rcases hf with ((((((rfl | rfl) | rfl) | rfl) | rfl) | rfl) | rfl) | rfl <;> decide
theorem rr_iald {e0 : Nat} {x : vv_X} {cc : ByteArray} {own : String} {fr lo mL kc ks pc : Nat} {lv : List (Nat × Value)} {st : List Value} {S : mm_H} {r j n : Nat} {ad : Nat → Nat} {X : xx_X} (f : Nat) (hx : vv_C x cc own fr lo mL) (hd : decode cc pc = .ok (.iaload, 1)) (hf : xx_af f = true) (hR : xx_R S r ad X) (hn : xx_len f = n) (hj : j < n) (hee : X.2.1 f j = e0) (kk : vv_V x kc ks (pc + 1) lv (.int (nI e0) :: st) S) : vv_V x kc ks pc lv (.int (nI j) :: .ref (ad f) :: st) S := by
  subst hn
  have h5 := hR.2.2.2.2.1 f hf
  have hb : mm_L S (ad f) < 2 ^ 31 := by rw [h5.2.2.1]; exact xx_lenB f hf
  refine vv_iald hx hd h5.2.1 rfl (by rw [h5.2.2.1]; exact hj) hb ?_
  rw [h5.2.2.2 j hj, hee]
  exact kk
theorem rr_iast {x : vv_X} {cc : ByteArray} {own : String} {fr lo mL kc ks pc : Nat} {lv : List (Nat × Value)} {st : List Value} {S : mm_H} {r j n v : Nat} {ad : Nat → Nat} {X : xx_X} (f : Nat) (hx : vv_C x cc own fr lo mL) (hd : decode cc pc = .ok (.iastore, 1)) (hf : xx_af f = true) (hR : xx_R S r ad X) (hn : xx_len f = n) (hj : j < n) (hv : v < 2 ^ 31) (kk : ∀ S', xx_R S' r ad (xA X f j v) → vv_V x kc ks (pc + 1) lv st S') : vv_V x kc ks pc lv (.int (nI v) :: .int (nI j) :: .ref (ad f) :: st) S := by
  subst hn
  have h5 := hR.2.2.2.2.1 f hf
  have hb : mm_L S (ad f) < 2 ^ 31 := by rw [h5.2.2.1]; exact xx_lenB f hf
  exact vv_iast hx hd h5.2.1 rfl (by rw [h5.2.2.1]; exact hj) hb (kk _ (hR.setA hf hv))
theorem rr_puti {x : vv_X} {cc : ByteArray} {own : String} {fr lo mL kc ks pc : Nat} {lv : List (Nat × Value)} {st : List Value} {S : mm_H} {v : Nat} {r index : Nat} {ad : Nat → Nat} {X : xx_X} (f : Nat) (hx : vv_C x cc own fr lo mL) (hd : decode cc pc = .ok (.putfield index, 3)) (hl : Cond.fieldLink own index (TX4 f).1 (TX4 f).2.1 (TX4 f).2.2.1 ∈ lw_tbl) (hlt : f < 18) (hly : (mm_ly 5)[f]? = some true) (hfin : (TX4 f).2.2.2 = false) (hty : tyX4 f = .int) (hf : xx_if f = true) (hR : xx_R S r ad X) (hv : v < 2 ^ 31) (kk : ∀ S', xx_R S' r ad (xI X f v) → vv_V x kc ks (pc + 3) lv st S') : vv_V x kc ks pc lv (.int (nI v) :: .ref r :: st) S := vv_puti f hx hd hl kl_4 hlt hly hfin hty hR.1 (kk _ (hR.setI hf hv))
theorem rr_put4 {x : vv_X} {cc : ByteArray} {own : String} {fr lo mL kc ks pc : Nat} {lv : List (Nat × Value)} {st : List Value} {S : mm_H} {r index : Nat} {ad : Nat → Nat} {X : xx_X} {v : Int32} (hx : vv_C x cc own fr lo mL) (hd : decode cc pc = .ok (.putfield index, 3)) (hl : Cond.fieldLink own index (TX4 4).1 (TX4 4).2.1 (TX4 4).2.2.1 ∈ lw_tbl) (hR : xx_R S r ad X) (kk : ∀ S', xx_R S' r ad (xE X v) → vv_V x kc ks (pc + 3) lv st S') : vv_V x kc ks pc lv (.int v :: .ref r :: st) S := vv_puti 4 hx hd hl kl_4 (by decide) rfl rfl rfl hR.1 (kk _ (hR.setE v))
theorem rr_put5 {x : vv_X} {cc : ByteArray} {own : String} {fr lo mL kc ks pc : Nat} {lv : List (Nat × Value)} {st : List Value} {S : mm_H} {r index : Nat} {ad : Nat → Nat} {X : xx_X} {v : Int32} (hx : vv_C x cc own fr lo mL) (hd : decode cc pc = .ok (.putfield index, 3)) (hl : Cond.fieldLink own index (TX4 5).1 (TX4 5).2.1 (TX4 5).2.2.1 ∈ lw_tbl) (hR : xx_R S r ad X) (kk : ∀ S', xx_R S' r ad (xW X v) → vv_V x kc ks (pc + 3) lv st S') : vv_V x kc ks pc lv (.int v :: .ref r :: st) S := vv_puti 5 hx hd hl kl_4 (by decide) rfl rfl rfl hR.1 (kk _ (hR.setW v))
