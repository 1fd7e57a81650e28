/-! THE JUDGEMENT vv_V: the machine at pc, with locals lv and operand stack st, over the memory S, comes to the method's end. x holds all that doesn't change. kc, ks: cells and slots that may still be made. -/
abbrev vv_X : Type := Program × Launch × Env × Room × State × MethodId × Array Value × List Frame × Method × Code × va_G × (Nat → ClassId) × Nat × (Nat → Prop) × (State → Prop)
def vv_V (x : vv_X) (kc ks pc : Nat) (lv : List (Nat × Value)) (st : List Value) (S : mm_H) : Prop := match x with
  | (p, l, e, R, s, m, args, below, meth, c, D, dA, nL, A, Q) => ∀ (ws : va_W) (H : Heap) (locs : List Loc) (cells slots : Nat) (ls : Array Slot), va_P D vwCl ws H → va_D A ws → mm_W dA S ws → va_S A s.heap H locs → cells + kc ≤ R.cells → slots + ks ≤ R.slots → lv_has ls nL lv → W p l e R s m args below meth c H locs cells slots Q (F0 m pc ls st)
def vv_C (x : vv_X) (cc : ByteArray) (own : String) (fr lo mL : Nat) : Prop := match x with
  | (p, _, _, R, s, m, _, _, meth, c, D, dA, nL, A, _) => p.tables.exec = Jvm.exec ∧ c.code = cc ∧ c.maxLocals = nL ∧ s.vm.findClass own = some m.cls ∧ Tb s ∧ va_K D vwCl (mm_ty dA) s ∧ (∀ q, s.heap.size ≤ q → A q) ∧ R.frames = fr ∧ R.locals = lo ∧ meth.locks = false ∧ nL = mL
def vv_N (x : vv_X) : Prop := match x with
  | (_, _, _, _, _, _, _, _, meth, _, _, _, _, _, _) => meth.name = "<init>"
def vv_Q (post : Option Value → mm_H → Prop) (D : va_G) (dA : Nat → ClassId) (A : Nat → Prop) : Array Value → State → Outcome → State → Prop := fun _ st oc t => (∃ (v : Option Value) (S' : mm_H) (ws' : va_W), oc = .returned v ∧ post v S' ∧ mm_W dA S' ws' ∧ va_P D vwCl ws' t.heap ∧ va_D A ws') ∧ va_F A st t
/-- the end of the method: what its answer and its memory must be -/
def vv_E (x : vv_X) (ret : Option FieldType) (post : Option Value → mm_H → Prop) : Prop := match x with
  | (_, _, _, R, s, _, args, below, meth, _, D, dA, _, A, Q) => Q = MQ below (vv_Q post D dA A) args s R.cells R.slots A ∧ meth.sig.returnType = ret
def vv_set : List (Nat × Value) → Nat → Value → List (Nat × Value)
  | [], i, v => [(i, v)]
  | (j, u) :: t, i, v => bif Nat.beq j i then (i, v) :: t else (j, u) :: vv_set t i v
def vv_get : List (Nat × Value) → Nat → Option Value
  | [], _ => none
  | (j, u) :: t, i => bif Nat.beq j i then some u else vv_get t i
theorem vv_get_in : ∀ {lv : List (Nat × Value)} {i : Nat} {v : Value}, vv_get lv i = some v → (i, v) ∈ lv
  | (j, u) :: t, i, v, h => by
    unfold vv_get at h
    cases hb : Nat.beq j i with
    | true =>
      rw [hb] at h
      have hj := Nat.eq_of_beq_eq_true hb
      subst hj
      cases h
      exact List.mem_cons_self
    | false =>
      rw [hb] at h
      exact List.mem_cons_of_mem _ (vv_get_in h)
theorem vv_at {ls : Array Slot} {nL : Nat} {lv : List (Nat × Value)} {i : Nat} {v : Value} (h : lv_has ls nL lv) (hg : vv_get lv i = some v) : ls[i]? = some (.val v) := h.2.2 (i, v) (vv_get_in hg)
def vv_c1 (lv : List (Nat × Value)) : Prop := ∀ q ∈ lv, q.2.category = 1
theorem vv_set_mem : ∀ {lv : List (Nat × Value)} {i : Nat} {v : Value} {q : Nat × Value}, q ∈ vv_set lv i v → q = (i, v) ∨ q ∈ lv
  | [], i, v, q, h => Or.inl (List.mem_singleton.mp h)
  | (j, u) :: t, i, v, q, h => by
    unfold vv_set at h
    cases hb : Nat.beq j i with
    | true =>
      rw [hb] at h
      rcases List.mem_cons.mp h with h | h
      · exact Or.inl h
      · exact Or.inr (List.mem_cons_of_mem _ h)
    | false =>
      rw [hb] at h
      rcases List.mem_cons.mp h with h | h
      · exact Or.inr (h ▸ List.mem_cons_self)
      · rcases vv_set_mem h with h | h
        · exact Or.inl h
        · exact Or.inr (List.mem_cons_of_mem _ h)
/-- no place stands twice, and no value takes two words -/
def vv_ok : List (Nat × Value) → Bool
  | [] => true
  | (j, u) :: t => (t.all fun q => !(Nat.beq q.1 j)) && (u.category == 1) && vv_ok t
theorem vv_set_keep : ∀ {lv : List (Nat × Value)} {i : Nat} {v : Value} {q : Nat × Value}, vv_ok lv = true → q ∈ vv_set lv i v → q = (i, v) ∨ (q ∈ lv ∧ q.1 ≠ i)
  | [], i, v, q, _, h => Or.inl (List.mem_singleton.mp h)
  | (j, u) :: t, i, v, q, ho, h => by
    simp only [vv_ok, Bool.and_eq_true, List.all_eq_true] at ho
    unfold vv_set at h
    cases hb : Nat.beq j i with
    | true =>
      rw [hb] at h
      have hj := Nat.eq_of_beq_eq_true hb
      rcases List.mem_cons.mp h with h | h
      · exact Or.inl h
      · refine Or.inr ⟨List.mem_cons_of_mem _ h, fun e => ?_⟩
        have := ho.1.1 q h
        rw [e, ← hj] at this
        simp at this
    | false =>
      rw [hb] at h
      rcases List.mem_cons.mp h with h | h
      · refine Or.inr ⟨h ▸ List.mem_cons_self, fun e => ?_⟩
        rw [h] at e
        have e' : j = i := e
        rw [e'] at hb
        simp at hb
      · rcases vv_set_keep ho.2 h with h | h
        · exact Or.inl h
        · exact Or.inr ⟨List.mem_cons_of_mem _ h.1, h.2⟩
theorem vv_ok_cat : ∀ {lv : List (Nat × Value)}, vv_ok lv = true → ∀ q ∈ lv, q.2.category = 1
  | (j, u) :: t, ho, q, h => by
    simp only [vv_ok, Bool.and_eq_true] at ho
    rcases List.mem_cons.mp h with h | h
    · rw [h]; simpa using ho.1.2
    · exact vv_ok_cat ho.2 q h
theorem vv_store {ls' : Array Slot} {nL i : Nat} {v : Value} {lv : List (Nat × Value)} (ho : vv_ok lv = true) (h : lv_has ls' nL ((i, v) :: lv.filter (fun q => !(q.1 == i) && !(q.1 + 1 == i && q.2.category == 2)))) : lv_has ls' nL (vv_set lv i v) := by
  refine ⟨h.1, h.2.1, fun q hq => ?_⟩
  rcases vv_set_keep ho hq with e | ⟨h1, h2⟩
  · rw [e]; exact h.2.2 (i, v) List.mem_cons_self
  · refine h.2.2 q (List.mem_cons_of_mem _ (List.mem_filter.mpr ⟨h1, ?_⟩))
    simp [h2, vv_ok_cat ho q h1]

theorem vv_iconst {x : vv_X} {cc : ByteArray} {own : String} {fr lo mL kc ks pc : Nat} {lv : List (Nat × Value)} {st : List Value} {S : mm_H} {n : Int} {v : Int32} (hx : vv_C x cc own fr lo mL) (hd : decode cc pc = .ok (.iconst n, 1)) (hv : Int32.ofInt n = v) (k : vv_V x kc ks (pc + 1) lv (.int v :: st) S) : vv_V x kc ks pc lv st S := by
  obtain ⟨p, l, e, R, s, m, args, below, meth, c, D, dA, nL, A, Q⟩ := x
  intro ws H locs cells slots ls hP hD hM hS hc hs hl
  exact lv_iconst hx.1 hx.2.1 hd hv (k ws H locs cells slots ls hP hD hM hS hc hs hl)
theorem vv_bipush {x : vv_X} {cc : ByteArray} {own : String} {fr lo mL kc ks pc : Nat} {lv : List (Nat × Value)} {st : List Value} {S : mm_H} {n : Int} {v : Int32} (hx : vv_C x cc own fr lo mL) (hd : decode cc pc = .ok (.bipush n, 2)) (hv : (Int8.ofInt n).toInt32 = v) (k : vv_V x kc ks (pc + 2) lv (.int v :: st) S) : vv_V x kc ks pc lv st S := by
  obtain ⟨p, l, e, R, s, m, args, below, meth, c, D, dA, nL, A, Q⟩ := x
  intro ws H locs cells slots ls hP hD hM hS hc hs hl
  exact lv_bipush hx.1 hx.2.1 hd hv (k ws H locs cells slots ls hP hD hM hS hc hs hl)
theorem vv_sipush {x : vv_X} {cc : ByteArray} {own : String} {fr lo mL kc ks pc : Nat} {lv : List (Nat × Value)} {st : List Value} {S : mm_H} {n : Int} {v : Int32} (hx : vv_C x cc own fr lo mL) (hd : decode cc pc = .ok (.sipush n, 3)) (hv : (Int16.ofInt n).toInt32 = v) (k : vv_V x kc ks (pc + 3) lv (.int v :: st) S) : vv_V x kc ks pc lv st S := by
  obtain ⟨p, l, e, R, s, m, args, below, meth, c, D, dA, nL, A, Q⟩ := x
  intro ws H locs cells slots ls hP hD hM hS hc hs hl
  exact lv_sipush hx.1 hx.2.1 hd hv (k ws H locs cells slots ls hP hD hM hS hc hs hl)
theorem vv_iload_n {x : vv_X} {cc : ByteArray} {own : String} {fr lo mL kc ks pc : Nat} {lv : List (Nat × Value)} {st : List Value} {S : mm_H} {i : Fin 4} {v : Int32} (hx : vv_C x cc own fr lo mL) (hd : decode cc pc = .ok (.iload_n i, 1)) (hg : vv_get lv i.val = some (.int v)) (k : vv_V x kc ks (pc + 1) lv (.int v :: st) S) : vv_V x kc ks pc lv st S := by
  obtain ⟨p, l, e, R, s, m, args, below, meth, c, D, dA, nL, A, Q⟩ := x
  intro ws H locs cells slots ls hP hD hM hS hc hs hl
  exact lv_iload_n hx.1 hx.2.1 hd rfl (vv_at hl hg) (k ws H locs cells slots ls hP hD hM hS hc hs hl)
theorem vv_iload {x : vv_X} {cc : ByteArray} {own : String} {fr lo mL kc ks pc : Nat} {lv : List (Nat × Value)} {st : List Value} {S : mm_H} {i : Nat} {v : Int32} (hx : vv_C x cc own fr lo mL) (hd : decode cc pc = .ok (.iload i, 2)) (hg : vv_get lv i = some (.int v)) (k : vv_V x kc ks (pc + 2) lv (.int v :: st) S) : vv_V x kc ks pc lv st S := by
  obtain ⟨p, l, e, R, s, m, args, below, meth, c, D, dA, nL, A, Q⟩ := x
  intro ws H locs cells slots ls hP hD hM hS hc hs hl
  exact lv_iload hx.1 hx.2.1 hd (vv_at hl hg) (k ws H locs cells slots ls hP hD hM hS hc hs hl)
theorem vv_aload_n {x : vv_X} {cc : ByteArray} {own : String} {fr lo mL kc ks pc : Nat} {lv : List (Nat × Value)} {st : List Value} {S : mm_H} {i : Fin 4} {v : Nat} (hx : vv_C x cc own fr lo mL) (hd : decode cc pc = .ok (.aload_n i, 1)) (hg : vv_get lv i.val = some (.ref v)) (k : vv_V x kc ks (pc + 1) lv (.ref v :: st) S) : vv_V x kc ks pc lv st S := by
  obtain ⟨p, l, e, R, s, m, args, below, meth, c, D, dA, nL, A, Q⟩ := x
  intro ws H locs cells slots ls hP hD hM hS hc hs hl
  exact lv_aload_n hx.1 hx.2.1 hd rfl (vv_at hl hg) (k ws H locs cells slots ls hP hD hM hS hc hs hl)
theorem vv_aload {x : vv_X} {cc : ByteArray} {own : String} {fr lo mL kc ks pc : Nat} {lv : List (Nat × Value)} {st : List Value} {S : mm_H} {i : Nat} {v : Nat} (hx : vv_C x cc own fr lo mL) (hd : decode cc pc = .ok (.aload i, 2)) (hg : vv_get lv i = some (.ref v)) (k : vv_V x kc ks (pc + 2) lv (.ref v :: st) S) : vv_V x kc ks pc lv st S := by
  obtain ⟨p, l, e, R, s, m, args, below, meth, c, D, dA, nL, A, Q⟩ := x
  intro ws H locs cells slots ls hP hD hM hS hc hs hl
  exact lv_aload hx.1 hx.2.1 hd (vv_at hl hg) (k ws H locs cells slots ls hP hD hM hS hc hs hl)
theorem vv_aload_nN {x : vv_X} {cc : ByteArray} {own : String} {fr lo mL kc ks pc : Nat} {lv : List (Nat × Value)} {st : List Value} {S : mm_H} {i : Fin 4} (hx : vv_C x cc own fr lo mL) (hd : decode cc pc = .ok (.aload_n i, 1)) (hg : vv_get lv i.val = some .null) (k : vv_V x kc ks (pc + 1) lv (.null :: st) S) : vv_V x kc ks pc lv st S := by
  obtain ⟨p, l, e, R, s, m, args, below, meth, c, D, dA, nL, A, Q⟩ := x
  intro ws H locs cells slots ls hP hD hM hS hc hs hl
  exact lv_aload_nN hx.1 hx.2.1 hd rfl (vv_at hl hg) (k ws H locs cells slots ls hP hD hM hS hc hs hl)
theorem vv_aloadN {x : vv_X} {cc : ByteArray} {own : String} {fr lo mL kc ks pc : Nat} {lv : List (Nat × Value)} {st : List Value} {S : mm_H} {i : Nat} (hx : vv_C x cc own fr lo mL) (hd : decode cc pc = .ok (.aload i, 2)) (hg : vv_get lv i = some .null) (k : vv_V x kc ks (pc + 2) lv (.null :: st) S) : vv_V x kc ks pc lv st S := by
  obtain ⟨p, l, e, R, s, m, args, below, meth, c, D, dA, nL, A, Q⟩ := x
  intro ws H locs cells slots ls hP hD hM hS hc hs hl
  exact lv_aloadN hx.1 hx.2.1 hd (vv_at hl hg) (k ws H locs cells slots ls hP hD hM hS hc hs hl)
theorem vv_iadd {x : vv_X} {cc : ByteArray} {own : String} {fr lo mL kc ks pc : Nat} {lv : List (Nat × Value)} {st : List Value} {S : mm_H} {y1 y2 : Int32} (hx : vv_C x cc own fr lo mL) (hd : decode cc pc = .ok (.iadd, 1)) (k : vv_V x kc ks (pc + 1) lv (.int (y1 + y2) :: st) S) : vv_V x kc ks pc lv (.int y2 :: .int y1 :: st) S := by
  obtain ⟨p, l, e, R, s, m, args, below, meth, c, D, dA, nL, A, Q⟩ := x
  intro ws H locs cells slots ls hP hD hM hS hc hs hl
  exact lv_iadd hx.1 hx.2.1 hd (k ws H locs cells slots ls hP hD hM hS hc hs hl)
theorem vv_isub {x : vv_X} {cc : ByteArray} {own : String} {fr lo mL kc ks pc : Nat} {lv : List (Nat × Value)} {st : List Value} {S : mm_H} {y1 y2 : Int32} (hx : vv_C x cc own fr lo mL) (hd : decode cc pc = .ok (.isub, 1)) (k : vv_V x kc ks (pc + 1) lv (.int (y1 - y2) :: st) S) : vv_V x kc ks pc lv (.int y2 :: .int y1 :: st) S := by
  obtain ⟨p, l, e, R, s, m, args, below, meth, c, D, dA, nL, A, Q⟩ := x
  intro ws H locs cells slots ls hP hD hM hS hc hs hl
  exact lv_isub hx.1 hx.2.1 hd (k ws H locs cells slots ls hP hD hM hS hc hs hl)
theorem vv_imul {x : vv_X} {cc : ByteArray} {own : String} {fr lo mL kc ks pc : Nat} {lv : List (Nat × Value)} {st : List Value} {S : mm_H} {y1 y2 : Int32} (hx : vv_C x cc own fr lo mL) (hd : decode cc pc = .ok (.imul, 1)) (k : vv_V x kc ks (pc + 1) lv (.int (y1 * y2) :: st) S) : vv_V x kc ks pc lv (.int y2 :: .int y1 :: st) S := by
  obtain ⟨p, l, e, R, s, m, args, below, meth, c, D, dA, nL, A, Q⟩ := x
  intro ws H locs cells slots ls hP hD hM hS hc hs hl
  exact lv_imul hx.1 hx.2.1 hd (k ws H locs cells slots ls hP hD hM hS hc hs hl)
theorem vv_iand {x : vv_X} {cc : ByteArray} {own : String} {fr lo mL kc ks pc : Nat} {lv : List (Nat × Value)} {st : List Value} {S : mm_H} {y1 y2 : Int32} (hx : vv_C x cc own fr lo mL) (hd : decode cc pc = .ok (.iand, 1)) (k : vv_V x kc ks (pc + 1) lv (.int (y1 &&& y2) :: st) S) : vv_V x kc ks pc lv (.int y2 :: .int y1 :: st) S := by
  obtain ⟨p, l, e, R, s, m, args, below, meth, c, D, dA, nL, A, Q⟩ := x
  intro ws H locs cells slots ls hP hD hM hS hc hs hl
  exact lv_iand hx.1 hx.2.1 hd (k ws H locs cells slots ls hP hD hM hS hc hs hl)
theorem vv_ishr {x : vv_X} {cc : ByteArray} {own : String} {fr lo mL kc ks pc : Nat} {lv : List (Nat × Value)} {st : List Value} {S : mm_H} {y1 y2 : Int32} (hx : vv_C x cc own fr lo mL) (hd : decode cc pc = .ok (.ishr, 1)) (k : vv_V x kc ks (pc + 1) lv (.int (y1 >>> (y2 &&& 31)) :: st) S) : vv_V x kc ks pc lv (.int y2 :: .int y1 :: st) S := by
  obtain ⟨p, l, e, R, s, m, args, below, meth, c, D, dA, nL, A, Q⟩ := x
  intro ws H locs cells slots ls hP hD hM hS hc hs hl
  exact lv_ishr hx.1 hx.2.1 hd (k ws H locs cells slots ls hP hD hM hS hc hs hl)
theorem vv_iushr {x : vv_X} {cc : ByteArray} {own : String} {fr lo mL kc ks pc : Nat} {lv : List (Nat × Value)} {st : List Value} {S : mm_H} {y1 y2 : Int32} (hx : vv_C x cc own fr lo mL) (hd : decode cc pc = .ok (.iushr, 1)) (k : vv_V x kc ks (pc + 1) lv (.int (y1.toUInt32 >>> (y2.toUInt32 &&& Int32.toUInt32 31)).toInt32 :: st) S) : vv_V x kc ks pc lv (.int y2 :: .int y1 :: st) S := by
  obtain ⟨p, l, e, R, s, m, args, below, meth, c, D, dA, nL, A, Q⟩ := x
  intro ws H locs cells slots ls hP hD hM hS hc hs hl
  exact lv_iushr hx.1 hx.2.1 hd rfl (k ws H locs cells slots ls hP hD hM hS hc hs hl)
theorem vv_dup {x : vv_X} {cc : ByteArray} {own : String} {fr lo mL kc ks pc : Nat} {lv : List (Nat × Value)} {st : List Value} {S : mm_H} {v : Value} (hx : vv_C x cc own fr lo mL) (hd : decode cc pc = .ok (.dup, 1)) (hv : v.category = 1) (k : vv_V x kc ks (pc + 1) lv (v :: v :: st) S) : vv_V x kc ks pc lv (v :: st) S := by
  obtain ⟨p, l, e, R, s, m, args, below, meth, c, D, dA, nL, A, Q⟩ := x
  intro ws H locs cells slots ls hP hD hM hS hc hs hl
  exact lv_dup hx.1 hx.2.1 hd hv (k ws H locs cells slots ls hP hD hM hS hc hs hl)
theorem vv_pop {x : vv_X} {cc : ByteArray} {own : String} {fr lo mL kc ks pc : Nat} {lv : List (Nat × Value)} {st : List Value} {S : mm_H} {v : Value} (hx : vv_C x cc own fr lo mL) (hd : decode cc pc = .ok (.pop, 1)) (hv : v.category = 1) (k : vv_V x kc ks (pc + 1) lv st S) : vv_V x kc ks pc lv (v :: st) S := by
  obtain ⟨p, l, e, R, s, m, args, below, meth, c, D, dA, nL, A, Q⟩ := x
  intro ws H locs cells slots ls hP hD hM hS hc hs hl
  exact lv_pop hx.1 hx.2.1 hd hv (k ws H locs cells slots ls hP hD hM hS hc hs hl)
theorem vv_dup2 {x : vv_X} {cc : ByteArray} {own : String} {fr lo mL kc ks pc : Nat} {lv : List (Nat × Value)} {st : List Value} {S : mm_H} {v u : Value} (hx : vv_C x cc own fr lo mL) (hd : decode cc pc = .ok (.dup2, 1)) (hv : v.category = 1) (hu : u.category = 1) (k : vv_V x kc ks (pc + 1) lv (v :: u :: v :: u :: st) S) : vv_V x kc ks pc lv (v :: u :: st) S := by
  obtain ⟨p, l, e, R, s, m, args, below, meth, c, D, dA, nL, A, Q⟩ := x
  intro ws H locs cells slots ls hP hD hM hS hc hs hl
  exact lv_dup2_11 hx.1 hx.2.1 hd hv hu (k ws H locs cells slots ls hP hD hM hS hc hs hl)
theorem vv_goto {x : vv_X} {cc : ByteArray} {own : String} {fr lo mL kc ks pc : Nat} {lv : List (Nat × Value)} {st : List Value} {S : mm_H} {off : Int} {tgt : Nat} (hx : vv_C x cc own fr lo mL) (hd : decode cc pc = .ok (.goto off, 3)) (ht : (pc : Int) + off = (tgt : Int)) (k : vv_V x kc ks tgt lv st S) : vv_V x kc ks pc lv st S := by
  obtain ⟨p, l, e, R, s, m, args, below, meth, c, D, dA, nL, A, Q⟩ := x
  intro ws H locs cells slots ls hP hD hM hS hc hs hl
  exact lv_goto hx.1 hx.2.1 hd ht (k ws H locs cells slots ls hP hD hM hS hc hs hl)
theorem vv_null {x : vv_X} {cc : ByteArray} {own : String} {fr lo mL kc ks pc : Nat} {lv : List (Nat × Value)} {st : List Value} {S : mm_H}  (hx : vv_C x cc own fr lo mL) (hd : decode cc pc = .ok (.aconst_null, 1)) (k : vv_V x kc ks (pc + 1) lv (.null :: st) S) : vv_V x kc ks pc lv st S := by
  obtain ⟨p, l, e, R, s, m, args, below, meth, c, D, dA, nL, A, Q⟩ := x
  intro ws H locs cells slots ls hP hD hM hS hc hs hl
  exact lv_null hx.1 hx.2.1 hd (k ws H locs cells slots ls hP hD hM hS hc hs hl)
theorem vv_ldcw {x : vv_X} {cc : ByteArray} {own : String} {fr lo mL kc ks pc : Nat} {lv : List (Nat × Value)} {st : List Value} {S : mm_H} {i : Nat} {v : Int32} (hx : vv_C x cc own fr lo mL) (hd : decode cc pc = .ok (.ldc_w i, 3)) (hcn : Cond.constant own i v ∈ lw_tbl) (k : vv_V x kc ks (pc + 3) lv (.int v :: st) S) : vv_V x kc ks pc lv st S := by
  obtain ⟨p, l, e, R, s, m, args, below, meth, c, D, dA, nL, A, Q⟩ := x
  intro ws H locs cells slots ls hP hD hM hS hc hs hl
  exact lv_ldcw hx.1 hx.2.1 hx.2.2.2.1 (hx.2.2.2.2.1.use hcn rfl) hd (k ws H locs cells slots ls hP hD hM hS hc hs hl)
theorem vv_ifnonnull {x : vv_X} {cc : ByteArray} {own : String} {fr lo mL kc ks pc : Nat} {lv : List (Nat × Value)} {st : List Value} {S : mm_H} {a : Nat} {off : Int} {tgt : Nat} (hx : vv_C x cc own fr lo mL) (hd : decode cc pc = .ok (.ifnonnull off, 3)) (ht : (pc : Int) + off = (tgt : Int)) (k : vv_V x kc ks tgt lv st S) : vv_V x kc ks pc lv (.ref a :: st) S := by
  obtain ⟨p, l, e, R, s, m, args, below, meth, c, D, dA, nL, A, Q⟩ := x
  intro ws H locs cells slots ls hP hD hM hS hc hs hl
  exact lv_ifnonnull hx.1 hx.2.1 hd ht (k ws H locs cells slots ls hP hD hM hS hc hs hl)
theorem vv_ifnonnullN {x : vv_X} {cc : ByteArray} {own : String} {fr lo mL kc ks pc : Nat} {lv : List (Nat × Value)} {st : List Value} {S : mm_H} {off : Int} (hx : vv_C x cc own fr lo mL) (hd : decode cc pc = .ok (.ifnonnull off, 3)) (k : vv_V x kc ks (pc + 3) lv st S) : vv_V x kc ks pc lv (.null :: st) S := by
  obtain ⟨p, l, e, R, s, m, args, below, meth, c, D, dA, nL, A, Q⟩ := x
  intro ws H locs cells slots ls hP hD hM hS hc hs hl
  exact lv_ifnonnullN hx.1 hx.2.1 hd (k ws H locs cells slots ls hP hD hM hS hc hs hl)
theorem vv_ifnull {x : vv_X} {cc : ByteArray} {own : String} {fr lo mL kc ks pc : Nat} {lv : List (Nat × Value)} {st : List Value} {S : mm_H} {a : Nat} {off : Int} (hx : vv_C x cc own fr lo mL) (hd : decode cc pc = .ok (.ifnull off, 3)) (k : vv_V x kc ks (pc + 3) lv st S) : vv_V x kc ks pc lv (.ref a :: st) S := by
  obtain ⟨p, l, e, R, s, m, args, below, meth, c, D, dA, nL, A, Q⟩ := x
  intro ws H locs cells slots ls hP hD hM hS hc hs hl
  exact lv_ifnull hx.1 hx.2.1 hd (k ws H locs cells slots ls hP hD hM hS hc hs hl)
theorem vv_ifnullN {x : vv_X} {cc : ByteArray} {own : String} {fr lo mL kc ks pc : Nat} {lv : List (Nat × Value)} {st : List Value} {S : mm_H} {off : Int} {tgt : Nat} (hx : vv_C x cc own fr lo mL) (hd : decode cc pc = .ok (.ifnull off, 3)) (ht : (pc : Int) + off = (tgt : Int)) (k : vv_V x kc ks tgt lv st S) : vv_V x kc ks pc lv (.null :: st) S := by
  obtain ⟨p, l, e, R, s, m, args, below, meth, c, D, dA, nL, A, Q⟩ := x
  intro ws H locs cells slots ls hP hD hM hS hc hs hl
  exact lv_ifnullN hx.1 hx.2.1 hd ht (k ws H locs cells slots ls hP hD hM hS hc hs hl)
theorem vv_tabIn {x : vv_X} {cc : ByteArray} {own : String} {fr lo mL kc ks pc : Nat} {lv : List (Nat × Value)} {st : List Value} {S : mm_H} {dflt low high : Int} {offs : Array Int} {len : Nat} {y : Int32} {off : Int} {tgt : Nat} (hx : vv_C x cc own fr lo mL) (hd : decode cc pc = .ok (.tableswitch dflt low high offs, len)) (h1 : ¬ y.toInt < low) (h2 : ¬ high < y.toInt) (ho : offs[(y.toInt - low).toNat]? = some off) (ht : (pc : Int) + off = (tgt : Int)) (k : vv_V x kc ks tgt lv st S) : vv_V x kc ks pc lv (.int y :: st) S := by
  obtain ⟨p, l, e, R, s, m, args, below, meth, c, D, dA, nL, A, Q⟩ := x
  intro ws H locs cells slots ls hP hD hM hS hc hs hl
  exact lv_tableIn hx.1 hx.2.1 hd h1 h2 ho ht (k ws H locs cells slots ls hP hD hM hS hc hs hl)
theorem vv_tabOut {x : vv_X} {cc : ByteArray} {own : String} {fr lo mL kc ks pc : Nat} {lv : List (Nat × Value)} {st : List Value} {S : mm_H} {dflt low high : Int} {offs : Array Int} {len : Nat} {y : Int32} {tgt : Nat} (hx : vv_C x cc own fr lo mL) (hd : decode cc pc = .ok (.tableswitch dflt low high offs, len)) (h : y.toInt < low ∨ high < y.toInt) (ht : (pc : Int) + dflt = (tgt : Int)) (k : vv_V x kc ks tgt lv st S) : vv_V x kc ks pc lv (.int y :: st) S := by
  obtain ⟨p, l, e, R, s, m, args, below, meth, c, D, dA, nL, A, Q⟩ := x
  intro ws H locs cells slots ls hP hD hM hS hc hs hl
  exact lv_tableOut hx.1 hx.2.1 hd h ht (k ws H locs cells slots ls hP hD hM hS hc hs hl)
theorem vv_if_eq {x : vv_X} {cc : ByteArray} {own : String} {fr lo mL kc ks pc : Nat} {lv : List (Nat × Value)} {st : List Value} {S : mm_H} {y1 : Int32} {off : Int} {tgt : Nat} (hx : vv_C x cc own fr lo mL) (hd : decode cc pc = .ok (.ifCond .eq off, 3)) (ht : (pc : Int) + off = (tgt : Int)) (kt : (y1 = 0) → vv_V x kc ks tgt lv st S) (kf : ¬ y1 = 0 → vv_V x kc ks (pc + 3) lv st S) : vv_V x kc ks pc lv (.int y1 :: st) S := by
  obtain ⟨p, l, e, R, s, m, args, below, meth, c, D, dA, nL, A, Q⟩ := x
  intro ws H locs cells slots ls hP hD hM hS hc hs hl
  exact lv_if_eq hx.1 hx.2.1 hd ht (fun z => kt z ws H locs cells slots ls hP hD hM hS hc hs hl) (fun z => kf z ws H locs cells slots ls hP hD hM hS hc hs hl)
theorem vv_icmp_eq {x : vv_X} {cc : ByteArray} {own : String} {fr lo mL kc ks pc : Nat} {lv : List (Nat × Value)} {st : List Value} {S : mm_H} {y1 y2 : Int32} {off : Int} {tgt : Nat} (hx : vv_C x cc own fr lo mL) (hd : decode cc pc = .ok (.if_icmp .eq off, 3)) (ht : (pc : Int) + off = (tgt : Int)) (kt : (y1 = y2) → vv_V x kc ks tgt lv st S) (kf : ¬ y1 = y2 → vv_V x kc ks (pc + 3) lv st S) : vv_V x kc ks pc lv (.int y2 :: .int y1 :: st) S := by
  obtain ⟨p, l, e, R, s, m, args, below, meth, c, D, dA, nL, A, Q⟩ := x
  intro ws H locs cells slots ls hP hD hM hS hc hs hl
  exact lv_icmp_eq hx.1 hx.2.1 hd ht (fun z => kt z ws H locs cells slots ls hP hD hM hS hc hs hl) (fun z => kf z ws H locs cells slots ls hP hD hM hS hc hs hl)
theorem vv_if_ne {x : vv_X} {cc : ByteArray} {own : String} {fr lo mL kc ks pc : Nat} {lv : List (Nat × Value)} {st : List Value} {S : mm_H} {y1 : Int32} {off : Int} {tgt : Nat} (hx : vv_C x cc own fr lo mL) (hd : decode cc pc = .ok (.ifCond .ne off, 3)) (ht : (pc : Int) + off = (tgt : Int)) (kt : (¬ y1 = 0) → vv_V x kc ks tgt lv st S) (kf : y1 = 0 → vv_V x kc ks (pc + 3) lv st S) : vv_V x kc ks pc lv (.int y1 :: st) S := by
  obtain ⟨p, l, e, R, s, m, args, below, meth, c, D, dA, nL, A, Q⟩ := x
  intro ws H locs cells slots ls hP hD hM hS hc hs hl
  exact lv_if_ne hx.1 hx.2.1 hd ht (fun z => kt z ws H locs cells slots ls hP hD hM hS hc hs hl) (fun z => kf z ws H locs cells slots ls hP hD hM hS hc hs hl)
theorem vv_icmp_ne {x : vv_X} {cc : ByteArray} {own : String} {fr lo mL kc ks pc : Nat} {lv : List (Nat × Value)} {st : List Value} {S : mm_H} {y1 y2 : Int32} {off : Int} {tgt : Nat} (hx : vv_C x cc own fr lo mL) (hd : decode cc pc = .ok (.if_icmp .ne off, 3)) (ht : (pc : Int) + off = (tgt : Int)) (kt : (¬ y1 = y2) → vv_V x kc ks tgt lv st S) (kf : y1 = y2 → vv_V x kc ks (pc + 3) lv st S) : vv_V x kc ks pc lv (.int y2 :: .int y1 :: st) S := by
  obtain ⟨p, l, e, R, s, m, args, below, meth, c, D, dA, nL, A, Q⟩ := x
  intro ws H locs cells slots ls hP hD hM hS hc hs hl
  exact lv_icmp_ne hx.1 hx.2.1 hd ht (fun z => kt z ws H locs cells slots ls hP hD hM hS hc hs hl) (fun z => kf z ws H locs cells slots ls hP hD hM hS hc hs hl)
theorem vv_if_lt {x : vv_X} {cc : ByteArray} {own : String} {fr lo mL kc ks pc : Nat} {lv : List (Nat × Value)} {st : List Value} {S : mm_H} {y1 : Int32} {off : Int} {tgt : Nat} (hx : vv_C x cc own fr lo mL) (hd : decode cc pc = .ok (.ifCond .lt off, 3)) (ht : (pc : Int) + off = (tgt : Int)) (kt : (y1 < 0) → vv_V x kc ks tgt lv st S) (kf : ¬ y1 < 0 → vv_V x kc ks (pc + 3) lv st S) : vv_V x kc ks pc lv (.int y1 :: st) S := by
  obtain ⟨p, l, e, R, s, m, args, below, meth, c, D, dA, nL, A, Q⟩ := x
  intro ws H locs cells slots ls hP hD hM hS hc hs hl
  exact lv_if_lt hx.1 hx.2.1 hd ht (fun z => kt z ws H locs cells slots ls hP hD hM hS hc hs hl) (fun z => kf z ws H locs cells slots ls hP hD hM hS hc hs hl)
theorem vv_icmp_lt {x : vv_X} {cc : ByteArray} {own : String} {fr lo mL kc ks pc : Nat} {lv : List (Nat × Value)} {st : List Value} {S : mm_H} {y1 y2 : Int32} {off : Int} {tgt : Nat} (hx : vv_C x cc own fr lo mL) (hd : decode cc pc = .ok (.if_icmp .lt off, 3)) (ht : (pc : Int) + off = (tgt : Int)) (kt : (y1 < y2) → vv_V x kc ks tgt lv st S) (kf : ¬ y1 < y2 → vv_V x kc ks (pc + 3) lv st S) : vv_V x kc ks pc lv (.int y2 :: .int y1 :: st) S := by
  obtain ⟨p, l, e, R, s, m, args, below, meth, c, D, dA, nL, A, Q⟩ := x
  intro ws H locs cells slots ls hP hD hM hS hc hs hl
  exact lv_icmp_lt hx.1 hx.2.1 hd ht (fun z => kt z ws H locs cells slots ls hP hD hM hS hc hs hl) (fun z => kf z ws H locs cells slots ls hP hD hM hS hc hs hl)
theorem vv_if_ge {x : vv_X} {cc : ByteArray} {own : String} {fr lo mL kc ks pc : Nat} {lv : List (Nat × Value)} {st : List Value} {S : mm_H} {y1 : Int32} {off : Int} {tgt : Nat} (hx : vv_C x cc own fr lo mL) (hd : decode cc pc = .ok (.ifCond .ge off, 3)) (ht : (pc : Int) + off = (tgt : Int)) (kt : (0 ≤ y1) → vv_V x kc ks tgt lv st S) (kf : ¬ 0 ≤ y1 → vv_V x kc ks (pc + 3) lv st S) : vv_V x kc ks pc lv (.int y1 :: st) S := by
  obtain ⟨p, l, e, R, s, m, args, below, meth, c, D, dA, nL, A, Q⟩ := x
  intro ws H locs cells slots ls hP hD hM hS hc hs hl
  exact lv_if_ge hx.1 hx.2.1 hd ht (fun z => kt z ws H locs cells slots ls hP hD hM hS hc hs hl) (fun z => kf z ws H locs cells slots ls hP hD hM hS hc hs hl)
theorem vv_icmp_ge {x : vv_X} {cc : ByteArray} {own : String} {fr lo mL kc ks pc : Nat} {lv : List (Nat × Value)} {st : List Value} {S : mm_H} {y1 y2 : Int32} {off : Int} {tgt : Nat} (hx : vv_C x cc own fr lo mL) (hd : decode cc pc = .ok (.if_icmp .ge off, 3)) (ht : (pc : Int) + off = (tgt : Int)) (kt : (y2 ≤ y1) → vv_V x kc ks tgt lv st S) (kf : ¬ y2 ≤ y1 → vv_V x kc ks (pc + 3) lv st S) : vv_V x kc ks pc lv (.int y2 :: .int y1 :: st) S := by
  obtain ⟨p, l, e, R, s, m, args, below, meth, c, D, dA, nL, A, Q⟩ := x
  intro ws H locs cells slots ls hP hD hM hS hc hs hl
  exact lv_icmp_ge hx.1 hx.2.1 hd ht (fun z => kt z ws H locs cells slots ls hP hD hM hS hc hs hl) (fun z => kf z ws H locs cells slots ls hP hD hM hS hc hs hl)
theorem vv_if_gt {x : vv_X} {cc : ByteArray} {own : String} {fr lo mL kc ks pc : Nat} {lv : List (Nat × Value)} {st : List Value} {S : mm_H} {y1 : Int32} {off : Int} {tgt : Nat} (hx : vv_C x cc own fr lo mL) (hd : decode cc pc = .ok (.ifCond .gt off, 3)) (ht : (pc : Int) + off = (tgt : Int)) (kt : (0 < y1) → vv_V x kc ks tgt lv st S) (kf : ¬ 0 < y1 → vv_V x kc ks (pc + 3) lv st S) : vv_V x kc ks pc lv (.int y1 :: st) S := by
  obtain ⟨p, l, e, R, s, m, args, below, meth, c, D, dA, nL, A, Q⟩ := x
  intro ws H locs cells slots ls hP hD hM hS hc hs hl
  exact lv_if_gt hx.1 hx.2.1 hd ht (fun z => kt z ws H locs cells slots ls hP hD hM hS hc hs hl) (fun z => kf z ws H locs cells slots ls hP hD hM hS hc hs hl)
theorem vv_icmp_gt {x : vv_X} {cc : ByteArray} {own : String} {fr lo mL kc ks pc : Nat} {lv : List (Nat × Value)} {st : List Value} {S : mm_H} {y1 y2 : Int32} {off : Int} {tgt : Nat} (hx : vv_C x cc own fr lo mL) (hd : decode cc pc = .ok (.if_icmp .gt off, 3)) (ht : (pc : Int) + off = (tgt : Int)) (kt : (y2 < y1) → vv_V x kc ks tgt lv st S) (kf : ¬ y2 < y1 → vv_V x kc ks (pc + 3) lv st S) : vv_V x kc ks pc lv (.int y2 :: .int y1 :: st) S := by
  obtain ⟨p, l, e, R, s, m, args, below, meth, c, D, dA, nL, A, Q⟩ := x
  intro ws H locs cells slots ls hP hD hM hS hc hs hl
  exact lv_icmp_gt hx.1 hx.2.1 hd ht (fun z => kt z ws H locs cells slots ls hP hD hM hS hc hs hl) (fun z => kf z ws H locs cells slots ls hP hD hM hS hc hs hl)
theorem vv_if_le {x : vv_X} {cc : ByteArray} {own : String} {fr lo mL kc ks pc : Nat} {lv : List (Nat × Value)} {st : List Value} {S : mm_H} {y1 : Int32} {off : Int} {tgt : Nat} (hx : vv_C x cc own fr lo mL) (hd : decode cc pc = .ok (.ifCond .le off, 3)) (ht : (pc : Int) + off = (tgt : Int)) (kt : (y1 ≤ 0) → vv_V x kc ks tgt lv st S) (kf : ¬ y1 ≤ 0 → vv_V x kc ks (pc + 3) lv st S) : vv_V x kc ks pc lv (.int y1 :: st) S := by
  obtain ⟨p, l, e, R, s, m, args, below, meth, c, D, dA, nL, A, Q⟩ := x
  intro ws H locs cells slots ls hP hD hM hS hc hs hl
  exact lv_if_le hx.1 hx.2.1 hd ht (fun z => kt z ws H locs cells slots ls hP hD hM hS hc hs hl) (fun z => kf z ws H locs cells slots ls hP hD hM hS hc hs hl)
theorem vv_icmp_le {x : vv_X} {cc : ByteArray} {own : String} {fr lo mL kc ks pc : Nat} {lv : List (Nat × Value)} {st : List Value} {S : mm_H} {y1 y2 : Int32} {off : Int} {tgt : Nat} (hx : vv_C x cc own fr lo mL) (hd : decode cc pc = .ok (.if_icmp .le off, 3)) (ht : (pc : Int) + off = (tgt : Int)) (kt : (y1 ≤ y2) → vv_V x kc ks tgt lv st S) (kf : ¬ y1 ≤ y2 → vv_V x kc ks (pc + 3) lv st S) : vv_V x kc ks pc lv (.int y2 :: .int y1 :: st) S := by
  obtain ⟨p, l, e, R, s, m, args, below, meth, c, D, dA, nL, A, Q⟩ := x
  intro ws H locs cells slots ls hP hD hM hS hc hs hl
  exact lv_icmp_le hx.1 hx.2.1 hd ht (fun z => kt z ws H locs cells slots ls hP hD hM hS hc hs hl) (fun z => kf z ws H locs cells slots ls hP hD hM hS hc hs hl)
theorem vv_istore_n {x : vv_X} {cc : ByteArray} {own : String} {fr lo mL kc ks pc : Nat} {lv : List (Nat × Value)} {st : List Value} {S : mm_H} {i : Fin 4} {v : Int32} {lv' : List (Nat × Value)} (hx : vv_C x cc own fr lo mL) (hd : decode cc pc = .ok (.istore_n i, 1)) (hi : i.val < mL) (ho : vv_ok lv = true) (hlv : vv_set lv i.val (.int v) = lv') (k : vv_V x kc ks (pc + 1) lv' st S) : vv_V x kc ks pc lv ((.int v) :: st) S := by
  obtain ⟨p, l, e, R, s, m, args, below, meth, c, D, dA, nL, A, Q⟩ := x
  subst hlv
  intro ws H locs cells slots ls hP hD hM hS hc hs hl
  exact lv_istore_n hx.1 hx.2.1 hd rfl hl (by rw [hx.2.2.2.2.2.2.2.2.2.2]; exact hi) rfl (fun ls' hl' => k ws H locs cells slots ls' hP hD hM hS hc hs (vv_store ho hl'))
theorem vv_istore {x : vv_X} {cc : ByteArray} {own : String} {fr lo mL kc ks pc : Nat} {lv : List (Nat × Value)} {st : List Value} {S : mm_H} {i : Nat} {v : Int32} {lv' : List (Nat × Value)} (hx : vv_C x cc own fr lo mL) (hd : decode cc pc = .ok (.istore i, 2)) (hi : i < mL) (ho : vv_ok lv = true) (hlv : vv_set lv i (.int v) = lv') (k : vv_V x kc ks (pc + 2) lv' st S) : vv_V x kc ks pc lv ((.int v) :: st) S := by
  obtain ⟨p, l, e, R, s, m, args, below, meth, c, D, dA, nL, A, Q⟩ := x
  subst hlv
  intro ws H locs cells slots ls hP hD hM hS hc hs hl
  exact lv_istore hx.1 hx.2.1 hd hl (by rw [hx.2.2.2.2.2.2.2.2.2.2]; exact hi) rfl (fun ls' hl' => k ws H locs cells slots ls' hP hD hM hS hc hs (vv_store ho hl'))
theorem vv_astore_n {x : vv_X} {cc : ByteArray} {own : String} {fr lo mL kc ks pc : Nat} {lv : List (Nat × Value)} {st : List Value} {S : mm_H} {i : Fin 4} {v : Nat} {lv' : List (Nat × Value)} (hx : vv_C x cc own fr lo mL) (hd : decode cc pc = .ok (.astore_n i, 1)) (hi : i.val < mL) (ho : vv_ok lv = true) (hlv : vv_set lv i.val (.ref v) = lv') (k : vv_V x kc ks (pc + 1) lv' st S) : vv_V x kc ks pc lv ((.ref v) :: st) S := by
  obtain ⟨p, l, e, R, s, m, args, below, meth, c, D, dA, nL, A, Q⟩ := x
  subst hlv
  intro ws H locs cells slots ls hP hD hM hS hc hs hl
  exact lv_astore_n hx.1 hx.2.1 hd rfl hl (by rw [hx.2.2.2.2.2.2.2.2.2.2]; exact hi) rfl (fun ls' hl' => k ws H locs cells slots ls' hP hD hM hS hc hs (vv_store ho hl'))
theorem vv_astore {x : vv_X} {cc : ByteArray} {own : String} {fr lo mL kc ks pc : Nat} {lv : List (Nat × Value)} {st : List Value} {S : mm_H} {i : Nat} {v : Nat} {lv' : List (Nat × Value)} (hx : vv_C x cc own fr lo mL) (hd : decode cc pc = .ok (.astore i, 2)) (hi : i < mL) (ho : vv_ok lv = true) (hlv : vv_set lv i (.ref v) = lv') (k : vv_V x kc ks (pc + 2) lv' st S) : vv_V x kc ks pc lv ((.ref v) :: st) S := by
  obtain ⟨p, l, e, R, s, m, args, below, meth, c, D, dA, nL, A, Q⟩ := x
  subst hlv
  intro ws H locs cells slots ls hP hD hM hS hc hs hl
  exact lv_astore hx.1 hx.2.1 hd hl (by rw [hx.2.2.2.2.2.2.2.2.2.2]; exact hi) rfl (fun ls' hl' => k ws H locs cells slots ls' hP hD hM hS hc hs (vv_store ho hl'))
theorem vv_astore_nN {x : vv_X} {cc : ByteArray} {own : String} {fr lo mL kc ks pc : Nat} {lv : List (Nat × Value)} {st : List Value} {S : mm_H} {i : Fin 4} {lv' : List (Nat × Value)} (hx : vv_C x cc own fr lo mL) (hd : decode cc pc = .ok (.astore_n i, 1)) (hi : i.val < mL) (ho : vv_ok lv = true) (hlv : vv_set lv i.val .null = lv') (k : vv_V x kc ks (pc + 1) lv' st S) : vv_V x kc ks pc lv (.null :: st) S := by
  obtain ⟨p, l, e, R, s, m, args, below, meth, c, D, dA, nL, A, Q⟩ := x
  subst hlv
  intro ws H locs cells slots ls hP hD hM hS hc hs hl
  exact lv_astore_nN hx.1 hx.2.1 hd rfl hl (by rw [hx.2.2.2.2.2.2.2.2.2.2]; exact hi) rfl (fun ls' hl' => k ws H locs cells slots ls' hP hD hM hS hc hs (vv_store ho hl'))
theorem vv_astoreN {x : vv_X} {cc : ByteArray} {own : String} {fr lo mL kc ks pc : Nat} {lv : List (Nat × Value)} {st : List Value} {S : mm_H} {i : Nat} {lv' : List (Nat × Value)} (hx : vv_C x cc own fr lo mL) (hd : decode cc pc = .ok (.astore i, 2)) (hi : i < mL) (ho : vv_ok lv = true) (hlv : vv_set lv i .null = lv') (k : vv_V x kc ks (pc + 2) lv' st S) : vv_V x kc ks pc lv (.null :: st) S := by
  obtain ⟨p, l, e, R, s, m, args, below, meth, c, D, dA, nL, A, Q⟩ := x
  subst hlv
  intro ws H locs cells slots ls hP hD hM hS hc hs hl
  exact lv_astoreN hx.1 hx.2.1 hd hl (by rw [hx.2.2.2.2.2.2.2.2.2.2]; exact hi) rfl (fun ls' hl' => k ws H locs cells slots ls' hP hD hM hS hc hs (vv_store ho hl'))
theorem vv_iinc {x : vv_X} {cc : ByteArray} {own : String} {fr lo mL kc ks pc : Nat} {lv : List (Nat × Value)} {st : List Value} {S : mm_H} {i : Nat} {n : Int} {v u : Int32} {lv' : List (Nat × Value)} (hx : vv_C x cc own fr lo mL) (hd : decode cc pc = .ok (.iinc i n, 3)) (hg : vv_get lv i = some (.int v)) (hu : v + Int32.ofInt n = u) (hi : i < mL) (ho : vv_ok lv = true) (hlv : vv_set lv i (.int u) = lv') (k : vv_V x kc ks (pc + 3) lv' st S) : vv_V x kc ks pc lv st S := by
  obtain ⟨p, l, e, R, s, m, args, below, meth, c, D, dA, nL, A, Q⟩ := x
  subst hlv
  intro ws H locs cells slots ls hP hD hM hS hc hs hl
  obtain ⟨j, hj⟩ := List.getElem?_of_mem (vv_get_in hg)
  exact lv_iinc hx.1 hx.2.1 hd hl hj hu (by rw [hx.2.2.2.2.2.2.2.2.2.2]; exact hi) rfl (fun ls' hl' => k ws H locs cells slots ls' hP hD hM hS hc hs (vv_store ho hl'))
theorem vv_less {x : vv_X} {kc ks pc : Nat} {lv : List (Nat × Value)} {st : List Value} {S : mm_H} (lv' : List (Nat × Value)) (h : ∀ q ∈ lv', q ∈ lv) (k : vv_V x kc ks pc lv' st S) : vv_V x kc ks pc lv st S := by
  obtain ⟨p, l, e, R, s, m, args, below, meth, c, D, dA, nL, A, Q⟩ := x
  intro ws H locs cells slots ls hP hD hM hS hc hs hl
  exact k ws H locs cells slots ls hP hD hM hS hc hs ⟨hl.1, hl.2.1, fun q hq => hl.2.2 q (h q hq)⟩
theorem vv_room {x : vv_X} {kc ks kc' ks' pc : Nat} {lv : List (Nat × Value)} {st : List Value} {S : mm_H} (h1 : kc' ≤ kc) (h2 : ks' ≤ ks) (k : vv_V x kc' ks' pc lv st S) : vv_V x kc ks pc lv st S := by
  obtain ⟨p, l, e, R, s, m, args, below, meth, c, D, dA, nL, A, Q⟩ := x
  intro ws H locs cells slots ls hP hD hM hS hc hs hl
  exact k ws H locs cells slots ls hP hD hM hS (by omega) (by omega) hl
theorem vv_sub {x : vv_X} {kc ks pc : Nat} {lv lv' : List (Nat × Value)} {st : List Value} {S : mm_H} (is : List Nat) (h : lv_pick lv is = lv') (k : vv_V x kc ks pc lv' st S) : vv_V x kc ks pc lv st S := by
  obtain ⟨p, l, e, R, s, m, args, below, meth, c, D, dA, nL, A, Q⟩ := x
  intro ws H locs cells slots ls hP hD hM hS hc hs hl
  exact k ws H locs cells slots ls hP hD hM hS hc hs (lv_sub hl is h)
