/-! TWO MEMORIES BESIDE EACH OTHER: the system's and the reference's -/
def mj (S R : mm_H) : mm_H := (fun a => if mm_K S a = 0 then mm_K R a else mm_K S a, fun a k => if mm_K S a = 0 then mm_I R a k else mm_I S a k, fun a k => if mm_K S a = 0 then mm_P R a k else mm_P S a k, fun a => if mm_K S a = 0 then mm_L R a else mm_L S a)
def mdj (S R : mm_H) : Prop := ∀ a, mm_K S a = 0 ∨ mm_K R a = 0
theorem mj_K (S R : mm_H) (a : Nat) : mm_K (mj S R) a = if mm_K S a = 0 then mm_K R a else mm_K S a := rfl
theorem mj_I (S R : mm_H) (a k : Nat) : mm_I (mj S R) a k = if mm_K S a = 0 then mm_I R a k else mm_I S a k := rfl
theorem mj_P (S R : mm_H) (a k : Nat) : mm_P (mj S R) a k = if mm_K S a = 0 then mm_P R a k else mm_P S a k := rfl
theorem mj_L (S R : mm_H) (a : Nat) : mm_L (mj S R) a = if mm_K S a = 0 then mm_L R a else mm_L S a := rfl
theorem mdj.sy {S R : mm_H} (h : mdj S R) : mdj R S := fun a => (h a).symm
/-- the same cells -/
def meq (M N : mm_H) : Prop := ∀ a, mm_K M a = mm_K N a ∧ (mm_K M a ≠ 0 → (∀ k, mm_I M a k = mm_I N a k) ∧ (∀ k, mm_P M a k = mm_P N a k) ∧ mm_L M a = mm_L N a)
theorem meq.W {M N : mm_H} (h : meq M N) {dA : Nat → ClassId} {ws : va_W} (hM : mm_W dA M ws) : mm_W dA N ws := fun a e => by
  rw [hM a e]
  constructor
  · rintro ⟨h1, h2⟩
    obtain ⟨q1, q2⟩ := h a
    obtain ⟨q3, q4, q5⟩ := q2 h1
    exact ⟨by rw [← q1]; exact h1, by rw [h2]; exact mm_c_congr q1 q3 q4 q5⟩
  · rintro ⟨h1, h2⟩
    obtain ⟨q1, q2⟩ := h a
    have h3 : mm_K M a ≠ 0 := by rw [q1]; exact h1
    obtain ⟨q3, q4, q5⟩ := q2 h3
    exact ⟨h3, by rw [h2]; exact (mm_c_congr q1 q3 q4 q5).symm⟩
theorem vv_eqv {x : vv_X} {kc ks pc : Nat} {lv : List (Nat × Value)} {st : List Value} {M N : mm_H} (h : meq M N) (k : vv_V x kc ks pc lv st N) : vv_V x kc ks pc lv st M := by
  obtain ⟨p, l, e, R, s, m, args, below, meth, c, D, dA, nL, A, Q⟩ := x
  exact fun ws H locs cells slots ls hP hD hM => k ws H locs cells slots ls hP hD (h.W hM)
theorem mj_sy {S R : mm_H} (h : mdj S R) : meq (mj S R) (mj R S) := fun a => by
  rw [mj_K, mj_K]
  by_cases e : mm_K S a = 0
  · by_cases e2 : mm_K R a = 0
    · rw [if_pos e, if_pos e2, e, e2]
      exact ⟨rfl, fun q => absurd rfl q⟩
    · rw [if_pos e, if_neg e2]
      exact ⟨rfl, fun _ => ⟨fun k => by rw [mj_I, mj_I, if_pos e, if_neg e2], fun k => by rw [mj_P, mj_P, if_pos e, if_neg e2], by rw [mj_L, mj_L, if_pos e, if_neg e2]⟩⟩
  · have e2 : mm_K R a = 0 := by
      rcases h a with q | q
      · exact absurd q e
      · exact q
    rw [if_neg e, if_pos e2]
    exact ⟨rfl, fun _ => ⟨fun k => by rw [mj_I, mj_I, if_neg e, if_pos e2], fun k => by rw [mj_P, mj_P, if_neg e, if_pos e2], by rw [mj_L, mj_L, if_neg e, if_pos e2]⟩⟩
theorem mj_new {S R : mm_H} {q kd n : Nat} (hk : kd ≠ 0) : meq (mm_sN (mj S R) q kd n) (mj (mm_sN S q kd n) R) := fun a => by
  by_cases e : a = q
  · have e1 : mm_K (mm_sN S q kd n) a = kd := by rw [mm_K_sN, if_pos e]
    have n1 : ¬ mm_K (mm_sN S q kd n) a = 0 := by rw [e1]; exact hk
    refine ⟨by rw [mj_K, if_neg n1, mm_K_sN, mm_K_sN, if_pos e, if_pos e], fun _ => ⟨fun k => ?_, fun k => ?_, ?_⟩⟩
    · rw [mj_I, if_neg n1, mm_I_sN, mm_I_sN, if_pos e, if_pos e]
    · rw [mj_P, if_neg n1, mm_P_sN, mm_P_sN, if_pos e, if_pos e]
    · rw [mj_L, if_neg n1, mm_L_sN, mm_L_sN, if_pos e, if_pos e]
  · have e1 : mm_K (mm_sN S q kd n) a = mm_K S a := by rw [mm_K_sN, if_neg e]
    refine ⟨by rw [mj_K, e1, mm_K_sN, if_neg e, mj_K], fun _ => ⟨fun k => ?_, fun k => ?_, ?_⟩⟩
    · rw [mj_I, e1, mm_I_sN, if_neg e, mj_I, mm_I_sN, if_neg e]
    · rw [mj_P, e1, mm_P_sN, if_neg e, mj_P, mm_P_sN, if_neg e]
    · rw [mj_L, e1, mm_L_sN, if_neg e, mj_L, mm_L_sN, if_neg e]
theorem mdj.new {S R : mm_H} (h : mdj S R) {q kd n : Nat} (hq : mm_K (mj S R) q = 0) : mdj (mm_sN S q kd n) R := fun a => by
  by_cases e : a = q
  · right
    rw [e]
    rw [mj_K] at hq
    by_cases e2 : mm_K S q = 0
    · rw [if_pos e2] at hq; exact hq
    · rw [if_neg e2] at hq; exact absurd hq e2
  · rw [mm_K_sN, if_neg e]; exact h a
theorem va_D_filter {A : Nat → Prop} {ws : va_W} (hD : va_D A ws) (f : Nat × va_E → Bool) : va_D A (ws.filter f) := by
  have hp : ws.Pairwise (fun p q => p.1 ≠ q.1) := by
    rw [List.pairwise_iff_getElem]
    intro i j hi hj hij e
    have := hD.1 i j ws[i] ws[j] (List.getElem?_eq_getElem hi) (List.getElem?_eq_getElem hj) e
    omega
  have hf := hp.filter f
  rw [List.pairwise_iff_getElem] at hf
  refine ⟨fun i j p q hi hj e => ?_, fun k q hk => ?_⟩
  · obtain ⟨hi1, hi2⟩ := List.getElem?_eq_some_iff.mp hi
    obtain ⟨hj1, hj2⟩ := List.getElem?_eq_some_iff.mp hj
    rcases Nat.lt_trichotomy i j with h | h | h
    · exact absurd e (by rw [← hi2, ← hj2]; exact hf i j hi1 hj1 h)
    · exact h
    · exact absurd e.symm (by rw [← hi2, ← hj2]; exact hf j i hj1 hi1 h)
  · obtain ⟨k', hk'⟩ := List.getElem?_of_mem (List.mem_filter.mp (List.mem_of_getElem? hk)).1
    exact hD.2 k' q hk'
theorem va_P_filter {D : va_G} {cl : List vw_C} {ws : va_W} {H : Heap} (hP : va_P D cl ws H) (f : Nat × va_E → Bool) : va_P D cl (ws.filter f) H := fun k q hk => by
  obtain ⟨k', hk'⟩ := List.getElem?_of_mem (List.mem_filter.mp (List.mem_of_getElem? hk)).1
  exact hP k' q hk'
theorem mj_split {dA : Nat → ClassId} {D : va_G} {A : Nat → Prop} {S R : mm_H} {ws : va_W} {H : Heap} (hdj : mdj S R) (hP : va_P D vwCl ws H) (hD : va_D A ws) (hM : mm_W dA (mj S R) ws) : ∃ wc wr : va_W, va_P D vwCl wc H ∧ va_P D vwCl wr H ∧ va_D A wc ∧ va_D A wr ∧ mm_W dA S wc ∧ mm_W dA R wr := by
  refine ⟨ws.filter (fun q => decide (mm_K S q.1 ≠ 0)), ws.filter (fun q => decide (mm_K R q.1 ≠ 0)), va_P_filter hP _, va_P_filter hP _, va_D_filter hD _, va_D_filter hD _, fun a e => ?_, fun a e => ?_⟩
  · rw [List.mem_filter, hM a e, decide_eq_true_eq]
    constructor
    · rintro ⟨⟨h1, h2⟩, h3⟩
      exact ⟨h3, by rw [h2]; exact mm_c_congr (by rw [mj_K, if_neg h3]) (fun k => by rw [mj_I, if_neg h3]) (fun k => by rw [mj_P, if_neg h3]) (by rw [mj_L, if_neg h3])⟩
    · rintro ⟨h3, h2⟩
      exact ⟨⟨by rw [mj_K, if_neg h3]; exact h3, by rw [h2]; exact (mm_c_congr (by rw [mj_K, if_neg h3]) (fun k => by rw [mj_I, if_neg h3]) (fun k => by rw [mj_P, if_neg h3]) (by rw [mj_L, if_neg h3])).symm⟩, h3⟩
  · rw [List.mem_filter, hM a e, decide_eq_true_eq]
    have hz : mm_K R a ≠ 0 → mm_K S a = 0 := fun h => by
      rcases hdj a with q | q
      · exact q
      · exact absurd q h
    constructor
    · rintro ⟨⟨h1, h2⟩, h3⟩
      have h4 := hz h3
      exact ⟨h3, by rw [h2]; exact mm_c_congr (by rw [mj_K, if_pos h4]) (fun k => by rw [mj_I, if_pos h4]) (fun k => by rw [mj_P, if_pos h4]) (by rw [mj_L, if_pos h4])⟩
    · rintro ⟨h3, h2⟩
      have h4 := hz h3
      exact ⟨⟨by rw [mj_K, if_pos h4]; exact h3, by rw [h2]; exact (mm_c_congr (by rw [mj_K, if_pos h4]) (fun k => by rw [mj_I, if_pos h4]) (fun k => by rw [mj_P, if_pos h4]) (by rw [mj_L, if_pos h4])).symm⟩, h3⟩
theorem mj_glue {dA : Nat → ClassId} {D : va_G} {A : Nat → Prop} {S S' R : mm_H} {wc wr ws' : va_W} {H H1 : Heap} (hdj : mdj S R) (hF : ∀ q, va_A wc H.size q → A q) (hPr : va_P D vwCl wr H) (hDr : va_D A wr) (hMc : mm_W dA S wc) (hMr : mm_W dA R wr) (hP1 : va_P D vwCl ws' H1) (hD1 : va_D (va_A wc H.size) ws') (hm : mm_W dA S' ws') (hk : ∀ q, q < H.size → ¬ va_A wc H.size q → H1[q]? = H[q]?) : mdj S' R ∧ va_P D vwCl (ws' ++ wr) H1 ∧ va_D A (ws' ++ wr) ∧ mm_W dA (mj S' R) (ws' ++ wr) := by
  have out : ∀ (k : Nat) (q : Nat × va_E), wr[k]? = some q → q.1 < H.size ∧ ¬ va_A wc H.size q.1 := fun k q hq => by
    have hlt := (hPr k q hq).lt
    refine ⟨hlt, fun h => ?_⟩
    rcases h with ⟨k', e, h⟩ | h
    · have h1 := ((hMc q.1 e).mp (List.mem_of_getElem? h)).1
      have h2 := ((hMr q.1 q.2).mp (List.mem_of_getElem? hq)).1
      rcases hdj q.1 with z | z
      · exact h1 z
      · exact h2 z
    · omega
  have hd : mdj S' R := fun a => by
    by_cases e1 : mm_K S' a = 0
    · exact Or.inl e1
    · by_cases e2 : mm_K R a = 0
      · exact Or.inr e2
      · exfalso
        obtain ⟨k1, h1⟩ := hm.at e1
        obtain ⟨k2, h2⟩ := hMr.at e2
        have h3 : va_A wc H.size a := hD1.2 k1 _ h1
        exact (out k2 _ h2).2 h3
  refine ⟨hd, hP1.app (hPr.kept (fun k q hq => hk q.1 (out k q hq).1 (out k q hq).2)), (hD1.weaken (fun _ _ _ h => hF _ h)).app hDr (fun i j p q hi hj e => (out j q hj).2 (by rw [← e]; exact hD1.2 i p hi)), fun a e => ?_⟩
  rw [List.mem_append, hm a e, hMr a e]
  constructor
  · rintro (⟨h1, h2⟩ | ⟨h1, h2⟩)
    · exact ⟨by rw [mj_K, if_neg h1]; exact h1, by rw [h2]; exact (mm_c_congr (by rw [mj_K, if_neg h1]) (fun k => by rw [mj_I, if_neg h1]) (fun k => by rw [mj_P, if_neg h1]) (by rw [mj_L, if_neg h1])).symm⟩
    · have h4 : mm_K S' a = 0 := by
        rcases hd a with z | z
        · exact z
        · exact absurd z h1
      exact ⟨by rw [mj_K, if_pos h4]; exact h1, by rw [h2]; exact (mm_c_congr (by rw [mj_K, if_pos h4]) (fun k => by rw [mj_I, if_pos h4]) (fun k => by rw [mj_P, if_pos h4]) (by rw [mj_L, if_pos h4])).symm⟩
  · rintro ⟨h1, h2⟩
    by_cases h4 : mm_K S' a = 0
    · rw [mj_K, if_pos h4] at h1
      exact Or.inr ⟨h1, by rw [h2]; exact mm_c_congr (by rw [mj_K, if_pos h4]) (fun k => by rw [mj_I, if_pos h4]) (fun k => by rw [mj_P, if_pos h4]) (by rw [mj_L, if_pos h4])⟩
    · exact Or.inl ⟨h4, by rw [h2]; exact mm_c_congr (by rw [mj_K, if_neg h4]) (fun k => by rw [mj_I, if_neg h4]) (fun k => by rw [mj_P, if_neg h4]) (by rw [mj_L, if_neg h4])⟩
section USE2
variable {p : Program} {l : Launch} {e : Env} {R : Room} {s : State} {m : MethodId} {args : Array Value} {below : List Frame} {meth : Method} {c : Code} {H : Heap} {locs : List Loc} {cells slots : Nat} {Q : State → Prop}
theorem vv_use2 {pc : Nat} {ls : Array Slot} {rest st0 : List Value} {a : Array Value} {A0 A1 : Nat → Prop} {H0 : Heap} {mc ms : Nat} {free : Addr → Prop} {post : Option Value → mm_H → Prop} {D : va_G} {dA : Nat → ClassId} (hr : va_Run p l e R s m args below meth c H locs cells slots mc ms (F0 m pc ls st0) rest (vv_Q post D dA A1 a) free) (hS : va_S A0 H0 H locs) (hA : ∀ q, A1 q → A0 q) (hf : ∀ q, free q → A0 q)
    (kk : ∀ (v : Option Value) (S' : mm_H) (ws' : va_W) (H1 : Heap) (locs1 : List Loc), post v S' → mm_W dA S' ws' → va_P D vwCl ws' H1 → va_D A1 ws' → va_S A0 H0 H1 locs1 → (∀ q, q < H.size → ¬ A1 q → H1[q]? = H[q]?) → W p l e R s m args below meth c H1 locs1 (cells + mc) (slots + ms) Q (F0 m (pc + 3) ls (v.toList ++ rest))) : W p l e R s m args below meth c H locs cells slots Q (F0 m pc ls st0) := by
  intro T hT X
  obtain ⟨v, st₀, t, T', L, h0, X', hL, e1, e2, ⟨⟨v', S', ws', hv, hp, hm, hP1, hD1⟩, hz, hk⟩, st⟩ := hr T hT X
  cases hv
  rw [h0] at hz hk
  obtain ⟨t2, a1, b1⟩ := kk v S' ws' T'.heap (locs ++ L) hp hm (by rw [e1]; exact hP1) hD1
    ⟨Nat.le_trans hS.1 (by rw [e1]; exact hz), fun q h1 h2 => by rw [e1, hk q (Nat.lt_of_lt_of_le h1 hS.1) (fun z => h2 (hA q z))]; exact hS.2.1 q h1 h2, fun q hq => by
      rcases List.mem_append.mp hq with h | h
      · exact hS.2.2 q h
      · exact hf _ (hL q h)⟩ (fun q h1 h2 => by rw [e1]; exact hk q h1 h2) T' rfl X'
  exact ⟨t2, st t2 a1, b1⟩
end USE2
theorem ff_callV {x : vv_X} {cc : ByteArray} {own : String} {fr lo mL kc ks pc : Nat} {lv : List (Nat × Value)} {st : List Value} {S O : mm_H} {y : MethodName} {cy : ByteArray} {maxL index n kc' ks' fr' lo' mc ms : Nat} {As rest : List Value} {post : Option Value → mm_H → Prop} {ret : Option FieldType} {b : Nat} {ci : Nat} {C : String} {T : u_T} {N : Nat} {ty : Nat → FieldType} (hx : vv_C x cc own fr lo mL) (hd : decode cc pc = .ok (.invokevirtual index, 3)) (hl : Cond.methodLink own index y ∈ lw_tbl) (hq : cal_ok y cy maxL ret n) (h1 : Cond.instanceMethod y ∈ lw_tbl) (h2 : Cond.selects C y y ∈ lw_tbl) (hk : cls_ok ci C T N ty) (hb : mm_K S b = ci + 1) (hM' : MA y cy maxL ret fr' lo' mc ms (.ref b :: As) S post) (hdj : mdj S O) (hst : st = As.reverse ++ .ref b :: rest) (hn : As.length = n) (hr : (rest.map fun v => v.category).sum ≤ 8) (hfr : fr' + 1 ≤ fr) (hlo : 8 + (maxL + 11) + lo' ≤ lo) (hkc : kc = kc' + mc) (hks : ks = ks' + ms) (k : ∀ v S', post v S' → mdj S' O → vv_V x kc' ks' (pc + 3) lv (v.toList ++ rest) (mj S' O)) : vv_V x kc ks pc lv st (mj S O) := by
  obtain ⟨p, l, e, R, s, m, args, below, meth, c, D, dA, nL, A, Q⟩ := x
  intro ws H locs cells slots ls hP0 hD0 hM0 hS hc hs hl'
  subst hst; subst hkc; subst hks
  obtain ⟨wc, wr, hP, hPr, hD, hDr, hM, hMr⟩ := mj_split hdj hP0 hD0 hM0
  have hT := hx.2.2.2.2.1
  obtain ⟨q0, he⟩ := hM.at (a := b) (by rw [hb]; omega)
  rw [mm_c_o hb hk.2.1] at he
  have hF := vv_freeA hD hS hx.2.2.2.2.2.2.1
  refine vv_use2 (D := D) (dA := dA) (post := post) (va_runV (C := C) (As := As) (rest := rest) ⟨hx.1, hx.2.1, hx.2.2.1, hx.2.2.2.1, fun w (hw : w ∈ ([] : List Cond)) => absurd hw List.not_mem_nil⟩ (hM' l D dA wc H.size hM) ⟨⟨rfl, rfl, by rw [hx.2.2.2.2.2.2.2.1]; exact hfr, by rw [hx.2.2.2.2.2.2.2.2.1]; exact hlo, (fun w hw a' U hW => by rw [List.mem_singleton.mp hw]; exact (hT.warm hW).use hq.1 rfl), List.mem_singleton.mpr rfl, hT.use hq.1 rfl, hT.use hq.2.1 rfl, ⟨hq.2.2.1, hq.2.2.2.1⟩, vv_len hq.2.2.2.2, hT.use hl rfl⟩, hT.use h1 rfl, hT.use h2 rfl⟩ ⟨vv_blind, va_recv hx.2.2.2.2.2.1 hP hk.1 he, fun U hU hW => ⟨rfl, by rw [hU], by rw [hU]; exact hP, va_K.moved hW.alike hx.2.2.2.2.2.1, hD.weaken (fun _ _ _ _ => trivial), hT.warm hW⟩⟩ rfl hn hl'.1 rfl (lv_room hr) hd ⟨by omega, by omega⟩) hS hF hF (fun v S' ws' H1 locs1 hp hm hP1 hD1 hS1 hk1 => ?_)
  obtain ⟨g1, g2, g3, g4⟩ := mj_glue hdj hF hPr hDr hM hMr hP1 hD1 hm hk1
  exact k v S' hp g1 (ws' ++ wr) H1 locs1 (cells + mc) (slots + ms) ls g2 g3 g4 hS1 (by omega) (by omega) hl'
theorem ff_callI {x : vv_X} {cc : ByteArray} {own : String} {fr lo mL kc ks pc : Nat} {lv : List (Nat × Value)} {st : List Value} {S O : mm_H} {y : MethodName} {cy : ByteArray} {maxL index n kc' ks' fr' lo' mc ms : Nat} {As rest : List Value} {post : Option Value → mm_H → Prop} {b : Nat} (hx : vv_C x cc own fr lo mL) (hd : decode cc pc = .ok (.invokespecial index, 3)) (hl : Cond.methodLink own index y ∈ lw_tbl) (hq : cal_ok y cy maxL none n) (hin : y.name = "<init>") (h1 : Cond.instanceMethod y ∈ lw_tbl) (hM' : MA y cy maxL none fr' lo' mc ms (.ref b :: As) S post) (hdj : mdj S O) (hst : st = As.reverse ++ .ref b :: rest) (hn : As.length = n) (hr : (rest.map fun v => v.category).sum ≤ 8) (hfr : fr' + 1 ≤ fr) (hlo : 8 + (maxL + 11) + lo' ≤ lo) (hkc : kc = kc' + mc) (hks : ks = ks' + ms) (k : ∀ v S', post v S' → mdj S' O → vv_V x kc' ks' (pc + 3) lv (v.toList ++ rest) (mj S' O)) : vv_V x kc ks pc lv st (mj S O) := by
  obtain ⟨p, l, e, R, s, m, args, below, meth, c, D, dA, nL, A, Q⟩ := x
  intro ws H locs cells slots ls hP0 hD0 hM0 hS hc hs hl'
  subst hst; subst hkc; subst hks
  obtain ⟨wc, wr, hP, hPr, hD, hDr, hM, hMr⟩ := mj_split hdj hP0 hD0 hM0
  have hT := hx.2.2.2.2.1
  have hF := vv_freeA hD hS hx.2.2.2.2.2.2.1
  refine vv_use2 (D := D) (dA := dA) (post := post) (va_runI (As := As) (rest := rest) ⟨hx.1, hx.2.1, hx.2.2.1, hx.2.2.2.1, fun w (hw : w ∈ ([] : List Cond)) => absurd hw List.not_mem_nil⟩ (hM' l D dA wc H.size hM) ⟨⟨rfl, rfl, by rw [hx.2.2.2.2.2.2.2.1]; exact hfr, by rw [hx.2.2.2.2.2.2.2.2.1]; exact hlo, (fun w hw a' U hW => by rw [List.mem_singleton.mp hw]; exact (hT.warm hW).use hq.1 rfl), List.mem_singleton.mpr rfl, hT.use hq.1 rfl, hT.use hq.2.1 rfl, ⟨hq.2.2.1, hq.2.2.2.1⟩, vv_len hq.2.2.2.2, hT.use hl rfl⟩, hin, hT.use h1 rfl⟩ ⟨vv_blind, fun U hU hW => ⟨rfl, by rw [hU], by rw [hU]; exact hP, va_K.moved hW.alike hx.2.2.2.2.2.1, hD.weaken (fun _ _ _ _ => trivial), hT.warm hW⟩⟩ rfl hn hl'.1 rfl (lv_room hr) hd ⟨by omega, by omega⟩) hS hF hF (fun v S' ws' H1 locs1 hp hm hP1 hD1 hS1 hk1 => ?_)
  obtain ⟨g1, g2, g3, g4⟩ := mj_glue hdj hF hPr hDr hM hMr hP1 hD1 hm hk1
  exact k v S' hp g1 (ws' ++ wr) H1 locs1 (cells + mc) (slots + ms) ls g2 g3 g4 hS1 (by omega) (by omega) hl'
