/-! merging, and the view that is added -/
def fqN (ch : Nat → Nat) (ws : Nat → Nat → Nat) (t : Nat) : Nat := cntN (ilB (ws t) ch) 16 + cntN (ilB (ws (t + 1)) ch) 16
theorem sgN.vs {S T U : mm_H} {g a k rw : Nat} {w : Nat → Nat} (h : sgN S T g a k w) (hO : vsO T U rw) (hg : g ≠ rw) : sgN S U g a k w := by
  obtain ⟨h1, h2, h3, h4, h5, c, h6, h7, h8, h9, h10⟩ := h
  exact ⟨h1, (hO.1 g).trans h2, (hO.2.1 g 0).trans h3, (hO.2.1 g 2).trans h4, (hO.2.1 g 3).trans h5, c, (hO.2.2.2 g 1 hg).trans h6, h7, (hO.1 c).trans h8, (hO.2.2.1 c).trans h9, fun j hj => (hO.2.1 c j).trans (h10 j hj)⟩
theorem UQ.vs {T U : mm_H} {rw : Nat} (h : UQ T) (hO : vsO T U rw) (h1 : mm_K T rw ≠ 1) (h2 : mm_K T rw ≠ 2) : UQ U := by
  obtain ⟨p1, p2, p3, p4⟩ := hO
  have na : ∀ a, (mm_K T a = 1 ∨ mm_K T a = 2) → a ≠ rw := fun a q e => by rw [e] at q; omega
  refine ⟨fun a b i j c q1 q2 q3 q4 q5 => ?_, fun a i c q1 q3 => ?_⟩
  · rw [p1] at q1 q2 q5
    rw [p4 a i (na a q1)] at q3
    rw [p4 b j (na b q2)] at q4
    exact h.1 a b i j c q1 q2 q3 q4 q5
  · rw [p1] at q1 ⊢
    rw [p4 a i (na a q1)] at q3
    exact h.2 a i c q1 q3
theorem gR.vs {S T U : mm_H} {o rw a b : Nat} (h : gR S T o o a b) (hO : vsO T U rw) (hr : mm_K T rw = 7) : gR S U o rw a b := by
  have hw := h.wid rw
  obtain ⟨h1, h2, h3, h4, h5, h6, h7⟩ := hw
  have no : o ≠ rw := fun e => by rw [e] at h2; omega
  exact ⟨(h1.trans hO.fr).mono (fun x _ e => by rcases e with e | e; exact e; exact Or.inr e), (hO.1 o).trans h2, fun k => (hO.2.2.2 o k no).trans (h3 k), fun k q6 q7 => (hO.2.1 o k).trans (h4 k q6 q7), (hO.2.1 o 6).trans h5, (hO.2.1 o 7).trans h6, h7.vs hO (by omega) (by omega)⟩
theorem gR.frF {S T U : mm_H} {o q a b : Nat} (h : gR S T o q a b) (hF : Fr T U (fun _ => False)) (hU : UQ U) : gR S U o q a b := by
  obtain ⟨h1, h2, h3, h4, h5, h6, h7⟩ := h
  obtain ⟨o1, o2, o3, o4⟩ := hF o (by omega) (fun e => e)
  exact ⟨(h1.trans hF).mono (fun x _ e => by rcases e with e | e; exact e; exact e.elim), o1.trans h2, fun k => (o3 k).trans (h3 k), fun k q6 q7 => (o2 k).trans (h4 k q6 q7), (o2 6).trans h5, (o2 7).trans h6, hU⟩
/-- a new state -/
theorem nst {T T2 : mm_H} {st q1 q2 : Nat} (hU : UQ T) (hst : mm_K T st = 0) (h1 : mm_K (mm_sN T st 2 0) q1 = 0) (h2 : mm_K (mm_sN (mm_sN T st 2 0) q1 6 16) q2 = 0) (hT : T2 = mm_sP (mm_sN (mm_sP (mm_sN (mm_sI (mm_sN T st 2 0) st 0 (nI 0)) q1 6 16) st 1 (some q1)) q2 6 16) st 2 (some q2)) :
    UQ T2 ∧ Fr T T2 (fun _ => False) ∧ mm_K T2 st = 2 ∧ mm_I T2 st 0 = nI 0 ∧ mm_P T2 st 1 = some q1 ∧ mm_P T2 st 2 = some q2 ∧ mm_K T2 q1 = 6 ∧ mm_L T2 q1 = 16 ∧ mm_K T2 q2 = 6 ∧ mm_L T2 q2 = 16 ∧ mm_K T q1 = 0 ∧ mm_K T q2 = 0 ∧ (∀ j, mm_I T2 q1 j = 0) ∧ (∀ j, mm_I T2 q2 j = 0) := by
  have s1 : st ≠ q1 := fun e => by rw [mm_K_sN, if_pos e.symm] at h1; omega
  have k1 : mm_K T q1 = 0 := by rw [mm_K_sN, if_neg (Ne.symm s1)] at h1; exact h1
  have q12 : q2 ≠ q1 := fun e => by rw [mm_K_sN, if_pos e] at h2; omega
  have s2 : st ≠ q2 := fun e => by rw [mm_K_sN, if_neg q12, mm_K_sN, if_pos e.symm] at h2; omega
  have k2 : mm_K T q2 = 0 := by rw [mm_K_sN, if_neg q12, mm_K_sN, if_neg (Ne.symm s2)] at h2; exact h2
  have hU1 : UQ (mm_sI (mm_sN T st 2 0) st 0 (nI 0)) := hU.sN hst 2 0
  have hU2 : UQ (mm_sP (mm_sN (mm_sI (mm_sN T st 2 0) st 0 (nI 0)) q1 6 16) st 1 (some q1)) := hU1.arr h1 16
  have hU3 : UQ T2 := by rw [hT]; exact hU2.arr h2 16
  have hF := (((((Fr.sN T 2 0 hst).trans (Fr.sI _ st 0 (nI 0))).trans (Fr.sN (mm_sI (mm_sN T st 2 0) st 0 (nI 0)) 6 16 h1)).trans (Fr.sP _ st 1 (some q1))).trans (Fr.sN (mm_sP (mm_sN (mm_sI (mm_sN T st 2 0) st 0 (nI 0)) q1 6 16) st 1 (some q1)) 6 16 h2)).trans (Fr.sP _ st 2 (some q2))
  rw [← hT] at hF
  refine ⟨hU3, hF.mono (fun x hx e => ?_), ?_, ?_, ?_, ?_, ?_, ?_, ?_, ?_, k1, k2, fun j => ?_, fun j => ?_⟩
  · have ng : x ≠ st := fun e => hx (by rw [e]; exact hst)
    rcases e with ((((e | e) | e) | e) | e) | e
    · exact e
    · exact ng e
    · exact e
    · exact ng e
    · exact e
    · exact ng e
  all_goals subst hT
  · rw [mm_K_sP, mm_K_sN, if_neg s2, mm_K_sP, mm_K_sN, if_neg s1, mm_K_sI, mm_K_sN, if_pos rfl]
  · rw [mm_I_sP, mm_I_sN, if_neg s2, mm_I_sP, mm_I_sN, if_neg s1, mm_I_s]
  · rw [mm_P_sP, if_neg (fun e => by omega), mm_P_sN, if_neg s2, mm_P_sP, if_pos ⟨rfl, rfl⟩]
  · rw [mm_P_sP, if_pos ⟨rfl, rfl⟩]
  · rw [mm_K_sP, mm_K_sN, if_neg (Ne.symm q12), mm_K_sP, mm_K_sN, if_pos rfl]
  · rw [mm_L_sP, mm_L_sN, if_neg (Ne.symm q12), mm_L_sP, mm_L_sN, if_pos rfl]
  · rw [mm_K_sP, mm_K_sN, if_pos rfl]
  · rw [mm_L_sP, mm_L_sN, if_pos rfl]
  · rw [mm_I_sP, mm_I_sN, if_neg (Ne.symm q12), mm_I_sP, mm_I_sN, if_pos rfl]
  · rw [mm_I_sP, mm_I_sN, if_pos rfl]
/-- a state that is new, and what it is filled with -/
def nsF (T T3 : mm_H) (st n : Nat) (ch wd : Nat → Nat) : Prop := mm_K T st = 0 ∧ Fr T T3 (fun _ => False) ∧ stA T3 st n ch wd ∧ UQ T3
theorem nst.cp {T T2 T3 : mm_H} {st q1 q2 nw nc nd n : Nat} {ch wd : Nat → Nat} (hU2 : UQ T2) (hst : mm_K T st = 0) (hF : Fr T T2 (fun _ => False)) (K : mm_K T2 st = 2) (P1 : mm_P T2 st 1 = some q1) (P2 : mm_P T2 st 2 = some q2) (K1 : mm_K T2 q1 = 6) (L1 : mm_L T2 q1 = 16) (K2 : mm_K T2 q2 = 6) (L2 : mm_L T2 q2 = 16) (k1 : mm_K T q1 = 0) (k2 : mm_K T q2 = 0) (hnw : stA T2 nw n ch wd) (hnK : mm_K T nw = 2) (n1 : mm_P T2 nw 1 = some nc) (n2 : mm_P T2 nw 2 = some nd) {S1 : mm_H} (h1 : S1 = mm_sR (mm_sI T2 st 0 (nI n)) q1 (fun j => if j < 16 then mm_I (mm_sI T2 st 0 (nI n)) nc j else mm_I (mm_sI T2 st 0 (nI n)) q1 j)) (h2 : T3 = mm_sR S1 q2 (fun j => if j < 16 then mm_I S1 nd j else mm_I S1 q2 j)) : nsF T T3 st n ch wd := by
  have ne : st ≠ nw := fun e => by rw [e] at hst; omega
  obtain ⟨c1, c2, c3, c4⟩ := stA.cp hU2 hnw ne K P1 P2 n1 n2 K1 L1 K2 L2 h1 h2
  refine ⟨hst, (hF.trans c2).mono (fun x hx e => ?_), c1, ?_⟩
  · rcases e with e | ((e | e) | e)
    · exact e
    · exact hx (by rw [e]; exact hst)
    · exact hx (by rw [e]; exact k1)
    · exact hx (by rw [e]; exact k2)
  · refine ⟨fun a b i j d q1 q3 q4 q5 q6 => ?_, fun a i d q1 q4 => ?_⟩
    · rw [c3] at q1 q3 q6
      rw [c4] at q4 q5
      exact hU2.1 a b i j d q1 q3 q4 q5 q6
    · rw [c3] at q1 ⊢
      rw [c4] at q4
      exact hU2.2 a i d q1 q4
/-- the view that is added -/
def avP (T T' : mm_H) (o vs f vm st v n : Nat) (ch wd : Nat → Nat) : Prop := mm_K T st = 0 ∧ mm_K T v = 0 ∧ Fr T T' (fun x => x = o ∨ x = vs) ∧ mm_K T' o = 4 ∧ (∀ k, k ≠ 4 → mm_P T' o k = mm_P T o k) ∧ mm_P T' o 4 = some v ∧ (∀ k, k ≠ 3 → mm_I T' o k = mm_I T o k) ∧ mm_I T' o 3 = nI (vm + 1) ∧ mm_K T' vs = 8 ∧ mm_L T' vs = 150 ∧ (∀ k, k ≠ vm → mm_P T' vs k = mm_P T vs k) ∧ mm_P T' vs vm = some v ∧ mm_K T' v = 3 ∧ mm_I T' v 0 = nI vm ∧ mm_I T' v 3 = nI 0 ∧ mm_P T' v 1 = some st ∧ mm_P T' v 2 = some f ∧ stA T' st n ch wd ∧ UQ T'
theorem avP.mk {T T3 T' : mm_H} {o vs f vm st v n : Nat} {ch wd : Nat → Nat} (hN : nsF T T3 st n ch wd) (hoK : mm_K T o = 4) (hvK : mm_K T vs = 8) (hvL : mm_L T vs = 150) (hv : mm_K T3 v = 0) (hT : T' = mm_sI (mm_sP (mm_sP (mm_sP (mm_sP (mm_sI (mm_sI (mm_sN T3 v 3 0) v 3 (nI 0)) v 0 (nI vm)) v 1 (some st)) v 2 (some f)) o 4 (some v)) vs vm (some v)) o 3 (nI (vm + 1))) : avP T T' o vs f vm st v n ch wd := by
  obtain ⟨n1, n2, n3, n4⟩ := hN
  obtain ⟨o1, o2, o3, o4⟩ := n2 o (by omega) (fun e => e)
  obtain ⟨v1, v2, v3, v4⟩ := n2 vs (by omega) (fun e => e)
  have vo : v ≠ o := fun e => by rw [e] at hv; omega
  have vvs : v ≠ vs := fun e => by rw [e] at hv; omega
  have ovs : o ≠ vs := fun e => by rw [e] at hoK; omega
  have vT : mm_K T v = 0 := by
    by_cases e : mm_K T v = 0
    · exact e
    · have := (n2 v e (fun e => e)).1; omega
  have K9 : ∀ x, x ≠ v → mm_K T' x = mm_K T3 x := fun x hx => by
    subst hT
    show mm_K (mm_sN T3 v 3 0) x = _
    rw [mm_K_sN, if_neg hx]
  have hF := (((((((Fr.sN T3 3 0 hv).trans (Fr.sI _ v 3 (nI 0))).trans (Fr.sI _ v 0 (nI vm))).trans (Fr.sP _ v 1 (some st))).trans (Fr.sP _ v 2 (some f))).trans (Fr.sP _ o 4 (some v))).trans (Fr.sP _ vs vm (some v))).trans (Fr.sI _ o 3 (nI (vm + 1)))
  rw [← hT] at hF
  have hF2 : Fr T3 T' (fun x => x = o ∨ x = vs) := hF.mono (fun x hx e => by
    have ng : x ≠ v := fun e => hx (by rw [e]; exact hv)
    rcases e with ((((((e | e) | e) | e) | e) | e) | e) | e
    · exact e.elim
    · exact absurd e ng
    · exact absurd e ng
    · exact absurd e ng
    · exact absurd e ng
    · exact Or.inl e
    · exact Or.inr e
    · exact Or.inl e)
  have ne : ∀ x, mm_K T3 x ≠ 4 → mm_K T3 x ≠ 8 → ¬ (x = o ∨ x = vs) := fun x q4 q8 e => by
    rcases e with e | e
    · exact q4 (by rw [e, o1]; exact hoK)
    · exact q8 (by rw [e, v1]; exact hvK)
  have hU : UQ T' := by
    have u1 : UQ (mm_sI (mm_sI (mm_sN T3 v 3 0) v 3 (nI 0)) v 0 (nI vm)) := n4.sN hv 3 0
    have kv : mm_K (mm_sN T3 v 3 0) v = 3 := by rw [mm_K_sN, if_pos rfl]
    have ko : mm_K (mm_sN T3 v 3 0) o = 4 := by rw [mm_K_sN, if_neg (Ne.symm vo), o1]; exact hoK
    have kvs : mm_K (mm_sN T3 v 3 0) vs = 8 := by rw [mm_K_sN, if_neg (Ne.symm vvs), v1]; exact hvK
    have u2 := u1.sPo (a := v) (k := 1) (v := some st) (by show mm_K (mm_sN T3 v 3 0) v ≠ 1; omega) (by show mm_K (mm_sN T3 v 3 0) v ≠ 2; omega)
    have u3 := u2.sPo (a := v) (k := 2) (v := some f) (by show mm_K (mm_sN T3 v 3 0) v ≠ 1; omega) (by show mm_K (mm_sN T3 v 3 0) v ≠ 2; omega)
    have u4 := u3.sPo (a := o) (k := 4) (v := some v) (by show mm_K (mm_sN T3 v 3 0) o ≠ 1; omega) (by show mm_K (mm_sN T3 v 3 0) o ≠ 2; omega)
    have u5 := u4.sPo (a := vs) (k := vm) (v := some v) (by show mm_K (mm_sN T3 v 3 0) vs ≠ 1; omega) (by show mm_K (mm_sN T3 v 3 0) vs ≠ 2; omega)
    rw [hT]
    exact u5
  refine ⟨n1, vT, (n2.trans hF2).mono (fun x _ e => by rcases e with e | e; exact e.elim; exact e), by rw [K9 o (Ne.symm vo), o1]; exact hoK, fun k hk => ?_, ?_, fun k hk => ?_, ?_, by rw [K9 vs (Ne.symm vvs), v1]; exact hvK, ?_, fun k hk => ?_, ?_, ?_, ?_, ?_, ?_, ?_, n3.fr hF2 (ne _ (by have := n3.1; omega) (by have := n3.1; omega)) (fun i c _ h6 => ne c (by omega) (by omega)), hU⟩
  all_goals subst hT
  · rw [mm_P_sI, mm_P_sP, if_neg (fun e => ovs e.1), mm_P_sP, if_neg (fun e => hk e.2), mm_P_sP, if_neg (fun e => vo e.1.symm), mm_P_sP, if_neg (fun e => vo e.1.symm), mm_P_sI, mm_P_sI, mm_P_sN, if_neg (Ne.symm vo)]; exact o3 k
  · rw [mm_P_sI, mm_P_sP, if_neg (fun e => ovs e.1), mm_P_sP, if_pos ⟨rfl, rfl⟩]
  · rw [mm_I_k hk, mm_I_sP, mm_I_sP, mm_I_sP, mm_I_sP, mm_I_a (Ne.symm vo), mm_I_a (Ne.symm vo), mm_I_sN, if_neg (Ne.symm vo)]; exact o2 k
  · rw [mm_I_s]
  · show mm_L (mm_sN T3 v 3 0) vs = 150
    rw [mm_L_sN, if_neg (Ne.symm vvs), v4]; exact hvL
  · rw [mm_P_sI, mm_P_sP, if_neg (fun e => hk e.2), mm_P_sP, if_neg (fun e => ovs e.1.symm), mm_P_sP, if_neg (fun e => vvs e.1.symm), mm_P_sP, if_neg (fun e => vvs e.1.symm), mm_P_sI, mm_P_sI, mm_P_sN, if_neg (Ne.symm vvs)]; exact v3 k
  · rw [mm_P_sI, mm_P_sP, if_pos ⟨rfl, rfl⟩]
  · show mm_K (mm_sN T3 v 3 0) v = 3
    rw [mm_K_sN, if_pos rfl]
  · rw [mm_I_a vo, mm_I_sP, mm_I_sP, mm_I_sP, mm_I_sP, mm_I_s]
  · rw [mm_I_a vo, mm_I_sP, mm_I_sP, mm_I_sP, mm_I_sP, mm_I_k (by decide), mm_I_s]
  · rw [mm_P_sI, mm_P_sP, if_neg (fun e => vvs e.1), mm_P_sP, if_neg (fun e => vo e.1), mm_P_sP, if_neg (fun e => by omega), mm_P_sP, if_pos ⟨rfl, rfl⟩]
  · rw [mm_P_sI, mm_P_sP, if_neg (fun e => vvs e.1), mm_P_sP, if_neg (fun e => vo e.1), mm_P_sP, if_pos ⟨rfl, rfl⟩]
