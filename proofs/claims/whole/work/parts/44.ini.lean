/-! a new object -/
def cni (T : mm_H) (o : Nat) (I : Nat → Int32) (P : Nat → Option Nat) : Prop := mm_K T o = 4 ∧ (∀ k, mm_I T o k = I k) ∧ (∀ k, mm_P T o k = P k) ∧ UQ T
def stZ (T : mm_H) (a : Nat) : Prop := stA T a 0 (fun _ => 0) (fun _ => 0)
theorem cni.frF {T U : mm_H} {o : Nat} {I : Nat → Int32} {P : Nat → Option Nat} (h : cni T o I P) (hF : Fr T U (fun _ => False)) (hU : UQ U) : cni U o I P := by
  obtain ⟨h1, h2, h3, h4⟩ := h
  obtain ⟨o1, o2, o3, o4⟩ := hF o (by omega) (fun e => e)
  exact ⟨o1.trans h1, fun k => (o2 k).trans (h2 k), fun k => (o3 k).trans (h3 k), hU⟩
theorem cni.new {T : mm_H} {o q : Nat} {I : Nat → Int32} {P : Nat → Option Nat} (h : cni T o I P) (hq : mm_K T q = 0) (kd n : Nat) : cni (mm_sN T q kd n) o I P := h.frF (Fr.sN T kd n hq) (h.2.2.2.sN hq kd n)
theorem cni.sP {T : mm_H} {o : Nat} {I : Nat → Int32} {P : Nat → Option Nat} (h : cni T o I P) (k : Nat) (v : Option Nat) : cni (mm_sP T o k v) o I (fun j => if j = k then v else P j) := by
  obtain ⟨h1, h2, h3, h4⟩ := h
  refine ⟨h1, h2, fun j => ?_, h4.sPo (by omega) (by omega)⟩
  rw [mm_P_sP]
  by_cases e : j = k
  · rw [if_pos ⟨rfl, e⟩]; simp [e]
  · rw [if_neg (fun q => e q.2)]; simp [e, h3 j]
theorem cni.sI {T : mm_H} {o : Nat} {I : Nat → Int32} {P : Nat → Option Nat} (h : cni T o I P) (k : Nat) (v : Int32) : cni (mm_sI T o k v) o (fun j => if j = k then v else I j) P := by
  obtain ⟨h1, h2, h3, h4⟩ := h
  refine ⟨h1, fun j => ?_, h3, h4⟩
  rw [mm_I_sI]
  by_cases e : j = k
  · rw [if_pos ⟨rfl, e⟩]; simp [e]
  · rw [if_neg (fun q => e q.2)]; simp [e, h2 j]
theorem stZ.fr {T U : mm_H} {M : Nat → Prop} {a : Nat} (h : stZ T a) (hF : Fr T U M) (hM : ∀ x, mm_K T x = 2 ∨ mm_K T x = 6 → ¬ M x) : stZ U a := stA.fr h hF (hM a (Or.inl h.1)) (fun _ c _ h6 => hM c (Or.inr h6))
theorem stZ.sP {T : mm_H} {o k a : Nat} {v : Option Nat} (h : stZ T a) (ho : mm_K T o ≠ 2) (ho6 : mm_K T o ≠ 6) : stZ (mm_sP T o k v) a := h.fr (Fr.sP T o k v) (fun x hx e => by rw [e] at hx; omega)
theorem stZ.sI {T : mm_H} {o k a : Nat} {v : Int32} (h : stZ T a) (ho : mm_K T o ≠ 2) (ho6 : mm_K T o ≠ 6) : stZ (mm_sI T o k v) a := h.fr (Fr.sI T o k v) (fun x hx e => by rw [e] at hx; omega)
theorem stZ.new {T : mm_H} {q a : Nat} (h : stZ T a) (hq : mm_K T q = 0) (kd n : Nat) : stZ (mm_sN T q kd n) a := h.fr (Fr.sN T kd n hq) (fun _ _ e => e)
theorem nst.z {T T2 : mm_H} {st q1 q2 : Nat} (hU : UQ T) (hst : mm_K T st = 0) (h1 : mm_K (mm_sN T st 2 0) q1 = 0) (h2 : mm_K (mm_sN (mm_sN T st 2 0) q1 6 16) q2 = 0) (hT : T2 = mm_sP (mm_sN (mm_sP (mm_sN (mm_sI (mm_sN T st 2 0) st 0 (nI 0)) q1 6 16) st 1 (some q1)) q2 6 16) st 2 (some q2)) : UQ T2 ∧ Fr T T2 (fun _ => False) ∧ stZ T2 st := by
  obtain ⟨u1, u2, u3, u4, u5, u6, u7, u8, u9, u10, u11, u12, u13, u14⟩ := nst hU hst h1 h2 hT
  exact ⟨u1, u2, u3, u4, q1, q2, u5, u6, u7, u8, u9, u10, fun k _ => u13 k, fun k _ => u14 k, Nat.zero_le _, fun _ => Nat.zero_le _, fun _ => Nat.zero_le _⟩
theorem xInv_0 (W : Nat → Nat → Nat) : xInv xx_0 W := by
  refine ⟨⟨by decide, by decide, by decide, by decide, by decide, by decide, by decide, fun _ => by show 0 < 16; omega, fun _ => by show 0 ≤ 255; omega, fun _ => by show 0 ≤ 16; omega, fun _ => by show 0 ≤ 600; omega, fun _ => by show 0 ≤ 600; omega, fun _ => by show 0 ≤ 3; omega, fun _ => by show 0 < 320; omega⟩, fun f i => Nat.zero_le _, rfl, by decide, by decide, by decide, fun v hv hh => ⟨Nat.zero_le _, fun i hi => absurd (show i < 0 from hi) (Nat.not_lt_zero i), fun i j hi => absurd (show i < 0 from hi) (Nat.not_lt_zero i)⟩⟩
theorem Rel.ini {S : mm_H} {W : Nat → Nat → Nat} {o nw sf vs v st f : Nat} {ga : Nat → Nat} {I : Nat → Int32} {P : Nat → Option Nat} (hc : cni S o I P) (p0 : P 0 = some nw) (p1 : P 1 = some sf) (p2 : P 2 = some vs) (p4 : P 4 = some v) (p5 : P 5 = some v) (i3 : I 3 = nI 1) (i6 : I 6 = nI 0) (i7 : I 7 = nI 0) (i8 : I 8 = nI 0) (i9 : I 9 = -1) (i10 : I 10 = -1) (i11 : I 11 = nI 0) (hns : nw ≠ sf) (hnw : stZ S nw) (hsf : stZ S sf) (hvK : mm_K S vs = 8) (hvL : mm_L S vs = 150) (hv0 : mm_P S vs 0 = some v) (hvn : ∀ k, k ≠ 0 → mm_P S vs k = none) (vK : mm_K S v = 3) (v0 : mm_I S v 0 = nI 0) (v3 : mm_I S v 3 = nI 0) (v1 : mm_P S v 1 = some st) (v2 : mm_P S v 2 = some f) (sn : st ≠ nw) (ss : st ≠ sf) (hst : stZ S st) (fK : mm_K S f = 7) (fL : mm_L S f = 0) : Rel S xx_0 W o nw sf vs 0 (fun _ => v) ga := by
  obtain ⟨h1, h2, h3, h4⟩ := hc
  refine ⟨⟨h1, (h3 0).trans p0, (h3 1).trans p1, (h3 2).trans p2, (h2 3).trans i3, (h3 4).trans p4, (h3 5).trans p5, (h2 6).trans i6, (h2 7).trans i7, (h2 8).trans i8, (h2 9).trans i9, (h2 10).trans i10, (h2 11).trans i11⟩, hns, hnw, hsf, hvK, hvL, fun u hu => ?_, fun u hu hh => ?_, fun u hu hh i hi => absurd (show i < 0 from hi) (Nat.not_lt_zero i), h4, xInv_0 W⟩
  · by_cases e : u = 0
    · rw [e, hv0]; rfl
    · rw [hvn u e, decide_eq_false (show ¬ u < xx_0.1 10 from fun h => e (by have h : u < 1 := h; omega))]; rfl
  · have hu : u < 1 := hu
    have e : u = 0 := by omega
    subst e
    exact ⟨vK, v0, v3, st, f, v1, v2, sn, ss, hst, fK, fL, fun i hi => absurd (show i < 0 from hi) (Nat.not_lt_zero i)⟩
def vsZ (T : mm_H) (vs : Nat) : Prop := mm_K T vs = 8 ∧ mm_L T vs = 150 ∧ ∀ k, mm_P T vs k = none
theorem cni.vs {T : mm_H} {o q : Nat} {I : Nat → Int32} {P : Nat → Option Nat} (_h : cni (mm_sN T q 8 150) o I P) : vsZ (mm_sN T q 8 150) q := ⟨by rw [mm_K_sN, if_pos rfl], by rw [mm_L_sN, if_pos rfl], fun k => by rw [mm_P_sN, if_pos rfl]⟩
theorem cni.kd {T : mm_H} {o q kd n : Nat} {I : Nat → Int32} {P : Nat → Option Nat} (_h : cni (mm_sN T q kd n) o I P) : mm_K (mm_sN T q kd n) q = kd ∧ mm_L (mm_sN T q kd n) q = n := ⟨by rw [mm_K_sN, if_pos rfl], by rw [mm_L_sN, if_pos rfl]⟩
theorem vsZ.sP {T : mm_H} {vs o k : Nat} {v : Option Nat} (h : vsZ T vs) (ho : o ≠ vs) : vsZ (mm_sP T o k v) vs := ⟨h.1, h.2.1, fun j => by rw [mm_P_sP, if_neg (fun e => ho e.1.symm)]; exact h.2.2 j⟩
theorem vsZ.sI {T : mm_H} {vs o k : Nat} {v : Int32} (h : vsZ T vs) (_ho : o ≠ vs) : vsZ (mm_sI T o k v) vs := h
theorem vsZ.frF {T U : mm_H} {vs : Nat} (h : vsZ T vs) (hF : Fr T U (fun _ => False)) : vsZ U vs := by
  obtain ⟨h1, h2, h3⟩ := h
  obtain ⟨o1, o2, o3, o4⟩ := hF vs (by omega) (fun e => e)
  exact ⟨o1.trans h1, o4.trans h2, fun k => (o3 k).trans (h3 k)⟩
theorem vsZ.new {T : mm_H} {vs q : Nat} (h : vsZ T vs) (hq : mm_K T q = 0) (kd n : Nat) : vsZ (mm_sN T q kd n) vs := h.frF (Fr.sN T kd n hq)
theorem K_new {T : mm_H} {q v a : Nat} (hq : mm_K T q = 0) (h : mm_K T v = a + 1) (kd n : Nat) : mm_K (mm_sN T q kd n) v = a + 1 := by rw [mm_K_sN, if_neg (fun e => by rw [e] at h; omega)]; exact h
theorem K_ne {T : mm_H} {v a b : Nat} (h : mm_K T v = a) (hab : a ≠ b) : mm_K T v ≠ b := by rw [h]; exact hab
theorem cni.same {T U : mm_H} {o : Nat} {I : Nat → Int32} {P : Nat → Option Nat} (h : cni T o I P) (hK : mm_K U o = mm_K T o) (hI : ∀ k, mm_I U o k = mm_I T o k) (hP : ∀ k, mm_P U o k = mm_P T o k) (hU : UQ U) : cni U o I P := ⟨hK.trans h.1, fun k => (hI k).trans (h.2.1 k), fun k => (hP k).trans (h.2.2.1 k), hU⟩
