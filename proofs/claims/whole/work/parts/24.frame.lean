/-! what stays, when something is written -/
def Fr (S S' : mm_H) (M : Nat → Prop) : Prop := ∀ a, mm_K S a ≠ 0 → ¬ M a → mm_K S' a = mm_K S a ∧ (∀ k, mm_I S' a k = mm_I S a k) ∧ (∀ k, mm_P S' a k = mm_P S a k) ∧ mm_L S' a = mm_L S a
theorem Fr.sI (S : mm_H) (a k : Nat) (v : Int32) : Fr S (mm_sI S a k v) (fun b => b = a) := fun b _ hb => ⟨rfl, fun j => by rw [mm_I_sI, if_neg (fun q => hb q.1)], fun _ => rfl, rfl⟩
theorem Fr.sP (S : mm_H) (a k : Nat) (v : Option Nat) : Fr S (mm_sP S a k v) (fun b => b = a) := fun b _ hb => ⟨rfl, fun _ => rfl, fun j => by rw [mm_P_sP, if_neg (fun q => hb q.1)], rfl⟩
theorem Fr.sR (S : mm_H) (a : Nat) (f : Nat → Int32) : Fr S (mm_sR S a f) (fun b => b = a) := fun b _ hb => ⟨rfl, fun j => by rw [mm_I_sR, if_neg hb], fun _ => rfl, rfl⟩
theorem Fr.sN (S : mm_H) {a : Nat} (kd n : Nat) (ha : mm_K S a = 0) : Fr S (mm_sN S a kd n) (fun _ => False) := fun b hb _ => by
  have hne : b ≠ a := fun e => hb (by rw [e]; exact ha)
  exact ⟨by rw [mm_K_sN, if_neg hne], fun j => by rw [mm_I_sN, if_neg hne], fun j => by rw [mm_P_sN, if_neg hne], by rw [mm_L_sN, if_neg hne]⟩
theorem Fr.trans {S S1 S2 : mm_H} {M M1 : Nat → Prop} (h : Fr S S1 M) (h1 : Fr S1 S2 M1) : Fr S S2 (fun a => M a ∨ M1 a) := fun a ha hM => by
  obtain ⟨e1, e2, e3, e4⟩ := h a ha (fun q => hM (Or.inl q))
  obtain ⟨g1, g2, g3, g4⟩ := h1 a (by rw [e1]; exact ha) (fun q => hM (Or.inr q))
  exact ⟨g1.trans e1, fun k => (g2 k).trans (e2 k), fun k => (g3 k).trans (e3 k), g4.trans e4⟩
theorem Fr.mono {S S1 : mm_H} {M M1 : Nat → Prop} (h : Fr S S1 M) (hM : ∀ a, mm_K S a ≠ 0 → M a → M1 a) : Fr S S1 M1 := fun a ha hn => h a ha (fun q => hn (hM a ha q))
theorem stA.fr {S S' : mm_H} {M : Nat → Prop} {a n : Nat} {ch wd : Nat → Nat} (h : stA S a n ch wd) (hF : Fr S S' M) (ha : ¬ M a) (hc : ∀ i c, mm_P S a i = some c → mm_K S c = 6 → ¬ M c) : stA S' a n ch wd := by
  obtain ⟨h1, h2, c, w, h3, h4, h5, h6, h7, h8, h9, h10, h11⟩ := h
  obtain ⟨e1, e2, e3, e4⟩ := hF a (by omega) ha
  obtain ⟨c1, c2, c3, c4⟩ := hF c (by omega) (hc 1 c h3 h5)
  obtain ⟨w1, w2, w3, w4⟩ := hF w (by omega) (hc 2 w h4 h7)
  exact ⟨e1.trans h1, (e2 0).trans h2, c, w, (e3 1).trans h3, (e3 2).trans h4, c1.trans h5, c4.trans h6, w1.trans h7, w4.trans h8, fun k hk => (c2 k).trans (h9 k hk), fun k hk => (w2 k).trans (h10 k hk), h11⟩
theorem sgA.fr {S S' : mm_H} {M : Nat → Prop} {g s rows : Nat} {w : Nat → Nat} (h : sgA S g s rows w) (hF : Fr S S' M) (ha : ¬ M g) (hc : ∀ i c, mm_P S g i = some c → mm_K S c = 6 → ¬ M c) : sgA S' g s rows w := by
  obtain ⟨h1, h2, h3, c, h4, h5, h6, h7, h8⟩ := h
  obtain ⟨e1, e2, e3, e4⟩ := hF g (by omega) ha
  obtain ⟨c1, c2, c3, c4⟩ := hF c (by omega) (hc 1 c h4 h5)
  exact ⟨e1.trans h1, (e2 0).trans h2, (e2 2).trans h3, c, (e3 1).trans h4, c1.trans h5, c4.trans h6, fun k hk => (c2 k).trans (h7 k hk), h8⟩
theorem segV.fr {S S' : mm_H} {M : Nat → Prop} {W : Nat → Nat → Nat} {g s cn : Nat} (h : segV S W g s cn) (hF : Fr S S' M) (ha : ¬ M g) (hc : ∀ i c, mm_P S g i = some c → mm_K S c = 6 → ¬ M c) : segV S' W g s cn := by
  obtain ⟨h1, lc, h2, h3⟩ := h
  exact ⟨h1.fr hF ha hc, lc, ((hF g (by have := h1.1; omega) ha).2.1 3).trans h2, h3⟩
theorem viewV.fr {S S' : mm_H} {M : Nat → Prop} {X : xx_X} {ga : Nat → Nat} {nw sf v a : Nat} (h : viewV S X ga nw sf v a) (hF : Fr S S' M) (ha : ¬ M a) (h2 : ∀ b, mm_K S b = 2 → b ≠ nw → b ≠ sf → ¬ M b ∧ ∀ i c, mm_P S b i = some c → mm_K S c = 6 → ¬ M c) (h7 : ∀ b, mm_K S b = 7 → ¬ M b) : viewV S' X ga nw sf v a := by
  obtain ⟨q1, q2, q3, st, pr, q4, q5, q6, q7, q8, q9, q10, q11⟩ := h
  obtain ⟨e1, e2, e3, e4⟩ := hF a (by omega) ha
  obtain ⟨p1, p2, p3, p4⟩ := hF pr (by omega) (h7 pr q9)
  obtain ⟨s1, s2⟩ := h2 st q8.1 q6 q7
  exact ⟨e1.trans q1, (e2 0).trans q2, (e2 3).trans q3, st, pr, (e3 1).trans q4, (e3 2).trans q5, q6, q7, q8.fr hF s1 s2, p1.trans q9, p4.trans q10, fun i hi => (p3 i).trans (q11 i hi)⟩
theorem viewV.ofX {S : mm_H} {X X' : xx_X} {ga : Nat → Nat} {nw sf v a : Nat} (h : viewV S X ga nw sf v a) (h14 : X'.2.1 14 v = X.2.1 14 v) (h11 : X'.2.1 11 v = X.2.1 11 v) (h12 : X'.2.1 12 v = X.2.1 12 v) (h13 : ∀ i, i < X.2.1 12 v → X'.2.1 13 (4 * v + i) = X.2.1 13 (4 * v + i)) (hC : picC X' (X.2.1 11 v) = picC X (X.2.1 11 v)) (hW : picW X' (X.2.1 11 v) = picW X (X.2.1 11 v)) : viewV S X' ga nw sf v a := by
  obtain ⟨q1, q2, q3, st, pr, q4, q5, q6, q7, q8, q9, q10, q11⟩ := h
  exact ⟨q1, q2, by rw [h14]; exact q3, st, pr, q4, q5, q6, q7, by rw [h11, hC, hW]; exact q8, q9, by rw [h12]; exact q10, fun i hi => by rw [h12] at hi; rw [h13 i hi]; exact q11 i hi⟩
/-- what the reference's log says up to m, when only later places of it have changed -/
theorem pic_keep {X X' : xx_X} {m : Nat} (h1 : ∀ i, i ≤ m → X'.2.1 1 i = X.2.1 1 i) (h2 : ∀ i, i ≤ m → X'.2.1 2 i = X.2.1 2 i) : picC X' m = picC X m ∧ picW X' m = picW X m := by
  have e : picC X' m = picC X m := funext fun k => cg_congr h1
  refine ⟨e, funext fun k => ?_⟩
  have e2 : cg (X'.2.1 1) k m = cg (X.2.1 1) k m := cg_congr h1
  unfold picW
  rw [e2]
  exact h2 _ (cg_le _ _ _)
theorem addX_1 (X : xx_X) (k w : Nat) : (addX X k w).1 0 = X.1 0 + 1 ∧ ∀ f, f ≠ 0 → (addX X k w).1 f = X.1 f := ⟨xI_s (Y := X) (f := 0) (v := X.1 0 + 1), fun _ hf => xI_o (Y := X) (f := 0) (v := X.1 0 + 1) hf⟩
theorem addX_o (X : xx_X) (k w : Nat) {f : Nat} (h1 : f ≠ 1) (h2 : f ≠ 2) : (addX X k w).2.1 f = X.2.1 f := by
  unfold addX
  rw [xA_o h2, xA_o h1]
  rfl
theorem addX_log (X : xx_X) (k w : Nat) : (∀ i, i ≠ X.1 0 + 1 → (addX X k w).2.1 1 i = X.2.1 1 i ∧ (addX X k w).2.1 2 i = X.2.1 2 i) ∧ (addX X k w).2.1 1 (X.1 0 + 1) = k ∧ (addX X k w).2.1 2 (X.1 0 + 1) = w := by
  unfold addX
  refine ⟨fun i hi => ⟨?_, ?_⟩, ?_, ?_⟩
  · rw [xA_o (by decide), xA_j hi]; rfl
  · rw [xA_j hi, xA_o (by decide)]; rfl
  · rw [xA_o (by decide), xA_s]
  · rw [xA_s]
theorem addX_bd {X : xx_X} {k w : Nat} (h : xx_bd X) (hk : k < 16) (hw : w ≤ 255) : xx_bd (addX X k w) := ((h.setI (f := 0)).set (by show k ≤ 15; omega)).set hw
theorem xx_ok.of {X X' : xx_X} (h : xx_ok X) (hb : xx_bd X') (h0 : X'.1 0 ≤ 600) (h10 : X'.1 10 = X.1 10) (h15 : X'.1 15 < X.1 10) (h16 : X'.1 16 < X.1 10) (h17 : X'.1 17 ≤ X'.1 0) (h6 : X'.1 6 = X.1 6) (h12 : ∀ i, X'.2.1 12 i ≤ 3) : xx_ok X' := by
  obtain ⟨k0, k1, k2, k3, k4, k5, k6, k7, k8, k9, k10, k11, k12, k13⟩ := h
  exact ⟨h0, by omega, by omega, by omega, by omega, h17, by omega, hb.k7, fun i => hb 2 i, hb.k9, hb.k10, fun i => hb 11 i, h12, fun i => Nat.lt_succ_of_le (hb 13 i)⟩
theorem heldN_of {X X' : xx_X} (h15 : X'.1 15 = X.1 15) (h16 : X'.1 16 = X.1 16) (h14 : X'.2.1 14 = X.2.1 14) : heldN X' = heldN X := by
  funext j
  unfold heldN
  rw [h15, h16, h14]
/-- sgR and what lies in it hang on a few places alone -/
theorem sgR.ofX {X X' : xx_X} {s : Nat} {w : Nat → Nat} (h : sgR X s w) (h7 : X'.2.1 7 s = X.2.1 7 s) (h8 : ∀ i, i < 16 → X'.2.1 8 (16 * s + i) = X.2.1 8 (16 * s + i)) (h1 : ∀ k, k < 16 → 0 < w k → X'.2.1 1 (w k) = X.2.1 1 (w k)) : sgR X' s w := by
  refine ⟨by rw [h7]; exact h.1, fun k hk hw => ?_⟩
  have hc := cnt_lt hk (nz_t.mpr hw)
  have h16 := cntN_le (nz w) 16
  rw [h8 _ (by omega), h1 k hk hw]
  exact h.2 k hk hw
theorem xInv.add {X : xx_X} {W : Nat → Nat → Nat} (h : xInv X W) {k w : Nat} (hk : k < 16) (hw : w ≤ 255) (hn : X.1 0 < 600) : xInv (addX X k w) W := by
  obtain ⟨h1, h2, h3, h4, h5, h6, h7⟩ := h
  obtain ⟨a0, af⟩ := addX_1 X k w
  obtain ⟨l1, l2, l3⟩ := addX_log X k w
  have o := fun {f : Nat} (q1 : f ≠ 1) (q2 : f ≠ 2) => addX_o X k w q1 q2
  have hb := addX_bd h2 hk hw
  refine ⟨h1.of hb (by omega) (af 10 (by decide)) (by rw [af 15 (by decide)]; exact h1.2.2.2.1) (by rw [af 16 (by decide)]; exact h1.2.2.2.2.1) (by rw [af 17 (by decide), a0]; have := h1.2.2.2.2.2.1; omega) (af 6 (by decide)) (fun i => by rw [o (by decide) (by decide)]; exact h1.2.2.2.2.2.2.2.2.2.2.2.2.1 i), hb, ?_, ?_, ?_, ?_, ?_⟩
  · rw [(l1 0 (by omega)).2]; exact h3
  · rw [af 9 (by decide), af 10 (by decide)]; exact h4
  · rw [af 3 (by decide)]; exact h5
  · rw [af 16 (by decide), af 17 (by decide), o (by decide) (by decide)]; exact h6
  · rw [af 10 (by decide), heldN_of (af 15 (by decide)) (af 16 (by decide)) (o (by decide) (by decide)), o (f := 11) (by decide) (by decide), o (f := 12) (by decide) (by decide), o (f := 13) (by decide) (by decide), af 6 (by decide)]
    intro v hv hh
    obtain ⟨g1, g2, g3⟩ := h7 v hv hh
    refine ⟨by omega, fun i hi => ?_, g3⟩
    obtain ⟨q1, q2, q3⟩ := g2 i hi
    exact ⟨q1, q2.ofX (by rw [o (by decide) (by decide)]) (fun i _ => by rw [o (by decide) (by decide)]) (fun k hk _ => (l1 _ (by have := q3 k hk; omega)).1), q3⟩
