/-! drop, sync -/
theorem still_fit {X : xx_X} (h0 : X.2.1 2 0 = 0) (j : Nat) (q : Int32) (k : Nat) : stillB X j q k = (fitB (picW X (X.2.1 11 j)) q k && decide (picC X (X.2.1 11 j) k = picC X (X.1 0) k)) := by
  unfold stillB
  rw [hasB_fit h0]
  cases hf : fitB (picW X (X.2.1 11 j)) q k with
  | false => rw [Bool.false_and, Bool.false_and]
  | true =>
    rw [Bool.true_and, Bool.true_and, wr_wa h0]
    unfold waN
    rw [if_pos (of_decide_eq_true (Bool.and_eq_true_iff.mp hf).1)]
    exact decide_eq_decide.mpr ⟨fun e => e.symm, fun e => e.symm⟩
theorem drop_pic (X : xx_X) (j : Nat) (q : Int32) : ∀ K k, K ≤ k → picC (dropX X j q K) ((dropX X j q K).1 0) k = picC X (X.1 0) k
  | 0, k, _ => rfl
  | K + 1, k, h => by
    have ih := drop_pic X j q K k (by omega)
    unfold dropX
    cases hb : stillB X j q K with
    | false => simp only [cond_false]; exact ih
    | true =>
      simp only [cond_true]
      rw [(addX_1 _ _ _).1, picC_add, if_neg (by omega)]
      exact ih
theorem drop_pic0 (X : xx_X) (j : Nat) (q : Int32) (K m : Nat) (hm : m ≤ X.1 0) : picC (dropX X j q K) m = picC X m ∧ picW (dropX X j q K) m = picW X m := by
  obtain ⟨g1, g2, g3, g4, g5⟩ := dropX_fr X j q K
  exact pic_keep (fun i hi => g4 1 i (by omega)) (fun i hi => g4 2 i (by omega))
theorem cnt_sub (f g : Nat → Bool) : ∀ n, cntN f n = cntN (fun k => f k && g k) n + cntN (fun k => f k && !(f k && g k)) n
  | 0 => rfl
  | n + 1 => by
    have := cnt_sub f g n
    rw [cntN_s, cntN_s, cntN_s]
    generalize cntN (fun k => f k && g k) n = A at this ⊢
    generalize cntN (fun k => f k && !(f k && g k)) n = B at this ⊢
    cases f n <;> cases g n <;> simp <;> omega
/-- a state that is copied -/
theorem stA.cp {S : mm_H} {a b ac aw bc bw m : Nat} {ch wd : Nat → Nat} (hUQ : UQ S) (hb : stA S b m ch wd) (hab : a ≠ b) (haK : mm_K S a = 2) (a1 : mm_P S a 1 = some ac) (a2 : mm_P S a 2 = some aw) (b1 : mm_P S b 1 = some bc) (b2 : mm_P S b 2 = some bw) (acK : mm_K S ac = 6) (acL : mm_L S ac = 16) (awK : mm_K S aw = 6) (awL : mm_L S aw = 16) {S1 S' : mm_H} (h1 : S1 = mm_sR (mm_sI S a 0 (nI m)) ac (fun j => if j < 16 then mm_I (mm_sI S a 0 (nI m)) bc j else mm_I (mm_sI S a 0 (nI m)) ac j)) (h2 : S' = mm_sR S1 aw (fun j => if j < 16 then mm_I S1 bw j else mm_I S1 aw j)) :
    stA S' a m ch wd ∧ Fr S S' (fun x => (x = a ∨ x = ac) ∨ x = aw) ∧ (∀ x, mm_K S' x = mm_K S x) ∧ (∀ x k, mm_P S' x k = mm_P S x k) := by
  obtain ⟨q1, q2, c, w, q3, q4, q5, q6, q7, q8, q9, q10, q11⟩ := hb
  cases b1.symm.trans q3
  cases b2.symm.trans q4
  have haw : ac ≠ aw := fun e => by have := (hUQ.1 a a 1 2 ac (Or.inr haK) (Or.inr haK) a1 (by rw [a2, e]) acK).2; omega
  have hbca : bc ≠ ac := fun e => hab (hUQ.1 a b 1 1 ac (Or.inr haK) (Or.inr q1) a1 (by rw [b1, e]) acK).1
  have hbwc : bw ≠ ac := fun e => hab (hUQ.1 a b 1 2 ac (Or.inr haK) (Or.inr q1) a1 (by rw [b2, e]) acK).1
  have ha1 : a ≠ ac := fun e => by rw [e] at haK; omega
  have ha2 : a ≠ aw := fun e => by rw [e] at haK; omega
  have hba : bc ≠ a := fun e => by rw [e] at q5; omega
  have hba2 : bw ≠ a := fun e => by rw [e] at q7; omega
  subst h1; subst h2
  refine ⟨⟨haK, ?_, ac, aw, a1, a2, acK, acL, awK, awL, fun k hk => ?_, fun k hk => ?_, q11⟩, ((Fr.sI S a 0 _).trans (Fr.sR _ ac _)).trans (Fr.sR _ aw _), fun _ => rfl, fun _ _ => rfl⟩
  · rw [mm_I_sR, if_neg ha2, mm_I_sR, if_neg ha1, mm_I_s]
  · rw [mm_I_sR, if_neg haw, mm_I_sR, if_pos rfl, if_pos hk, mm_I_a hba]; exact q9 k hk
  · rw [mm_I_sR, if_pos rfl, if_pos hk, mm_I_sR, if_neg hbwc, mm_I_a hba2]; exact q10 k hk
/-- one of the two states of the object is written -/
theorem Rel.stF {S S' : mm_H} {X X' : xx_X} {W : Nat → Nat → Nat} {o nw sf vs cn : Nat} {va ga : Nat → Nat} (hL : Rel S X W o nw sf vs cn va ga) {t c w : Nat} (ht : t = nw ∨ t = sf) (tK : mm_K S t = 2) (tc : mm_P S t 1 = some c) (tw : mm_P S t 2 = some w) (cK : mm_K S c = 6) (wK : mm_K S w = 6) (hF : Fr S S' (fun b => (b = t ∨ b = c) ∨ b = w)) (hK : ∀ x, mm_K S' x = mm_K S x) (hP : ∀ x k, mm_P S' x k = mm_P S x k) (hnw' : stA S' nw (X'.1 0) (picC X' (X'.1 0)) (picW X' (X'.1 0))) (hsf' : stA S' sf (X'.1 17) (picC X' (X'.1 17)) (picW X' (X'.1 17))) (hi : ∀ f, f ≠ 0 → f ≠ 17 → X'.1 f = X.1 f) (h2 : X'.2 = X.2) (hX' : xInv X' W) : Rel S' X' W o nw sf vs cn va ga := by
  obtain ⟨⟨o1, o2, o3, o4, o5, o6, o7, o8, o9, o10, o11, o12, o13⟩, hns, hnw, hsf, hvK, hvL, hvs, hview, hsegs, hUQ, hXI⟩ := hL
  have h21 : X'.2.1 = X.2.1 := by rw [h2]
  have kind : ∀ b, mm_K S b ≠ 2 → mm_K S b ≠ 6 → ¬ ((b = t ∨ b = c) ∨ b = w) := fun b h2 h6 q => by
    rcases q with (rfl | rfl) | rfl
    · exact h2 tK
    · exact h6 cK
    · exact h6 wK
  have arr : ∀ b, (mm_K S b = 1 ∨ mm_K S b = 2) → b ≠ t → ∀ i d, mm_P S b i = some d → mm_K S d = 6 → ¬ ((d = t ∨ d = c) ∨ d = w) := fun b hb hbn i d hd hd6 q => by
    rcases q with (rfl | rfl) | rfl
    · omega
    · exact hbn (hUQ.1 b t i 1 d hb (Or.inr tK) hd tc hd6).1
    · exact hbn (hUQ.1 b t i 2 d hb (Or.inr tK) hd tw hd6).1
  have st : ∀ b, mm_K S b = 2 → b ≠ t → ¬ ((b = t ∨ b = c) ∨ b = w) := fun b hb hbn q => by
    rcases q with (rfl | rfl) | rfl
    · exact hbn rfl
    · omega
    · omega
  have pc : ∀ m, picC X' m = picC X m := fun m => by unfold picC; rw [h21]
  have pw : ∀ m, picW X' m = picW X m := fun m => by unfold picW; rw [h21]
  obtain ⟨f1, f2, f3, f4⟩ := hF o (by omega) (kind o (by omega) (by omega))
  obtain ⟨v1, v2, v3, v4⟩ := hF vs (by omega) (kind vs (by omega) (by omega))
  have hh : heldN X' = heldN X := heldN_of (hi 15 (by decide) (by decide)) (hi 16 (by decide) (by decide)) (by rw [h21])
  refine ⟨⟨(hK o).trans o1, (hP o 0).trans o2, (hP o 1).trans o3, (hP o 2).trans o4, ?_, ?_, ?_, ?_, ?_, ?_, ?_, ?_, (f2 11).trans o13⟩, hns, hnw', hsf', (hK vs).trans hvK, v4.trans hvL, ?_, ?_, ?_, ?_, hX'⟩
  · rw [hi 10 (by decide) (by decide)]; exact (f2 3).trans o5
  · rw [hi 15 (by decide) (by decide)]; exact (hP o 4).trans o6
  · rw [hi 16 (by decide) (by decide)]; exact (hP o 5).trans o7
  · rw [hi 6 (by decide) (by decide)]; exact (f2 6).trans o8
  · rw [hi 9 (by decide) (by decide)]; exact (f2 7).trans o9
  · rw [hi 3 (by decide) (by decide)]; exact (f2 8).trans o10
  · rw [h2]; exact (f2 9).trans o11
  · rw [h2]; exact (f2 10).trans o12
  · rw [hi 10 (by decide) (by decide), hh]; exact fun v hv => (v3 v).trans (hvs v hv)
  · rw [hi 10 (by decide) (by decide), hh]
    intro v hv hhv
    have nt : ∀ b, b ≠ nw → b ≠ sf → b ≠ t := fun b q1 q2 e => by
      rcases ht with q | q
      · exact q1 (e.trans q)
      · exact q2 (e.trans q)
    exact ((hview v hv hhv).fr hF (kind _ (by have := (hview v hv hhv).1; omega) (by have := (hview v hv hhv).1; omega)) (fun b hb h1 h2 => ⟨st b hb (nt b h1 h2), arr b (Or.inr hb) (nt b h1 h2)⟩) (fun b hb => kind b (by omega) (by omega))).ofX (by rw [h21]) (by rw [h21]) (by rw [h21]) (fun i _ => by rw [h21]) (pc _) (pw _)
  · rw [hi 10 (by decide) (by decide), hh, h21]
    intro v hv hhv i hi'
    have hs := hsegs v hv hhv i hi'
    exact hs.fr hF (kind _ (by have := hs.1.1; omega) (by have := hs.1.1; omega)) (arr _ (Or.inl hs.1.1) (fun e => by have := hs.1.1; rw [e] at this; omega))
  · refine ⟨fun a b i j d h1 h3 h4 h5 h6 => ?_, fun a i d h1 h4 => ?_⟩
    · rw [hK] at h1 h3 h6
      rw [hP] at h4 h5
      exact hUQ.1 a b i j d h1 h3 h4 h5 h6
    · rw [hK] at h1 ⊢
      rw [hP] at h4
      exact hUQ.2 a i d h1 h4
theorem xInv.safe {X : xx_X} {W : Nat → Nat → Nat} (h : xInv X W) : xInv (xI X 17 (X.1 0)) W := by
  obtain ⟨g1, g2, g3, g4, g5, g6, g7⟩ := h
  obtain ⟨k0, k1, k2, k3, k4, k5, k6, k7⟩ := g1
  have o := fun {f : Nat} (q : f ≠ 17) => xI_o (Y := X) (v := X.1 0) q
  have hh : heldN (xI X 17 (X.1 0)) = heldN X := heldN_of (o (by decide)) (o (by decide)) rfl
  refine ⟨⟨by rw [o (by decide)]; exact k0, by rw [o (by decide)]; exact k1, by rw [o (by decide)]; exact k2, by rw [o (by decide), o (by decide)]; exact k3, by rw [o (by decide), o (by decide)]; exact k4, by rw [xI_s, o (by decide)]; exact Nat.le_refl _, by rw [o (by decide), o (by decide)]; exact k6, k7⟩, g2, g3, by rw [o (by decide), o (by decide)]; exact g4, by rw [o (by decide)]; exact g5, ?_, ?_⟩
  · rw [xI_s, o (by decide)]
    exact (g7 _ k4 held_lt.2).1
  · rw [o (f := 10) (by decide), hh, o (f := 0) (by decide), o (f := 6) (by decide)]
    exact g7
