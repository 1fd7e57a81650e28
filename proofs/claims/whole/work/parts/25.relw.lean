theorem held_lt {X : xx_X} : heldN X (X.1 15) = true ∧ heldN X (X.1 16) = true := ⟨by simp [heldN], by simp [heldN]⟩
theorem picC_add {X : xx_X} (k w j : Nat) : picC (addX X k w) (X.1 0 + 1) j = if j = k then X.1 0 + 1 else picC X (X.1 0) j := by
  obtain ⟨l1, l2, l3⟩ := addX_log X k w
  unfold picC
  rw [cg_s, l2]
  by_cases e : j = k
  · rw [if_pos e.symm, if_pos e]
  · rw [if_neg (fun q => e q.symm), if_neg e]
    exact cg_congr (fun i hi => (l1 i (by omega)).1)
theorem picW_add {X : xx_X} (k w j : Nat) : picW (addX X k w) (X.1 0 + 1) j = if j = k then w else picW X (X.1 0) j := by
  have h := picC_add (X := X) k w j
  obtain ⟨l1, l2, l3⟩ := addX_log X k w
  unfold picC at h
  unfold picW
  rw [h]
  by_cases e : j = k
  · rw [if_pos e, if_pos e, l3]
  · rw [if_neg e, if_neg e]
    exact (l1 _ (by have := cg_le (X.2.1 1) j (X.1 0); omega)).2
/-- a change of 'now' -/
theorem Rel.chg {S : mm_H} {X : xx_X} {W : Nat → Nat → Nat} {o nw sf vs cn : Nat} {va ga : Nat → Nat} (hL : Rel S X W o nw sf vs cn va ga) {c w : Nat} (hc : mm_P S nw 1 = some c) (hw : mm_P S nw 2 = some w) {k wd : Nat} (hk : k < 16) (hwd : wd ≤ 255) (hn : X.1 0 < 600) :
    Rel (mm_sI (mm_sI (mm_sI S nw 0 (nI (X.1 0 + 1))) c k (nI (X.1 0 + 1))) w k (nI wd)) (addX X k wd) W o nw sf vs cn va ga := by
  obtain ⟨⟨o1, o2, o3, o4, o5, o6, o7, o8, o9, o10, o11, o12, o13⟩, hns, hnw, hsf, hvK, hvL, hvs, hview, hsegs, hUQ, hXI⟩ := hL
  obtain ⟨n1, n2, c', w', n3, n4, n5, n6, n7, n8, n9, n10, n11, n12, n13⟩ := id hnw
  cases hc.symm.trans n3
  cases hw.symm.trans n4
  have hcw : c ≠ w := fun e => by
    have := (hUQ.1 nw nw 1 2 c (Or.inr n1) (Or.inr n1) n3 (by rw [n4, e]) n5).2
    omega
  have hnc : nw ≠ c := fun e => by rw [e] at n1; omega
  have hnw' : nw ≠ w := fun e => by rw [e] at n1; omega
  have hF : Fr S (mm_sI (mm_sI (mm_sI S nw 0 (nI (X.1 0 + 1))) c k (nI (X.1 0 + 1))) w k (nI wd)) (fun b => (b = nw ∨ b = c) ∨ b = w) := ((Fr.sI S nw 0 _).trans (Fr.sI _ c k _)).trans (Fr.sI _ w k _)
  have kind : ∀ b, mm_K S b ≠ 2 → mm_K S b ≠ 6 → ¬ ((b = nw ∨ b = c) ∨ b = w) := fun b h2 h6 q => by
    rcases q with (rfl | rfl) | rfl
    · exact h2 n1
    · exact h6 n5
    · exact h6 n7
  have arr : ∀ b, (mm_K S b = 1 ∨ mm_K S b = 2) → b ≠ nw → ∀ i d, mm_P S b i = some d → mm_K S d = 6 → ¬ ((d = nw ∨ d = c) ∨ d = w) := fun b hb hbn i d hd hd6 q => by
    rcases q with (rfl | rfl) | rfl
    · omega
    · exact hbn (hUQ.1 b nw i 1 d hb (Or.inr n1) hd n3 hd6).1
    · exact hbn (hUQ.1 b nw i 2 d hb (Or.inr n1) hd n4 hd6).1
  have st : ∀ b, mm_K S b = 2 → b ≠ nw → ¬ ((b = nw ∨ b = c) ∨ b = w) := fun b hb hbn q => by
    rcases q with (rfl | rfl) | rfl
    · exact hbn rfl
    · omega
    · omega
  obtain ⟨a0, af⟩ := addX_1 X k wd
  obtain ⟨l1, l2, l3⟩ := addX_log X k wd
  have ao := fun {f : Nat} (q1 : f ≠ 1) (q2 : f ≠ 2) => addX_o X k wd q1 q2
  have pk : ∀ m, m ≤ X.1 0 → picC (addX X k wd) m = picC X m ∧ picW (addX X k wd) m = picW X m := fun m hm => pic_keep (fun i hi => (l1 i (by omega)).1) (fun i hi => (l1 i (by omega)).2)
  obtain ⟨f1, f2, f3, f4⟩ := hF o (by omega) (kind o (by omega) (by omega))
  have hh : heldN (addX X k wd) = heldN X := heldN_of (af 15 (by decide)) (af 16 (by decide)) (ao (by decide) (by decide))
  refine ⟨⟨o1, o2, o3, o4, ?_, ?_, ?_, ?_, ?_, ?_, (f2 9).trans o11, (f2 10).trans o12, (f2 11).trans o13⟩, hns, ?_, ?_, hvK, hvL, ?_, ?_, ?_, hUQ, hXI.add hk hwd hn⟩
  · rw [af 10 (by decide)]; exact (f2 3).trans o5
  · rw [af 15 (by decide)]; exact o6
  · rw [af 16 (by decide)]; exact o7
  · rw [af 6 (by decide)]; exact (f2 6).trans o8
  · rw [af 9 (by decide)]; exact (f2 7).trans o9
  · rw [af 3 (by decide)]; exact (f2 8).trans o10
  · rw [a0]
    refine ⟨n1, ?_, c, w, n3, n4, n5, n6, n7, n8, fun j hj => ?_, fun j hj => ?_, by omega, fun j => ?_, fun j => ?_⟩
    · rw [mm_I_sI, if_neg (fun q => hnw' q.1), mm_I_sI, if_neg (fun q => hnc q.1), mm_I_sI, if_pos ⟨rfl, rfl⟩]
    · rw [picC_add, mm_I_sI, if_neg (fun q => hcw q.1), mm_I_sI]
      by_cases e : j = k
      · rw [if_pos ⟨rfl, e⟩, if_pos e]
      · rw [if_neg (fun q => e q.2), if_neg e, mm_I_sI, if_neg (fun q => hnc q.1.symm)]; exact n9 j hj
    · rw [picW_add, mm_I_sI]
      by_cases e : j = k
      · rw [if_pos ⟨rfl, e⟩, if_pos e]
      · rw [if_neg (fun q => e q.2), if_neg e, mm_I_sI, if_neg (fun q => hcw q.1.symm), mm_I_sI, if_neg (fun q => hnw' q.1.symm)]; exact n10 j hj
    · rw [picC_add]; split
      · omega
      · exact n12 j
    · rw [picW_add]; split
      · exact hwd
      · exact n13 j
  · rw [af 17 (by decide), (pk _ hXI.1.2.2.2.2.2.1).1, (pk _ hXI.1.2.2.2.2.2.1).2]
    exact hsf.fr hF (st sf hsf.1 (Ne.symm hns)) (arr sf (Or.inr hsf.1) (Ne.symm hns))
  · rw [af 10 (by decide), hh]; exact hvs
  · rw [af 10 (by decide), hh]
    intro v hv hhv
    have hav := (hXI.2.2.2.2.2.2 v hv hhv).1
    refine ((hview v hv hhv).fr hF (kind _ (by have := (hview v hv hhv).1; omega) (by have := (hview v hv hhv).1; omega)) (fun b hb h1 h2 => ⟨st b hb h1, arr b (Or.inr hb) h1⟩) (fun b hb => kind b (by omega) (by omega))).ofX ?_ ?_ ?_ ?_ (pk _ hav).1 (pk _ hav).2
    · rw [ao (by decide) (by decide)]
    · rw [ao (by decide) (by decide)]
    · rw [ao (by decide) (by decide)]
    · intro i _; rw [ao (by decide) (by decide)]
  · rw [af 10 (by decide), hh, ao (f := 12) (by decide) (by decide), ao (f := 13) (by decide) (by decide)]
    intro v hv hhv i hi
    have hs := hsegs v hv hhv i hi
    exact hs.fr hF (kind _ (by have := hs.1.1; omega) (by have := hs.1.1; omega)) (arr _ (Or.inl hs.1.1) (fun e => by have := hs.1.1; rw [e] at this; omega))
/-- writes of the object's own numbers -/
theorem Rel.obj {S : mm_H} {X X' : xx_X} {W : Nat → Nat → Nat} {o nw sf vs cn : Nat} {va ga : Nat → Nat} (hL : Rel S X W o nw sf vs cn va ga) {f : Nat} {v : Int32} (h1 : X'.2.1 = X.2.1) (hf : ∀ g, g ≠ 3 → X'.1 g = X.1 g) (hX : xInv X' W) (ho : objV (mm_sI S o f v) X' o nw sf vs cn va) : Rel (mm_sI S o f v) X' W o nw sf vs cn va ga := by
  obtain ⟨hob, hns, hnw, hsf, hvK, hvL, hvs, hview, hsegs, hUQ, hXI⟩ := hL
  have hF := Fr.sI S o f v
  have ne : ∀ b, mm_K S b ≠ 4 → ¬ b = o := fun b hb e => hb (by rw [e]; exact hob.1)
  have ar : ∀ b, ∀ i c, mm_P S b i = some c → mm_K S c = 6 → ¬ c = o := fun b i c _ h6 => ne c (by omega)
  have hh : heldN X' = heldN X := heldN_of (hf 15 (by decide)) (hf 16 (by decide)) (by rw [h1])
  have pc : ∀ m, picC X' m = picC X m := fun m => by unfold picC; rw [h1]
  have pw : ∀ m, picW X' m = picW X m := fun m => by unfold picW; rw [h1]
  refine ⟨ho, hns, ?_, ?_, hvK, hvL, ?_, ?_, ?_, hUQ, hX⟩
  · rw [hf 0 (by decide), pc, pw]; exact hnw.fr hF (ne _ (by have := hnw.1; omega)) (ar nw)
  · rw [hf 17 (by decide), pc, pw]; exact hsf.fr hF (ne _ (by have := hsf.1; omega)) (ar sf)
  · rw [hf 10 (by decide), hh]; exact hvs
  · rw [hf 10 (by decide), hh]
    intro u hu hhu
    exact ((hview u hu hhu).fr hF (ne _ (by have := (hview u hu hhu).1; omega)) (fun b hb _ _ => ⟨ne b (by omega), ar b⟩) (fun b hb => ne b (by omega))).ofX (by rw [h1]) (by rw [h1]) (by rw [h1]) (fun i _ => by rw [h1]) (pc _) (pw _)
  · rw [hf 10 (by decide), hh, h1]
    intro u hu hhu i hi
    have hs := hsegs u hu hhu i hi
    exact hs.fr hF (ne _ (by have := hs.1.1; omega)) (ar _)
theorem xInv.ofc {X X' : xx_X} {W : Nat → Nat → Nat} (h : xInv X W) (h1 : X'.2.1 = X.2.1) (hf : ∀ g, g ≠ 3 → X'.1 g = X.1 g) (h3 : X'.1 3 ≤ 16) : xInv X' W := by
  obtain ⟨g1, g2, g3, g4, g5, g6, g7⟩ := h
  obtain ⟨k0, k1, k2, k3, k4, k5, k6, k7⟩ := g1
  have hh : heldN X' = heldN X := heldN_of (hf 15 (by decide)) (hf 16 (by decide)) (by rw [h1])
  have e0 := hf 0 (by decide); have e6 := hf 6 (by decide); have e9 := hf 9 (by decide); have e10 := hf 10 (by decide); have e15 := hf 15 (by decide); have e16 := hf 16 (by decide); have e17 := hf 17 (by decide)
  refine ⟨⟨by omega, by omega, by omega, by omega, by omega, by omega, by omega, by rw [h1]; exact k7⟩, fun f i => by rw [h1]; exact g2 f i, by rw [h1]; exact g3, by omega, h3, by rw [h1, e16, e17]; exact g6, ?_⟩
  rw [e10, hh, h1, e0, e6]
  intro v hv hhv
  obtain ⟨q1, q2, q3⟩ := g7 v hv hhv
  refine ⟨q1, fun i hi => ⟨(q2 i hi).1, (q2 i hi).2.1.ofX (by rw [h1]) (fun _ _ => by rw [h1]) (fun _ _ _ => by rw [h1]), (q2 i hi).2.2⟩, q3⟩
theorem mm_I_k {S : mm_H} {a k b j : Nat} {v : Int32} (h : j ≠ k) : mm_I (mm_sI S a k v) b j = mm_I S b j := by rw [mm_I_sI, if_neg (fun q => h q.2)]
theorem mm_I_a {S : mm_H} {a k b j : Nat} {v : Int32} (h : b ≠ a) : mm_I (mm_sI S a k v) b j = mm_I S b j := by rw [mm_I_sI, if_neg (fun q => h q.1)]
theorem mm_I_s {S : mm_H} {a k : Nat} {v : Int32} : mm_I (mm_sI S a k v) a k = v := by rw [mm_I_sI, if_pos ⟨rfl, rfl⟩]
theorem objV.setE {S : mm_H} {X : xx_X} {o nw sf vs cn : Nat} {va : Nat → Nat} (h : objV S X o nw sf vs cn va) (v : Int32) : objV (mm_sI S o 9 v) (xE X v) o nw sf vs cn va := by
  obtain ⟨o1, o2, o3, o4, o5, o6, o7, o8, o9, o10, o11, o12, o13⟩ := h
  exact ⟨o1, o2, o3, o4, (mm_I_k (by decide)).trans o5, o6, o7, (mm_I_k (by decide)).trans o8, (mm_I_k (by decide)).trans o9, (mm_I_k (by decide)).trans o10, mm_I_s, (mm_I_k (by decide)).trans o12, (mm_I_k (by decide)).trans o13⟩
theorem objV.setW {S : mm_H} {X : xx_X} {o nw sf vs cn : Nat} {va : Nat → Nat} (h : objV S X o nw sf vs cn va) (v : Int32) : objV (mm_sI S o 10 v) (xW X v) o nw sf vs cn va := by
  obtain ⟨o1, o2, o3, o4, o5, o6, o7, o8, o9, o10, o11, o12, o13⟩ := h
  exact ⟨o1, o2, o3, o4, (mm_I_k (by decide)).trans o5, o6, o7, (mm_I_k (by decide)).trans o8, (mm_I_k (by decide)).trans o9, (mm_I_k (by decide)).trans o10, (mm_I_k (by decide)).trans o11, mm_I_s, (mm_I_k (by decide)).trans o13⟩
theorem objV.setM {S : mm_H} {X : xx_X} {o nw sf vs cn : Nat} {va : Nat → Nat} (h : objV S X o nw sf vs cn va) (m : Nat) : objV (mm_sI S o 8 (nI m)) (xI X 3 m) o nw sf vs cn va := by
  obtain ⟨o1, o2, o3, o4, o5, o6, o7, o8, o9, o10, o11, o12, o13⟩ := h
  refine ⟨o1, o2, o3, o4, ?_, ?_, ?_, ?_, ?_, ?_, (mm_I_k (by decide)).trans o11, (mm_I_k (by decide)).trans o12, (mm_I_k (by decide)).trans o13⟩
  · rw [xI_o (by decide)]; exact (mm_I_k (by decide)).trans o5
  · rw [xI_o (by decide)]; exact o6
  · rw [xI_o (by decide)]; exact o7
  · rw [xI_o (by decide)]; exact (mm_I_k (by decide)).trans o8
  · rw [xI_o (by decide)]; exact (mm_I_k (by decide)).trans o9
  · rw [xI_s]; exact mm_I_s
