/-! THE MEMORY: one picture of all cells that the law's run makes (the class's and the reference's): the kind of each address (0: none; 1 Segment, 2 State, 3 View, 4 LiveViews, 5 LiveViewsModel; 6 int[], 7 Segment[], 8 View[]), its whole numbers (fields by their places, or elements), its references, its length. -/
abbrev mm_H : Type := (Nat → Nat) × (Nat → Nat → Int32) × (Nat → Nat → Option Nat) × (Nat → Nat)
def mm_K (S : mm_H) (a : Nat) : Nat := S.1 a
def mm_I (S : mm_H) (a k : Nat) : Int32 := S.2.1 a k
def mm_P (S : mm_H) (a k : Nat) : Option Nat := S.2.2.1 a k
def mm_L (S : mm_H) (a : Nat) : Nat := S.2.2.2 a
def mm_sI (S : mm_H) (a k : Nat) (v : Int32) : mm_H := (S.1, fun b j => if b = a ∧ j = k then v else S.2.1 b j, S.2.2.1, S.2.2.2)
def mm_sP (S : mm_H) (a k : Nat) (v : Option Nat) : mm_H := (S.1, S.2.1, fun b j => if b = a ∧ j = k then v else S.2.2.1 b j, S.2.2.2)
def mm_sR (S : mm_H) (a : Nat) (f : Nat → Int32) : mm_H := (S.1, fun b j => if b = a then f j else S.2.1 b j, S.2.2.1, S.2.2.2)
def mm_sN (S : mm_H) (a kd n : Nat) : mm_H := (fun b => if b = a then kd else S.1 b, fun b j => if b = a then 0 else S.2.1 b j, fun b j => if b = a then none else S.2.2.1 b j, fun b => if b = a then n else S.2.2.2 b)
theorem mm_K_sI (S : mm_H) (a k : Nat) (v : Int32) (b : Nat) : mm_K (mm_sI S a k v) b = mm_K S b := rfl
theorem mm_K_sP (S : mm_H) (a k : Nat) (v : Option Nat) (b : Nat) : mm_K (mm_sP S a k v) b = mm_K S b := rfl
theorem mm_K_sR (S : mm_H) (a : Nat) (f : Nat → Int32) (b : Nat) : mm_K (mm_sR S a f) b = mm_K S b := rfl
theorem mm_K_sN (S : mm_H) (a kd n b : Nat) : mm_K (mm_sN S a kd n) b = if b = a then kd else mm_K S b := rfl
theorem mm_L_sI (S : mm_H) (a k : Nat) (v : Int32) (b : Nat) : mm_L (mm_sI S a k v) b = mm_L S b := rfl
theorem mm_L_sP (S : mm_H) (a k : Nat) (v : Option Nat) (b : Nat) : mm_L (mm_sP S a k v) b = mm_L S b := rfl
theorem mm_L_sR (S : mm_H) (a : Nat) (f : Nat → Int32) (b : Nat) : mm_L (mm_sR S a f) b = mm_L S b := rfl
theorem mm_L_sN (S : mm_H) (a kd n b : Nat) : mm_L (mm_sN S a kd n) b = if b = a then n else mm_L S b := rfl
theorem mm_I_sI (S : mm_H) (a k : Nat) (v : Int32) (b j : Nat) : mm_I (mm_sI S a k v) b j = if b = a ∧ j = k then v else mm_I S b j := rfl
theorem mm_I_sP (S : mm_H) (a k : Nat) (v : Option Nat) (b j : Nat) : mm_I (mm_sP S a k v) b j = mm_I S b j := rfl
theorem mm_I_sR (S : mm_H) (a : Nat) (f : Nat → Int32) (b j : Nat) : mm_I (mm_sR S a f) b j = if b = a then f j else mm_I S b j := rfl
theorem mm_I_sN (S : mm_H) (a kd n b j : Nat) : mm_I (mm_sN S a kd n) b j = if b = a then 0 else mm_I S b j := rfl
theorem mm_P_sI (S : mm_H) (a k : Nat) (v : Int32) (b j : Nat) : mm_P (mm_sI S a k v) b j = mm_P S b j := rfl
theorem mm_P_sP (S : mm_H) (a k : Nat) (v : Option Nat) (b j : Nat) : mm_P (mm_sP S a k v) b j = if b = a ∧ j = k then v else mm_P S b j := rfl
theorem mm_P_sR (S : mm_H) (a : Nat) (f : Nat → Int32) (b j : Nat) : mm_P (mm_sR S a f) b j = mm_P S b j := rfl
theorem mm_P_sN (S : mm_H) (a kd n b j : Nat) : mm_P (mm_sN S a kd n) b j = if b = a then none else mm_P S b j := rfl
/-- which fields of a class are whole numbers -/
def mm_ly : Nat → List Bool
  | 1 => [true, false, true, true]
  | 2 => [true, false, false]
  | 3 => [true, false, false, true]
  | 4 => [false, false, false, true, false, false, true, true, true, true, true, true]
  | 5 => [true, false, false, true, true, true, true, false, false, true, true, false, false, false, false, true, true, true]
  | _ => []
def mm_fs (I : Nat → Int32) (P : Nat → Option Nat) : Nat → List Bool → List Value
  | _, [] => []
  | k, b :: t => (if b then Value.int (I k) else va_rf (P k)) :: mm_fs I P (k + 1) t
theorem mm_fs_at (I : Nat → Int32) (P : Nat → Option Nat) : ∀ (ly : List Bool) (k0 k : Nat), (mm_fs I P k0 ly)[k]? = (ly[k]?).map (fun b => if b then Value.int (I (k0 + k)) else va_rf (P (k0 + k)))
  | [], k0, k => by simp [mm_fs]
  | b :: t, k0, 0 => by simp [mm_fs]
  | b :: t, k0, k + 1 => by
    simp only [mm_fs, List.getElem?_cons_succ]
    rw [mm_fs_at I P t (k0 + 1) k, show k0 + 1 + k = k0 + (k + 1) by omega]
theorem mm_fs_len (I : Nat → Int32) (P : Nat → Option Nat) : ∀ (ly : List Bool) (k0 : Nat), (mm_fs I P k0 ly).length = ly.length
  | [], _ => rfl
  | b :: t, k0 => by simp [mm_fs, mm_fs_len I P t (k0 + 1)]
theorem mm_fs_seti {I : Nat → Int32} {P : Nat → Option Nat} {ly : List Bool} {k : Nat} (v : Int32) (h : ly[k]? = some true) : (mm_fs I P 0 ly).set k (.int v) = mm_fs (fun j => if j = k then v else I j) P 0 ly := by
  have hl : k < (mm_fs I P 0 ly).length := by rw [mm_fs_len]; exact (List.getElem?_eq_some_iff.mp h).1
  apply List.ext_getElem?
  intro j
  by_cases hj : j = k
  · subst hj
    rw [List.getElem?_set_self hl, mm_fs_at, h]
    simp
  · rw [List.getElem?_set_ne (Ne.symm hj), mm_fs_at, mm_fs_at]
    simp [hj]
theorem mm_fs_setp {I : Nat → Int32} {P : Nat → Option Nat} {ly : List Bool} {k : Nat} (v : Option Nat) (h : ly[k]? = some false) : (mm_fs I P 0 ly).set k (va_rf v) = mm_fs I (fun j => if j = k then v else P j) 0 ly := by
  have hl : k < (mm_fs I P 0 ly).length := by rw [mm_fs_len]; exact (List.getElem?_eq_some_iff.mp h).1
  apply List.ext_getElem?
  intro j
  by_cases hj : j = k
  · subst hj
    rw [List.getElem?_set_self hl, mm_fs_at, h]
    simp
  · rw [List.getElem?_set_ne (Ne.symm hj), mm_fs_at, mm_fs_at]
    simp [hj]
/-- the cell at an address -/
def mm_c (dA : Nat → ClassId) (S : mm_H) (a : Nat) : va_E :=
  if mm_K S a ≤ 5 then .inr (mm_K S a - 1, mm_fs (mm_I S a) (mm_P S a) 0 (mm_ly (mm_K S a)))
  else if mm_K S a = 6 then .inl (dA 0, mm_L S a, .inl (mm_I S a))
  else .inl (dA (mm_K S a - 6), mm_L S a, .inr (.inr (.inr (.inr (mm_P S a)))))
theorem mm_c_o {dA : Nat → ClassId} {S : mm_H} {a ci : Nat} (h : mm_K S a = ci + 1) (h5 : ci < 5) : mm_c dA S a = .inr (ci, mm_fs (mm_I S a) (mm_P S a) 0 (mm_ly (ci + 1))) := by
  unfold mm_c
  rw [if_pos (by omega), h]
  rfl
theorem mm_c_i {dA : Nat → ClassId} {S : mm_H} {a : Nat} (h : mm_K S a = 6) : mm_c dA S a = .inl (dA 0, mm_L S a, .inl (mm_I S a)) := by
  unfold mm_c
  rw [if_neg (by omega), if_pos h]
theorem mm_c_q {dA : Nat → ClassId} {S : mm_H} {a j : Nat} (h : mm_K S a = j + 6) (hj : 0 < j) : mm_c dA S a = .inl (dA j, mm_L S a, .inr (.inr (.inr (.inr (mm_P S a))))) := by
  unfold mm_c
  rw [if_neg (by omega), if_neg (by omega), h, Nat.add_sub_cancel]
theorem mm_c_congr {dA : Nat → ClassId} {S T : mm_H} {a : Nat} (hK : mm_K T a = mm_K S a) (hI : ∀ j, mm_I T a j = mm_I S a j) (hP : ∀ j, mm_P T a j = mm_P S a j) (hL : mm_L T a = mm_L S a) : mm_c dA T a = mm_c dA S a := by
  have e1 : mm_I T a = mm_I S a := funext hI
  have e2 : mm_P T a = mm_P S a := funext hP
  unfold mm_c
  rw [hK, hL, e1, e2]
/-- the list of cells that a kit's row speaks of, and the picture: the same cells -/
def mm_W (dA : Nat → ClassId) (S : mm_H) (ws : va_W) : Prop := ∀ (a : Nat) (e : va_E), (a, e) ∈ ws ↔ (mm_K S a ≠ 0 ∧ e = mm_c dA S a)
theorem mm_W.at {dA : Nat → ClassId} {S : mm_H} {ws : va_W} (h : mm_W dA S ws) {a : Nat} (ha : mm_K S a ≠ 0) : ∃ k : Nat, ws[k]? = some (a, mm_c dA S a) := List.getElem?_of_mem ((h a _).mpr ⟨ha, rfl⟩)
theorem mm_W.set {dA : Nat → ClassId} {S T : mm_H} {ws : va_W} {A : Nat → Prop} {a k : Nat} {e0 : va_E} (h : mm_W dA S ws) (hD : va_D A ws) (hk : ws[k]? = some (a, e0)) (hK : ∀ b, mm_K T b = mm_K S b) (ho : ∀ b, b ≠ a → mm_c dA T b = mm_c dA S b) {e : va_E} (he : mm_c dA T a = e) : mm_W dA T (ws.set k (a, e)) := by
  have hl := (List.getElem?_eq_some_iff.mp hk).1
  intro b e1
  constructor
  · intro hm
    obtain ⟨i, hi⟩ := List.getElem?_of_mem hm
    by_cases hik : i = k
    · subst hik
      rw [List.getElem?_set_self hl] at hi
      cases hi
      exact ⟨by rw [hK]; exact ((h a e0).mp (List.mem_of_getElem? hk)).1, he.symm⟩
    · rw [List.getElem?_set_ne (Ne.symm hik)] at hi
      have hb := (h b e1).mp (List.mem_of_getElem? hi)
      have hne : b ≠ a := fun q => hik (hD.1 i k _ _ hi hk q)
      exact ⟨by rw [hK]; exact hb.1, by rw [ho b hne]; exact hb.2⟩
  · rintro ⟨h1, h2⟩
    by_cases hb : b = a
    · subst hb
      rw [h2, he]
      exact List.mem_of_getElem? (i := k) (List.getElem?_set_self hl)
    · rw [hK] at h1
      obtain ⟨i, hi⟩ := h.at h1
      have hik : i ≠ k := fun q => by subst q; rw [hi] at hk; cases hk; exact hb rfl
      rw [h2, ho b hb]
      exact List.mem_of_getElem? (i := i) (by rw [List.getElem?_set_ne (Ne.symm hik)]; exact hi)
theorem mm_W.push {dA : Nat → ClassId} {S T : mm_H} {ws : va_W} {a : Nat} (h : mm_W dA S ws) (hf : mm_K S a = 0) (ha : mm_K T a ≠ 0) (hK : ∀ b, b ≠ a → mm_K T b = mm_K S b) (ho : ∀ b, b ≠ a → mm_c dA T b = mm_c dA S b) {e : va_E} (he : mm_c dA T a = e) : mm_W dA T (ws ++ [(a, e)]) := by
  intro b e1
  constructor
  · intro hm
    rcases List.mem_append.mp hm with hm | hm
    · have hb := (h b e1).mp hm
      have hne : b ≠ a := fun q => hb.1 (by rw [q]; exact hf)
      exact ⟨by rw [hK b hne]; exact hb.1, by rw [ho b hne]; exact hb.2⟩
    · cases List.mem_singleton.mp hm
      exact ⟨ha, he.symm⟩
  · rintro ⟨h1, h2⟩
    by_cases hb : b = a
    · subst hb
      rw [h2, he]
      exact List.mem_append_right _ (List.mem_singleton.mpr rfl)
    · rw [hK b hb] at h1
      rw [h2, ho b hb]
      exact List.mem_append_left _ ((h b _).mpr ⟨h1, rfl⟩)
theorem mm_W.fresh {dA : Nat → ClassId} {S : mm_H} {ws : va_W} {A : Nat → Prop} {a : Nat} {e : va_E} (h : mm_W dA S ws) (hD : va_D A (ws ++ [(a, e)])) : mm_K S a = 0 := by
  by_cases ha : mm_K S a = 0
  · exact ha
  · obtain ⟨k, hk⟩ := h.at ha
    have hl := (List.getElem?_eq_some_iff.mp hk).1
    have h1 : (ws ++ [(a, e)])[k]? = some (a, mm_c dA S a) := by rw [List.getElem?_append_left hl]; exact hk
    have h2 : (ws ++ [(a, e)])[ws.length]? = some (a, e) := by simp
    have := hD.1 k ws.length _ _ h1 h2 rfl
    omega
def mm_ty (dA : Nat → ClassId) : List (ClassId × FieldType) := [(dA 0, .int), (dA 1, .object "LiveViews$Segment"), (dA 2, .object "LiveViews$View")]
/-! THE TABLES' WORDS, carried from state to state -/
def tb_ok (w : Cond) : Bool := w.onTables && w.keepsH
def Tb (U : State) : Prop := (∀ w ∈ lw_tbl, tb_ok w = true → va_Nw w U) ∧ (∀ B : Array Value, (Cond.arrayClass .int).before B U = true) ∧ va_AO "LiveViews$Segment" U ∧ va_AO "LiveViews$View" U
theorem tb_on {w : Cond} (h : tb_ok w = true) : w.onTables = true := (Bool.and_eq_true_iff.mp h).1
theorem Tb.use {U : State} (h : Tb U) {w : Cond} (hw : w ∈ lw_tbl) (hk : tb_ok w = true) {B : Array Value} : w.before B U = true := va_Nw.use (tb_on hk) (h.1 w hw hk)
theorem Tb.warm {s U : State} (hW : s.WarmedH U.vm) (h : Tb s) : Tb U := by
  refine ⟨fun w hw hk => ?_, fun B => word_at hW (Or.inr ⟨.int, rfl⟩) (h.2.1 #[]), va_AO.moved hW.alike h.2.2.1, va_AO.moved hW.alike h.2.2.2⟩
  have h1 := Cond.onTables_warmH (args := #[]) (args' := #[]) (T := U) hW (tb_on hk) (Bool.and_eq_true_iff.mp hk).2 (h.1 w hw hk)
  rwa [State.setVm_self] at h1
theorem Tb.same {u U : State} (h : u.vm = U.vm) (hT : Tb u) : Tb U := by
  refine ⟨fun w hw hk => va_Nw.same (tb_on hk) h (hT.1 w hw hk), fun B => ?_, va_AO.moved (by rw [h]; exact Vm.Alike.refl _) hT.2.2.1, va_AO.moved (by rw [h]; exact Vm.Alike.refl _) hT.2.2.2⟩
  exact word_at (s := u) (U := U) (by rw [← h]; exact State.WarmedH.refl u) (Or.inr ⟨.int, rfl⟩) (hT.2.1 #[])
