/-- what is known of a class of ours -/
def cls_ok (ci : Nat) (C : String) (T : u_T) (N : Nat) (ty : Nat → FieldType) : Prop :=
  vwCl[ci]? = some (C, T, N) ∧ ci < 5 ∧ (∀ k, k < N → parseFieldDescriptor (T k).2.2.1 = some (ty k)) ∧ (∀ a, a < N → ∀ b, b < N → a ≠ b → (T a).2.1 ≠ (T b).2.1) ∧ (∀ w ∈ u_ws C T N, w ∈ lw_tbl ∧ tb_ok w = true) ∧ (mm_ly (ci + 1)).length = N ∧ (∀ j, j < N → defaultValue (ty j) = vp_V (mm_fs (fun _ => 0) (fun _ => none) 0 (mm_ly (ci + 1))) j)
theorem kl_0 : cls_ok 0 RX0 TX0 4 tyX0 := ⟨rfl, by decide, tyX0_ok, nmX0, by decide +kernel, rfl, by decide +kernel⟩
theorem kl_1 : cls_ok 1 RX1 TX1 3 tyX1 := ⟨rfl, by decide, tyX1_ok, nmX1, by decide +kernel, rfl, by decide +kernel⟩
theorem kl_2 : cls_ok 2 RX2 TX2 4 tyX2 := ⟨rfl, by decide, tyX2_ok, nmX2, by decide +kernel, rfl, by decide +kernel⟩
theorem kl_3 : cls_ok 3 RX3 TX3 12 tyX3 := ⟨rfl, by decide, tyX3_ok, nmX3, by decide +kernel, rfl, by decide +kernel⟩
theorem kl_4 : cls_ok 4 RX4 TX4 18 tyX4 := ⟨rfl, by decide, tyX4_ok, nmX4, by decide +kernel, rfl, by decide +kernel⟩
theorem cls_ok.ts {ci : Nat} {C : String} {T : u_T} {N : Nat} {ty : Nat → FieldType} (h : cls_ok ci C T N ty) {U : State} (hT : Tb U) {B : Array Value} : ∀ w ∈ u_ws C T N, w.before B U = true := fun w hw => hT.use (h.2.2.2.2.1 w hw).1 (h.2.2.2.2.1 w hw).2
theorem mm_c_sI {dA : Nat → ClassId} {S : mm_H} {a b k : Nat} {v : Int32} (h : b ≠ a) : mm_c dA (mm_sI S a k v) b = mm_c dA S b := mm_c_congr rfl (fun j => by simp [mm_I_sI, h]) (fun _ => rfl) rfl
theorem mm_c_sP {dA : Nat → ClassId} {S : mm_H} {a b k : Nat} {v : Option Nat} (h : b ≠ a) : mm_c dA (mm_sP S a k v) b = mm_c dA S b := mm_c_congr rfl (fun _ => rfl) (fun j => by simp [mm_P_sP, h]) rfl
theorem mm_c_sR {dA : Nat → ClassId} {S : mm_H} {a b : Nat} {f : Nat → Int32} (h : b ≠ a) : mm_c dA (mm_sR S a f) b = mm_c dA S b := mm_c_congr rfl (fun j => by simp [mm_I_sR, h]) (fun _ => rfl) rfl
theorem mm_c_sN {dA : Nat → ClassId} {S : mm_H} {a b kd n : Nat} (h : b ≠ a) : mm_c dA (mm_sN S a kd n) b = mm_c dA S b := mm_c_congr (by simp [mm_K_sN, h]) (fun j => by simp [mm_I_sN, h]) (fun j => by simp [mm_P_sN, h]) (by simp [mm_L_sN, h])
theorem mm_o_sI {dA : Nat → ClassId} {S : mm_H} {a k ci : Nat} {v : Int32} (hK : mm_K S a = ci + 1) (h5 : ci < 5) (hly : (mm_ly (ci + 1))[k]? = some true) : mm_c dA (mm_sI S a k v) a = .inr (ci, (mm_fs (mm_I S a) (mm_P S a) 0 (mm_ly (ci + 1))).set k (.int v)) := by
  rw [mm_c_o (ci := ci) (by rw [mm_K_sI]; exact hK) h5, mm_fs_seti v hly]
  congr 3
  funext j
  simp [mm_I_sI]
theorem mm_o_sP {dA : Nat → ClassId} {S : mm_H} {a k ci : Nat} {v : Option Nat} (hK : mm_K S a = ci + 1) (h5 : ci < 5) (hly : (mm_ly (ci + 1))[k]? = some false) : mm_c dA (mm_sP S a k v) a = .inr (ci, (mm_fs (mm_I S a) (mm_P S a) 0 (mm_ly (ci + 1))).set k (va_rf v)) := by
  rw [mm_c_o (ci := ci) (by rw [mm_K_sP]; exact hK) h5, mm_fs_setp v hly]
  congr 3
  funext j
  simp [mm_P_sP]
theorem mm_fs_lt {I : Nat → Int32} {P : Nat → Option Nat} {ly : List Bool} {k : Nat} {b : Bool} (h : ly[k]? = some b) : k < (mm_fs I P 0 ly).length := by rw [mm_fs_len]; exact (List.getElem?_eq_some_iff.mp h).1
theorem mm_fs_geti {I : Nat → Int32} {P : Nat → Option Nat} {ly : List Bool} {k : Nat} (h : ly[k]? = some true) : (mm_fs I P 0 ly)[k]? = some (.int (I k)) := by rw [mm_fs_at, h]; simp
theorem mm_fs_getp {I : Nat → Int32} {P : Nat → Option Nat} {ly : List Bool} {k : Nat} (h : ly[k]? = some false) : (mm_fs I P 0 ly)[k]? = some (va_rf (P k)) := by rw [mm_fs_at, h]; simp
theorem vv_geti {x : vv_X} {cc : ByteArray} {own : String} {fr lo mL kc ks pc : Nat} {lv : List (Nat × Value)} {st : List Value} {S : mm_H} {C : String} {T : u_T} {N ci index a : Nat} {ty : Nat → FieldType} (k : Nat) (hx : vv_C x cc own fr lo mL) (hd : decode cc pc = .ok (.getfield index, 3)) (hl : Cond.fieldLink own index (T k).1 (T k).2.1 (T k).2.2.1 ∈ lw_tbl) (hk : cls_ok ci C T N ty) (hlt : k < N) (hly : (mm_ly (ci + 1))[k]? = some true) (hK : mm_K S a = ci + 1) (kk : vv_V x kc ks (pc + 3) lv ((.int (mm_I S a k)) :: st) S) : vv_V x kc ks pc lv (.ref a :: st) S := by
  obtain ⟨p, l, e, R, s, m, args, below, meth, c, D, dA, nL, A, Q⟩ := x
  intro ws H locs cells slots ls hP hD hM hS hc hs hl'
  obtain ⟨q0, he⟩ := hM.at (a := a) (by rw [hK]; omega)
  rw [mm_c_o hK hk.2.1] at he
  exact va_get (ws := ws) (D := D) hx.1 hx.2.1 (Ts := u_ws C T N) (hk.ts hx.2.2.2.2.1) (fun _ h => h) hx.2.2.2.1 hx.2.2.2.2.2.1 hP q0 he hk.1 k hlt (hx.2.2.2.2.1.use hl rfl) (fun _ h => h) (mm_fs_geti hly) hd (kk ws H locs cells slots ls hP hD hM hS hc hs hl')
theorem vv_getp {x : vv_X} {cc : ByteArray} {own : String} {fr lo mL kc ks pc : Nat} {lv : List (Nat × Value)} {st : List Value} {S : mm_H} {C : String} {T : u_T} {N ci index a : Nat} {ty : Nat → FieldType} (k : Nat) (hx : vv_C x cc own fr lo mL) (hd : decode cc pc = .ok (.getfield index, 3)) (hl : Cond.fieldLink own index (T k).1 (T k).2.1 (T k).2.2.1 ∈ lw_tbl) (hk : cls_ok ci C T N ty) (hlt : k < N) (hly : (mm_ly (ci + 1))[k]? = some false) (hK : mm_K S a = ci + 1) (kk : vv_V x kc ks (pc + 3) lv ((va_rf (mm_P S a k)) :: st) S) : vv_V x kc ks pc lv (.ref a :: st) S := by
  obtain ⟨p, l, e, R, s, m, args, below, meth, c, D, dA, nL, A, Q⟩ := x
  intro ws H locs cells slots ls hP hD hM hS hc hs hl'
  obtain ⟨q0, he⟩ := hM.at (a := a) (by rw [hK]; omega)
  rw [mm_c_o hK hk.2.1] at he
  exact va_get (ws := ws) (D := D) hx.1 hx.2.1 (Ts := u_ws C T N) (hk.ts hx.2.2.2.2.1) (fun _ h => h) hx.2.2.2.1 hx.2.2.2.2.2.1 hP q0 he hk.1 k hlt (hx.2.2.2.2.1.use hl rfl) (fun _ h => h) (mm_fs_getp hly) hd (kk ws H locs cells slots ls hP hD hM hS hc hs hl')
theorem vv_getr {x : vv_X} {cc : ByteArray} {own : String} {fr lo mL kc ks pc : Nat} {lv : List (Nat × Value)} {st : List Value} {S : mm_H} {C : String} {T : u_T} {N ci index a : Nat} {ty : Nat → FieldType} (k : Nat) {b : Nat} (hx : vv_C x cc own fr lo mL) (hd : decode cc pc = .ok (.getfield index, 3)) (hl : Cond.fieldLink own index (T k).1 (T k).2.1 (T k).2.2.1 ∈ lw_tbl) (hk : cls_ok ci C T N ty) (hlt : k < N) (hly : (mm_ly (ci + 1))[k]? = some false) (hK : mm_K S a = ci + 1) (hb : mm_P S a k = some b) (kk : vv_V x kc ks (pc + 3) lv (.ref b :: st) S) : vv_V x kc ks pc lv (.ref a :: st) S := by
  refine vv_getp k hx hd hl hk hlt hly hK ?_
  rw [hb]
  exact kk
theorem vv_getiN {x : vv_X} {cc : ByteArray} {own : String} {fr lo mL kc ks pc : Nat} {lv : List (Nat × Value)} {st : List Value} {S : mm_H} {host : String} {C : String} {T : u_T} {N ci index a : Nat} {ty : Nat → FieldType} (k : Nat) (hx : vv_C x cc own fr lo mL) (hd : decode cc pc = .ok (.getfield index, 3)) (hl : Cond.fieldLinkNest own index (T k).1 (T k).2.1 (T k).2.2.1 host ∈ lw_tbl) (hk : cls_ok ci C T N ty) (hlt : k < N) (hly : (mm_ly (ci + 1))[k]? = some true) (hK : mm_K S a = ci + 1) (kk : vv_V x kc ks (pc + 3) lv ((.int (mm_I S a k)) :: st) S) : vv_V x kc ks pc lv (.ref a :: st) S := by
  obtain ⟨p, l, e, R, s, m, args, below, meth, c, D, dA, nL, A, Q⟩ := x
  intro ws H locs cells slots ls hP hD hM hS hc hs hl'
  obtain ⟨q0, he⟩ := hM.at (a := a) (by rw [hK]; omega)
  rw [mm_c_o hK hk.2.1] at he
  exact va_getN (ws := ws) (D := D) hx.1 hx.2.1 (Ts := u_ws C T N) (hk.ts hx.2.2.2.2.1) (fun _ h => h) hx.2.2.2.1 hx.2.2.2.2.2.1 hP q0 he hk.1 k hlt (hx.2.2.2.2.1.use hl rfl) (fun _ h => h) (mm_fs_geti hly) hd (kk ws H locs cells slots ls hP hD hM hS hc hs hl')
theorem vv_getpN {x : vv_X} {cc : ByteArray} {own : String} {fr lo mL kc ks pc : Nat} {lv : List (Nat × Value)} {st : List Value} {S : mm_H} {host : String} {C : String} {T : u_T} {N ci index a : Nat} {ty : Nat → FieldType} (k : Nat) (hx : vv_C x cc own fr lo mL) (hd : decode cc pc = .ok (.getfield index, 3)) (hl : Cond.fieldLinkNest own index (T k).1 (T k).2.1 (T k).2.2.1 host ∈ lw_tbl) (hk : cls_ok ci C T N ty) (hlt : k < N) (hly : (mm_ly (ci + 1))[k]? = some false) (hK : mm_K S a = ci + 1) (kk : vv_V x kc ks (pc + 3) lv ((va_rf (mm_P S a k)) :: st) S) : vv_V x kc ks pc lv (.ref a :: st) S := by
  obtain ⟨p, l, e, R, s, m, args, below, meth, c, D, dA, nL, A, Q⟩ := x
  intro ws H locs cells slots ls hP hD hM hS hc hs hl'
  obtain ⟨q0, he⟩ := hM.at (a := a) (by rw [hK]; omega)
  rw [mm_c_o hK hk.2.1] at he
  exact va_getN (ws := ws) (D := D) hx.1 hx.2.1 (Ts := u_ws C T N) (hk.ts hx.2.2.2.2.1) (fun _ h => h) hx.2.2.2.1 hx.2.2.2.2.2.1 hP q0 he hk.1 k hlt (hx.2.2.2.2.1.use hl rfl) (fun _ h => h) (mm_fs_getp hly) hd (kk ws H locs cells slots ls hP hD hM hS hc hs hl')
theorem vv_getrN {x : vv_X} {cc : ByteArray} {own : String} {fr lo mL kc ks pc : Nat} {lv : List (Nat × Value)} {st : List Value} {S : mm_H} {host : String} {C : String} {T : u_T} {N ci index a : Nat} {ty : Nat → FieldType} (k : Nat) {b : Nat} (hx : vv_C x cc own fr lo mL) (hd : decode cc pc = .ok (.getfield index, 3)) (hl : Cond.fieldLinkNest own index (T k).1 (T k).2.1 (T k).2.2.1 host ∈ lw_tbl) (hk : cls_ok ci C T N ty) (hlt : k < N) (hly : (mm_ly (ci + 1))[k]? = some false) (hK : mm_K S a = ci + 1) (hb : mm_P S a k = some b) (kk : vv_V x kc ks (pc + 3) lv (.ref b :: st) S) : vv_V x kc ks pc lv (.ref a :: st) S := by
  refine vv_getpN k hx hd hl hk hlt hly hK ?_
  rw [hb]
  exact kk
theorem vv_puti {x : vv_X} {cc : ByteArray} {own : String} {fr lo mL kc ks pc : Nat} {lv : List (Nat × Value)} {st : List Value} {S : mm_H} {C : String} {T : u_T} {N ci index a : Nat} {ty : Nat → FieldType} (k : Nat) {v : Int32} (hx : vv_C x cc own fr lo mL) (hd : decode cc pc = .ok (.putfield index, 3)) (hl : Cond.fieldLink own index (T k).1 (T k).2.1 (T k).2.2.1 ∈ lw_tbl) (hk : cls_ok ci C T N ty) (hlt : k < N) (hly : (mm_ly (ci + 1))[k]? = some true) (hfin : (T k).2.2.2 = false) (hty : ty k = .int) (hK : mm_K S a = ci + 1) (kk : vv_V x kc ks (pc + 3) lv st (mm_sI S a k v)) : vv_V x kc ks pc lv (.int v :: .ref a :: st) S := by
  obtain ⟨p, l, e, R, s, m, args, below, meth, c, D, dA, nL, A, Q⟩ := x
  intro ws H locs cells slots ls hP hD hM hS hc hs hl'
  obtain ⟨q0, he⟩ := hM.at (a := a) (by rw [hK]; omega)
  rw [mm_c_o hK hk.2.1] at he
  refine va_put (ws := ws) (D := D) (ty := .int) (v := .int v) hx.1 hx.2.1 (Ts := u_ws C T N) (hk.ts hx.2.2.2.2.1) (fun _ h => h) ty hk.2.2.1 hk.2.2.2.1 hx.2.2.2.1 hx.2.2.2.2.2.1 hP hD hS q0 he hk.1 k hlt (hx.2.2.2.2.1.use hl rfl) (fun _ h => h) hfin (by rw [hk.2.2.1 k hlt, hty]) rfl rfl (mm_fs_lt hly) hd (fun H1 locs1 hP1 hD1 hS1 => ?_)
  exact kk _ H1 locs1 cells slots ls hP1 hD1 (hM.set (T := (mm_sI S a k v)) hD he (fun _ => rfl) (fun b hb => mm_c_sI hb) (mm_o_sI hK hk.2.1 hly)) hS1 hc hs hl'
theorem vv_putr {x : vv_X} {cc : ByteArray} {own : String} {fr lo mL kc ks pc : Nat} {lv : List (Nat × Value)} {st : List Value} {S : mm_H} {C : String} {T : u_T} {N ci index a : Nat} {ty : Nat → FieldType} (k : Nat) {v : Nat} (hx : vv_C x cc own fr lo mL) (hd : decode cc pc = .ok (.putfield index, 3)) (hl : Cond.fieldLink own index (T k).1 (T k).2.1 (T k).2.2.1 ∈ lw_tbl) (hk : cls_ok ci C T N ty) (hlt : k < N) (hly : (mm_ly (ci + 1))[k]? = some false) (hfin : (T k).2.2.2 = false) {tk : FieldType} (hty : ty k = tk) (hn : narrow tk (.ref v) = .ref v) (hf : fits tk (.ref v) = true) (hK : mm_K S a = ci + 1) (kk : vv_V x kc ks (pc + 3) lv st (mm_sP S a k (some v))) : vv_V x kc ks pc lv (.ref v :: .ref a :: st) S := by
  obtain ⟨p, l, e, R, s, m, args, below, meth, c, D, dA, nL, A, Q⟩ := x
  intro ws H locs cells slots ls hP hD hM hS hc hs hl'
  obtain ⟨q0, he⟩ := hM.at (a := a) (by rw [hK]; omega)
  rw [mm_c_o hK hk.2.1] at he
  refine va_put (ws := ws) (D := D) (ty := tk) (v := .ref v) hx.1 hx.2.1 (Ts := u_ws C T N) (hk.ts hx.2.2.2.2.1) (fun _ h => h) ty hk.2.2.1 hk.2.2.2.1 hx.2.2.2.1 hx.2.2.2.2.2.1 hP hD hS q0 he hk.1 k hlt (hx.2.2.2.2.1.use hl rfl) (fun _ h => h) hfin (by rw [hk.2.2.1 k hlt, hty]) hn hf (mm_fs_lt hly) hd (fun H1 locs1 hP1 hD1 hS1 => ?_)
  exact kk _ H1 locs1 cells slots ls hP1 hD1 (hM.set (T := (mm_sP S a k (some v))) hD he (fun _ => rfl) (fun b hb => mm_c_sP hb) (mm_o_sP hK hk.2.1 hly)) hS1 hc hs hl'
theorem vv_putiF {x : vv_X} {cc : ByteArray} {own : String} {fr lo mL kc ks pc : Nat} {lv : List (Nat × Value)} {st : List Value} {S : mm_H} {C : String} {T : u_T} {N ci index a : Nat} {ty : Nat → FieldType} (k : Nat) {v : Int32} (hx : vv_C x cc own fr lo mL) (hd : decode cc pc = .ok (.putfield index, 3)) (hl : Cond.fieldLink own index (T k).1 (T k).2.1 (T k).2.2.1 ∈ lw_tbl) (hk : cls_ok ci C T N ty) (hlt : k < N) (hly : (mm_ly (ci + 1))[k]? = some true) (hfin : (T k).2.2.2 = true) (hin : vv_N (x)) (hdecl : (T k).1 = own) (hty : ty k = .int) (hK : mm_K S a = ci + 1) (kk : vv_V x kc ks (pc + 3) lv st (mm_sI S a k v)) : vv_V x kc ks pc lv (.int v :: .ref a :: st) S := by
  obtain ⟨p, l, e, R, s, m, args, below, meth, c, D, dA, nL, A, Q⟩ := x
  intro ws H locs cells slots ls hP hD hM hS hc hs hl'
  obtain ⟨q0, he⟩ := hM.at (a := a) (by rw [hK]; omega)
  rw [mm_c_o hK hk.2.1] at he
  refine va_putF (ws := ws) (D := D) (ty := .int) (v := .int v) hx.1 hx.2.1 (Ts := u_ws C T N) (hk.ts hx.2.2.2.2.1) (fun _ h => h) ty hk.2.2.1 hk.2.2.2.1 hx.2.2.2.1 hx.2.2.2.2.2.1 hP hD hS q0 he hk.1 k hlt (hx.2.2.2.2.1.use hl rfl) (fun _ h => h) hfin hin hdecl (by rw [hk.2.2.1 k hlt, hty]) rfl rfl (mm_fs_lt hly) hd (fun H1 locs1 hP1 hD1 hS1 => ?_)
  exact kk _ H1 locs1 cells slots ls hP1 hD1 (hM.set (T := (mm_sI S a k v)) hD he (fun _ => rfl) (fun b hb => mm_c_sI hb) (mm_o_sI hK hk.2.1 hly)) hS1 hc hs hl'
theorem vv_putrF {x : vv_X} {cc : ByteArray} {own : String} {fr lo mL kc ks pc : Nat} {lv : List (Nat × Value)} {st : List Value} {S : mm_H} {C : String} {T : u_T} {N ci index a : Nat} {ty : Nat → FieldType} (k : Nat) {v : Nat} (hx : vv_C x cc own fr lo mL) (hd : decode cc pc = .ok (.putfield index, 3)) (hl : Cond.fieldLink own index (T k).1 (T k).2.1 (T k).2.2.1 ∈ lw_tbl) (hk : cls_ok ci C T N ty) (hlt : k < N) (hly : (mm_ly (ci + 1))[k]? = some false) (hfin : (T k).2.2.2 = true) (hin : vv_N (x)) (hdecl : (T k).1 = own) {tk : FieldType} (hty : ty k = tk) (hn : narrow tk (.ref v) = .ref v) (hf : fits tk (.ref v) = true) (hK : mm_K S a = ci + 1) (kk : vv_V x kc ks (pc + 3) lv st (mm_sP S a k (some v))) : vv_V x kc ks pc lv (.ref v :: .ref a :: st) S := by
  obtain ⟨p, l, e, R, s, m, args, below, meth, c, D, dA, nL, A, Q⟩ := x
  intro ws H locs cells slots ls hP hD hM hS hc hs hl'
  obtain ⟨q0, he⟩ := hM.at (a := a) (by rw [hK]; omega)
  rw [mm_c_o hK hk.2.1] at he
  refine va_putF (ws := ws) (D := D) (ty := tk) (v := .ref v) hx.1 hx.2.1 (Ts := u_ws C T N) (hk.ts hx.2.2.2.2.1) (fun _ h => h) ty hk.2.2.1 hk.2.2.2.1 hx.2.2.2.1 hx.2.2.2.2.2.1 hP hD hS q0 he hk.1 k hlt (hx.2.2.2.2.1.use hl rfl) (fun _ h => h) hfin hin hdecl (by rw [hk.2.2.1 k hlt, hty]) hn hf (mm_fs_lt hly) hd (fun H1 locs1 hP1 hD1 hS1 => ?_)
  exact kk _ H1 locs1 cells slots ls hP1 hD1 (hM.set (T := (mm_sP S a k (some v))) hD he (fun _ => rfl) (fun b hb => mm_c_sP hb) (mm_o_sP hK hk.2.1 hly)) hS1 hc hs hl'
theorem vv_putiN {x : vv_X} {cc : ByteArray} {own : String} {fr lo mL kc ks pc : Nat} {lv : List (Nat × Value)} {st : List Value} {S : mm_H} {host : String} {C : String} {T : u_T} {N ci index a : Nat} {ty : Nat → FieldType} (k : Nat) {v : Int32} (hx : vv_C x cc own fr lo mL) (hd : decode cc pc = .ok (.putfield index, 3)) (hl : Cond.fieldLinkNest own index (T k).1 (T k).2.1 (T k).2.2.1 host ∈ lw_tbl) (hk : cls_ok ci C T N ty) (hlt : k < N) (hly : (mm_ly (ci + 1))[k]? = some true) (hfin : (T k).2.2.2 = false) (hty : ty k = .int) (hK : mm_K S a = ci + 1) (kk : vv_V x kc ks (pc + 3) lv st (mm_sI S a k v)) : vv_V x kc ks pc lv (.int v :: .ref a :: st) S := by
  obtain ⟨p, l, e, R, s, m, args, below, meth, c, D, dA, nL, A, Q⟩ := x
  intro ws H locs cells slots ls hP hD hM hS hc hs hl'
  obtain ⟨q0, he⟩ := hM.at (a := a) (by rw [hK]; omega)
  rw [mm_c_o hK hk.2.1] at he
  refine va_putN (ws := ws) (D := D) (ty := .int) (v := .int v) hx.1 hx.2.1 (Ts := u_ws C T N) (hk.ts hx.2.2.2.2.1) (fun _ h => h) ty hk.2.2.1 hk.2.2.2.1 hx.2.2.2.1 hx.2.2.2.2.2.1 hP hD hS q0 he hk.1 k hlt (hx.2.2.2.2.1.use hl rfl) (fun _ h => h) hfin (by rw [hk.2.2.1 k hlt, hty]) rfl rfl (mm_fs_lt hly) hd (fun H1 locs1 hP1 hD1 hS1 => ?_)
  exact kk _ H1 locs1 cells slots ls hP1 hD1 (hM.set (T := (mm_sI S a k v)) hD he (fun _ => rfl) (fun b hb => mm_c_sI hb) (mm_o_sI hK hk.2.1 hly)) hS1 hc hs hl'
theorem vv_iald {x : vv_X} {cc : ByteArray} {own : String} {fr lo mL kc ks pc : Nat} {lv : List (Nat × Value)} {st : List Value} {S : mm_H} {a j : Nat} {i : Int32} (hx : vv_C x cc own fr lo mL) (hd : decode cc pc = .ok (.iaload, 1)) (hK : mm_K S a = 6) (hi : i = nI j) (hj : j < mm_L S a) (hb : mm_L S a < 2 ^ 31) (kk : vv_V x kc ks (pc + 1) lv (.int (mm_I S a j) :: st) S) : vv_V x kc ks pc lv (.int i :: .ref a :: st) S := by
  obtain ⟨p, l, e, R, s, m, args, below, meth, c, D, dA, nL, A, Q⟩ := x
  intro ws H locs cells slots ls hP hD hM hS hc hs hl'
  obtain ⟨q0, he⟩ := hM.at (a := a) (by rw [hK]; omega)
  rw [mm_c_i hK] at he
  subst hi
  refine va_iald hx.1 hx.2.1 hx.2.2.2.2.2.1 hP q0 0 he rfl (vp_in_nI hj hb) hd ?_
  rw [nI_clamp (Nat.lt_trans hj hb)]
  exact kk ws H locs cells slots ls hP hD hM hS hc hs hl'
theorem vv_iast {x : vv_X} {cc : ByteArray} {own : String} {fr lo mL kc ks pc : Nat} {lv : List (Nat × Value)} {st : List Value} {S : mm_H} {a j : Nat} {i v : Int32} (hx : vv_C x cc own fr lo mL) (hd : decode cc pc = .ok (.iastore, 1)) (hK : mm_K S a = 6) (hi : i = nI j) (hj : j < mm_L S a) (hb : mm_L S a < 2 ^ 31) (kk : vv_V x kc ks (pc + 1) lv st (mm_sI S a j v)) : vv_V x kc ks pc lv (.int v :: .int i :: .ref a :: st) S := by
  obtain ⟨p, l, e, R, s, m, args, below, meth, c, D, dA, nL, A, Q⟩ := x
  intro ws H locs cells slots ls hP hD hM hS hc hs hl'
  obtain ⟨q0, he⟩ := hM.at (a := a) (by rw [hK]; omega)
  rw [mm_c_i hK] at he
  subst hi
  refine va_iast hx.1 hx.2.1 hx.2.2.2.2.2.1 hP hD hS q0 0 he rfl (vp_in_nI hj hb) hd (fun H1 locs1 hP1 hD1 hS1 => ?_)
  refine kk _ H1 locs1 cells slots ls hP1 hD1 (hM.set (T := mm_sI S a j v) hD he (fun _ => rfl) (fun b hb => mm_c_sI hb) ?_) hS1 hc hs hl'
  rw [mm_c_i (by rw [mm_K_sI]; exact hK), nI_clamp (Nat.lt_trans hj hb), mm_L_sI]
  congr 4
  funext q
  by_cases hq : q = j
  · subst hq; simp [mm_I_sI, upd]
  · simp [mm_I_sI, upd, hq]
theorem vv_alen {x : vv_X} {cc : ByteArray} {own : String} {fr lo mL kc ks pc : Nat} {lv : List (Nat × Value)} {st : List Value} {S : mm_H} {a j : Nat} {C : String} (hx : vv_C x cc own fr lo mL) (hd : decode cc pc = .ok (.arraylength, 1)) (hK : mm_K S a = j + 6) (hj : 0 < j) (ht : ∀ dA, (mm_ty dA)[j]? = some (dA j, .object C)) (kk : vv_V x kc ks (pc + 1) lv (.int (nI (mm_L S a)) :: st) S) : vv_V x kc ks pc lv (.ref a :: st) S := by
  obtain ⟨p, l, e, R, s, m, args, below, meth, c, D, dA, nL, A, Q⟩ := x
  intro ws H locs cells slots ls hP hD hM hS hc hs hl'
  obtain ⟨q0, he⟩ := hM.at (a := a) (by rw [hK]; omega)
  rw [mm_c_q hK hj] at he
  exact va_alen hx.1 hx.2.1 hx.2.2.2.2.2.1 hP q0 j he (ht dA) rfl hd (kk ws H locs cells slots ls hP hD hM hS hc hs hl')
theorem vv_aald {x : vv_X} {cc : ByteArray} {own : String} {fr lo mL kc ks pc : Nat} {lv : List (Nat × Value)} {st : List Value} {S : mm_H} {a j i' : Nat} {i : Int32} {C : String} (hx : vv_C x cc own fr lo mL) (hd : decode cc pc = .ok (.aaload, 1)) (hK : mm_K S a = j + 6) (hj : 0 < j) (ht : ∀ dA, (mm_ty dA)[j]? = some (dA j, .object C)) (hi : i = nI i') (hj' : i' < mm_L S a) (hb : mm_L S a < 2 ^ 31) (kk : vv_V x kc ks (pc + 1) lv (va_rf (mm_P S a i') :: st) S) : vv_V x kc ks pc lv (.int i :: .ref a :: st) S := by
  obtain ⟨p, l, e, R, s, m, args, below, meth, c, D, dA, nL, A, Q⟩ := x
  intro ws H locs cells slots ls hP hD hM hS hc hs hl'
  obtain ⟨q0, he⟩ := hM.at (a := a) (by rw [hK]; omega)
  rw [mm_c_q hK hj] at he
  subst hi
  refine va_aldq hx.1 hx.2.1 hx.2.2.2.2.2.1 hP q0 j he (ht dA) (vp_in_nI hj' hb) hd ?_
  rw [nI_clamp (Nat.lt_trans hj' hb)]
  exact kk ws H locs cells slots ls hP hD hM hS hc hs hl'
theorem vv_aast {x : vv_X} {cc : ByteArray} {own : String} {fr lo mL kc ks pc : Nat} {lv : List (Nat × Value)} {st : List Value} {S : mm_H} {a j i' v ci N : Nat} {i : Int32} {C : String} {T : u_T} {ty : Nat → FieldType} (hx : vv_C x cc own fr lo mL) (hd : decode cc pc = .ok (.aastore, 1)) (hK : mm_K S a = j + 6) (hj : 0 < j) (ht : ∀ dA, (mm_ty dA)[j]? = some (dA j, .object C)) (hi : i = nI i') (hj' : i' < mm_L S a) (hb : mm_L S a < 2 ^ 31) (hk : cls_ok ci C T N ty) (hv : mm_K S v = ci + 1) (kk : vv_V x kc ks (pc + 1) lv st (mm_sP S a i' (some v))) : vv_V x kc ks pc lv (.ref v :: .int i :: .ref a :: st) S := by
  obtain ⟨p, l, e, R, s, m, args, below, meth, c, D, dA, nL, A, Q⟩ := x
  intro ws H locs cells slots ls hP hD hM hS hc hs hl'
  obtain ⟨q0, he⟩ := hM.at (a := a) (by rw [hK]; omega)
  obtain ⟨q1, he1⟩ := hM.at (a := v) (by rw [hv]; omega)
  rw [mm_c_q hK hj] at he
  rw [mm_c_o hv hk.2.1] at he1
  subst hi
  refine va_astq (r := (C, T, N)) hx.1 hx.2.1 hx.2.2.2.2.2.1 hP hD hS q0 j q1 ci he (ht dA) he1 hk.1 (vp_in_nI hj' hb) hd (fun H1 locs1 hP1 hD1 hS1 => ?_)
  refine kk _ H1 locs1 cells slots ls hP1 hD1 (hM.set (T := mm_sP S a i' (some v)) hD he (fun _ => rfl) (fun b hb => mm_c_sP hb) ?_) hS1 hc hs hl'
  rw [mm_c_q (j := j) (by rw [mm_K_sP]; exact hK) hj, nI_clamp (Nat.lt_trans hj' hb), mm_L_sP]
  congr 7
  funext q
  by_cases hq : q = i'
  · subst hq; simp [mm_P_sP, va_up]
  · simp [mm_P_sP, va_up, hq]
theorem vv_aastN {x : vv_X} {cc : ByteArray} {own : String} {fr lo mL kc ks pc : Nat} {lv : List (Nat × Value)} {st : List Value} {S : mm_H} {a j i' : Nat} {i : Int32} {C : String} (hx : vv_C x cc own fr lo mL) (hd : decode cc pc = .ok (.aastore, 1)) (hK : mm_K S a = j + 6) (hj : 0 < j) (ht : ∀ dA, (mm_ty dA)[j]? = some (dA j, .object C)) (hi : i = nI i') (hj' : i' < mm_L S a) (hb : mm_L S a < 2 ^ 31) (kk : vv_V x kc ks (pc + 1) lv st (mm_sP S a i' none)) : vv_V x kc ks pc lv (.null :: .int i :: .ref a :: st) S := by
  obtain ⟨p, l, e, R, s, m, args, below, meth, c, D, dA, nL, A, Q⟩ := x
  intro ws H locs cells slots ls hP hD hM hS hc hs hl'
  obtain ⟨q0, he⟩ := hM.at (a := a) (by rw [hK]; omega)
  rw [mm_c_q hK hj] at he
  subst hi
  refine va_astqN hx.1 hx.2.1 hx.2.2.2.2.2.1 hP hD hS q0 j he (ht dA) (vp_in_nI hj' hb) hd (fun H1 locs1 hP1 hD1 hS1 => ?_)
  refine kk _ H1 locs1 cells slots ls hP1 hD1 (hM.set (T := mm_sP S a i' none) hD he (fun _ => rfl) (fun b hb => mm_c_sP hb) ?_) hS1 hc hs hl'
  rw [mm_c_q (j := j) (by rw [mm_K_sP]; exact hK) hj, nI_clamp (Nat.lt_trans hj' hb), mm_L_sP]
  congr 7
  funext q
  by_cases hq : q = i'
  · subst hq; simp [mm_P_sP, va_up]
  · simp [mm_P_sP, va_up, hq]
theorem vv_new {x : vv_X} {cc : ByteArray} {own : String} {fr lo mL kc ks pc : Nat} {lv : List (Nat × Value)} {st : List Value} {S : mm_H} {C : String} {T : u_T} {N ci index kc' ks' : Nat} {ty : Nat → FieldType} (hx : vv_C x cc own fr lo mL) (hd : decode cc pc = .ok (.new index, 3)) (hl : Cond.classLink own index C ∈ lw_tbl) (hk : cls_ok ci C T N ty) (hi : Cond.instantiable C N ∈ lw_tbl) (hn : Cond.initialized C ∈ lw_tbl) (h1 : kc = kc' + 1) (h2 : ks = ks' + N) (kk : ∀ q, mm_K S q = 0 → vv_V x kc' ks' (pc + 3) lv (.ref q :: st) (mm_sN S q (ci + 1) 0)) : vv_V x kc ks pc lv st S := by
  obtain ⟨p, l, e, R, s, m, args, below, meth, c, D, dA, nL, A, Q⟩ := x
  intro ws H locs cells slots ls hP hD hM hS hc hs hl'
  subst h1; subst h2
  refine va_new (ci := ci) (fs := mm_fs (fun _ => 0) (fun _ => none) 0 (mm_ly (ci + 1))) hx.1 hx.2.1 (Ts := u_ws C T N) (hk.ts hx.2.2.2.2.1) (fun _ h => h) ty hk.2.2.1 hx.2.2.2.1 (hx.2.2.2.2.1.use hl rfl) (hx.2.2.2.2.1.use hi rfl) (hx.2.2.2.2.1.use hn rfl) hx.2.2.2.2.2.1 hP hD hS hx.2.2.2.2.2.2.1 hk.1 hk.2.2.2.2.2.2 (by omega) (by omega) hd (fun q H1 hP1 hD1 hS1 => ?_)
  have hf := hM.fresh hD1
  refine kk q hf _ H1 locs (cells + 1) (slots + N) ls hP1 hD1 (hM.push hf (by simp [mm_K_sN]) (fun b hb => by simp [mm_K_sN, hb]) (fun b hb => mm_c_sN hb) ?_) hS1 (by omega) (by omega) hl'
  rw [mm_c_o (ci := ci) (by simp [mm_K_sN]) hk.2.1]
  congr 3
  · funext j; simp [mm_I_sN]
  · funext j; simp [mm_P_sN]
theorem vv_newi {x : vv_X} {cc : ByteArray} {own : String} {fr lo mL kc ks pc : Nat} {lv : List (Nat × Value)} {st : List Value} {S : mm_H} {z kc' ks' : Nat} {n : Int32} (hx : vv_C x cc own fr lo mL) (hd : decode cc pc = .ok (.newarray .int, 2)) (hn : n = nI z) (hz : z ≤ 100000) (h1 : kc = kc' + 1) (h2 : ks = ks' + z) (kk : ∀ q, mm_K S q = 0 → vv_V x kc' ks' (pc + 2) lv (.ref q :: st) (mm_sN S q 6 z)) : vv_V x kc ks pc lv (.int n :: st) S := by
  obtain ⟨p, l, e, R, s, m, args, below, meth, c, D, dA, nL, A, Q⟩ := x
  intro ws H locs cells slots ls hP hD hM hS hc hs hl'
  subst h1; subst h2; subst hn
  refine va_newa (atype := .int) (ty := .int) (a0 := (z, .inl (fun _ => 0))) (N' := z) hx.1 hx.2.1 (hx.2.2.2.2.1.2.1 args) rfl hx.2.2.2.2.2.1 hP hD hS hx.2.2.2.2.2.2.1 (fun cA => rfl) (nI_pos (by omega)) (nI_clamp (by omega)) (by show z * 4 ≤ _; omega) (by omega) (by omega) hd (fun q cA H1 hK1 hP1 hD1 hS1 => ?_)
  have hf := hM.fresh hD1
  have hcA : cA = dA 0 := by
    have e1 : s.vm.findClass ("[" ++ (FieldType.int).toString) = some cA := (hK1.2 3 (cA, .int) rfl).2
    have e2 : s.vm.findClass ("[" ++ (FieldType.int).toString) = some (dA 0) := (hx.2.2.2.2.2.1.2 0 (dA 0, .int) rfl).2
    exact Option.some.inj (e1.symm.trans e2)
  subst hcA
  refine kk q hf _ H1 locs (cells + 1) (slots + z) ls hP1 hD1 (hM.push hf (by simp [mm_K_sN]) (fun b hb => by simp [mm_K_sN, hb]) (fun b hb => mm_c_sN hb) ?_) hS1 (by omega) (by omega) hl'
  rw [mm_c_i (by simp [mm_K_sN])]
  congr 4
  · simp [mm_L_sN]
  · funext j; simp [mm_I_sN]
theorem vv_newq {x : vv_X} {cc : ByteArray} {own : String} {fr lo mL kc ks pc : Nat} {lv : List (Nat × Value)} {st : List Value} {S : mm_H} {z kc' ks' j index : Nat} {n : Int32} {C : String} (hx : vv_C x cc own fr lo mL) (hd : decode cc pc = .ok (.anewarray index, 3)) (hl : Cond.classLink own index C ∈ lw_tbl) (hj : 0 < j) (ht : ∀ dA, (mm_ty dA)[j]? = some (dA j, .object C)) (hC : C = "LiveViews$Segment" ∨ C = "LiveViews$View") (hn : n = nI z) (hz : z ≤ 100000) (h1 : kc = kc' + 1) (h2 : ks = ks' + z) (kk : ∀ q, mm_K S q = 0 → vv_V x kc' ks' (pc + 3) lv (.ref q :: st) (mm_sN S q (j + 6) z)) : vv_V x kc ks pc lv (.int n :: st) S := by
  obtain ⟨p, l, e, R, s, m, args, below, meth, c, D, dA, nL, A, Q⟩ := x
  intro ws H locs cells slots ls hP hD hM hS hc hs hl'
  subst h1; subst h2; subst hn
  have hAO : va_AO C s := by
    rcases hC with rfl | rfl
    · exact hx.2.2.2.2.1.2.2.1
    · exact hx.2.2.2.2.1.2.2.2
  refine va_newq (N' := z) hx.1 hx.2.1 hx.2.2.2.1 (hx.2.2.2.2.1.use hl rfl) hAO hx.2.2.2.2.2.1 hP hD hS hx.2.2.2.2.2.2.1 (nI_pos (by omega)) (nI_clamp (by omega)) (by omega) (by omega) (by omega) hd (fun q cA H1 hK1 hP1 hD1 hS1 => ?_)
  have hf := hM.fresh hD1
  have hcA : cA = dA j := by
    obtain ⟨_, _, -, -, -, e1⟩ := (hK1.2 3 (cA, .object C) rfl).2
    obtain ⟨_, _, -, -, -, e2⟩ := (hx.2.2.2.2.2.1.2 j (dA j, .object C) (ht dA)).2
    exact Option.some.inj (e1.symm.trans e2)
  subst hcA
  refine kk q hf _ H1 locs (cells + 1) (slots + z) ls hP1 hD1 (hM.push hf (by simp [mm_K_sN]) (fun b hb => by simp [mm_K_sN, hb]) (fun b hb => mm_c_sN hb) ?_) hS1 (by omega) (by omega) hl'
  rw [mm_c_q (j := j) (by simp [mm_K_sN]) hj]
  congr 7
  · simp [mm_L_sN]
  · funext i; simp [mm_P_sN]
theorem vv_copy {x : vv_X} {cc : ByteArray} {own : String} {fr lo mL kc ks pc : Nat} {lv : List (Nat × Value)} {st : List Value} {S : mm_H} {a d z index : Nat} {n : Int32} (hx : vv_C x cc own fr lo mL) (hd : decode cc pc = .ok (.invokestatic index, 3)) (hl : Cond.methodLink own index arraycopyName ∈ lw_tbl) (hl1 : Cond.native arraycopyName ∈ lw_tbl) (hl2 : Cond.static arraycopyName ∈ lw_tbl) (hl3 : Cond.initialized "java/lang/System" ∈ lw_tbl) (hKa : mm_K S a = 6) (hKd : mm_K S d = 6) (hn : n = nI z) (hz : z < 2 ^ 31) (ha : z ≤ mm_L S a) (hdl : z ≤ mm_L S d) (hfr : 1 ≤ fr) (hlo : (st.map fun v => v.category).sum + (nativeFrameWords "java/lang/System" "arraycopy" 5 + 11) ≤ lo) (kk : vv_V x kc ks (pc + 3) lv st (mm_sR S d (fun j => if j < z then mm_I S a j else mm_I S d j))) : vv_V x kc ks pc lv (.int n :: .int 0 :: .ref d :: .int 0 :: .ref a :: st) S := by
  obtain ⟨p, l, e, R, s, m, args, below, meth, c, D, dA, nL, A, Q⟩ := x
  intro ws H locs cells slots ls hP hD hM hS hc hs hl'
  obtain ⟨q0, he⟩ := hM.at (a := a) (by rw [hKa]; omega)
  obtain ⟨q1, he1⟩ := hM.at (a := d) (by rw [hKd]; omega)
  rw [mm_c_i hKa] at he
  rw [mm_c_i hKd] at he1
  subst hn
  have e0 : (0 : Int32).toNatClampNeg = 0 := rfl
  refine va_copyi (ty := .int) hx.1 hx.2.1 (by rw [hx.2.2.1]; exact hl'.1.symm) hx.2.2.2.1 (hx.2.2.2.2.1.use hl rfl) (hx.2.2.2.2.1.use hl1 rfl) (hx.2.2.2.2.1.use hl2 rfl) (hx.2.2.2.2.1.use hl3 rfl) hx.2.2.2.2.2.1 hP hD hS q0 q1 0 0 he he1 rfl rfl rfl (by decide) (by decide) (nI_pos hz) (by rw [e0, nI_clamp hz, Nat.zero_add]; exact ha) (by rw [e0, nI_clamp hz, Nat.zero_add]; exact hdl) (fun _ _ => rfl) (by rw [hx.2.2.2.2.2.2.2.1]; exact hfr) (by rw [hx.2.2.2.2.2.2.2.2.1]; exact hlo) hd (fun H1 locs1 hP1 hD1 hS1 => ?_)
  refine kk _ H1 locs1 cells slots ls hP1 hD1 (hM.set (T := mm_sR S d (fun j => if j < z then mm_I S a j else mm_I S d j)) hD he1 (fun _ => rfl) (fun b hb => mm_c_sR hb) ?_) hS1 hc hs hl'
  rw [mm_c_i (by rw [mm_K_sR]; exact hKd), e0, nI_clamp hz, mm_L_sR]
  congr 4
  funext q
  simp [mm_I_sR, va_cpy]
theorem vv_objInit {x : vv_X} {cc : ByteArray} {own : String} {fr lo mL kc ks pc : Nat} {lv : List (Nat × Value)} {st : List Value} {S : mm_H} {a idx : Nat} (hx : vv_C x cc own fr lo mL) (hd : decode cc pc = .ok (.invokespecial idx, 3)) (hl : Cond.methodLink own idx objectInit ∈ lw_tbl) (hl1 : Cond.instanceMethod objectInit ∈ lw_tbl) (hl2 : Cond.code objectInit ⟨#[0xb1]⟩ 1 none ∈ lw_tbl) (hfr : 1 ≤ fr) (hlo : (st.map fun v => v.category).sum + 12 ≤ lo) (kk : vv_V x kc ks (pc + 3) lv st S) : vv_V x kc ks pc lv (.ref a :: st) S := by
  obtain ⟨p, l, e, R, s, m, args, below, meth, c, D, dA, nL, A, Q⟩ := x
  intro ws H locs cells slots ls hP hD hM hS hc hs hl'
  refine W.objInit hx.1 hx.2.1 hx.2.2.2.1 (hx.2.2.2.2.1.use hl rfl) (hx.2.2.2.2.1.use hl1 rfl) (hx.2.2.2.2.1.use hl2 rfl) rfl (by rw [hx.2.2.1]; exact hl'.1) rfl hd (by rw [hx.2.2.2.2.2.2.2.1]; exact hfr) (by rw [hx.2.2.2.2.2.2.2.2.1]; show 2 * 0 + _ + 12 ≤ lo; omega) ?_
  exact kk ws H locs cells slots ls hP hD hM hS hc hs hl'
theorem vv_iret {x : vv_X} {cc : ByteArray} {own : String} {fr lo mL kc ks pc : Nat} {lv : List (Nat × Value)} {S : mm_H} {post : Option Value → mm_H → Prop} {r : Int32} (hx : vv_C x cc own fr lo mL) (he : vv_E x (some .int) post) (hd : decode cc pc = .ok (.ireturn, 1)) (hp : post (some (.int r)) S) : vv_V x kc ks pc lv [.int r] S := by
  obtain ⟨p, l, e, R, s, m, args, below, meth, c, D, dA, nL, A, Q⟩ := x
  intro ws H locs cells slots ls hP hD hM hS hc hs hl'
  obtain ⟨hQ, hr⟩ := he
  subst hQ
  have hlocks : meth.locks = false := hx.2.2.2.2.2.2.2.2.2.1
  refine W.widen (k := R.cells) (n := R.slots) (by omega) (by omega) ?_
  exact W.iret (v := r) hx.1 hx.2.1 hr (fun t ht hW => ⟨⟨some (.int r), S, ws, rfl, hp, hM, by rw [ht]; exact hP, hD⟩, hS.F ht⟩) hS.2.2 hd hlocks
theorem vv_zret {x : vv_X} {cc : ByteArray} {own : String} {fr lo mL kc ks pc : Nat} {lv : List (Nat × Value)} {S : mm_H} {post : Option Value → mm_H → Prop} {r : Int32} (hx : vv_C x cc own fr lo mL) (he : vv_E x (some .boolean) post) (hd : decode cc pc = .ok (.ireturn, 1)) (hr01 : r = 0 ∨ r = 1) (hp : post (some (.int r)) S) : vv_V x kc ks pc lv [.int r] S := by
  obtain ⟨p, l, e, R, s, m, args, below, meth, c, D, dA, nL, A, Q⟩ := x
  intro ws H locs cells slots ls hP hD hM hS hc hs hl'
  obtain ⟨hQ, hr⟩ := he
  subst hQ
  have hlocks : meth.locks = false := hx.2.2.2.2.2.2.2.2.2.1
  refine W.widen (k := R.cells) (n := R.slots) (by omega) (by omega) ?_
  exact W.zret (v := r) hx.1 hx.2.1 hr (by rcases hr01 with rfl | rfl <;> rfl) (fun t ht hW => ⟨⟨some (.int r), S, ws, rfl, hp, hM, by rw [ht]; exact hP, hD⟩, hS.F ht⟩) hS.2.2 hd hlocks
theorem vv_vret {x : vv_X} {cc : ByteArray} {own : String} {fr lo mL kc ks pc : Nat} {lv : List (Nat × Value)} {S : mm_H} {post : Option Value → mm_H → Prop} (hx : vv_C x cc own fr lo mL) (he : vv_E x none post) (hd : decode cc pc = .ok (.return_, 1)) (hp : post none S) : vv_V x kc ks pc lv [] S := by
  obtain ⟨p, l, e, R, s, m, args, below, meth, c, D, dA, nL, A, Q⟩ := x
  intro ws H locs cells slots ls hP hD hM hS hc hs hl'
  obtain ⟨hQ, hr⟩ := he
  subst hQ
  have hlocks : meth.locks = false := hx.2.2.2.2.2.2.2.2.2.1
  refine W.widen (k := R.cells) (n := R.slots) (by omega) (by omega) ?_
  exact W.vret hx.1 hx.2.1 hr (fun t ht hW => ⟨⟨none, S, ws, rfl, hp, hM, by rw [ht]; exact hP, hD⟩, hS.F ht⟩) hS.2.2 hd hlocks
theorem vv_aret {x : vv_X} {cc : ByteArray} {own : String} {fr lo mL kc ks pc : Nat} {lv : List (Nat × Value)} {S : mm_H} {post : Option Value → mm_H → Prop} {rt : FieldType} {r : Option Nat} (hx : vv_C x cc own fr lo mL) (he : vv_E x (some rt) post) (hrt : (∃ n, rt = .object n) ∨ ∃ t, rt = .array t) (hd : decode cc pc = .ok (.areturn, 1)) (hp : post (some (va_rf r)) S) : vv_V x kc ks pc lv [va_rf r] S := by
  obtain ⟨p, l, e, R, s, m, args, below, meth, c, D, dA, nL, A, Q⟩ := x
  intro ws H locs cells slots ls hP hD hM hS hc hs hl'
  obtain ⟨hQ, hr⟩ := he
  subst hQ
  have hlocks : meth.locks = false := hx.2.2.2.2.2.2.2.2.2.1
  refine W.widen (k := R.cells) (n := R.slots) (by omega) (by omega) ?_
  exact W.aret (v := va_rf r) hx.1 hx.2.1 hr hrt (by cases r with
    | none => exact Or.inl rfl
    | some q => exact Or.inr ⟨q, rfl⟩) (fun t ht hW => ⟨⟨some (va_rf r), S, ws, rfl, hp, hM, by rw [ht]; exact hP, hD⟩, hS.F ht⟩) hS.2.2 hd hlocks
/-- A CONTRACT: called with av over the memory S, the method returns, and its answer and the memory behind it are as post says -/
def MA (y : MethodName) (cc : ByteArray) (maxL : Nat) (ret : Option FieldType) (fr lo mc ms : Nat) (av : List Value) (S : mm_H) (post : Option Value → mm_H → Prop) : Prop :=
  ∀ (l : Launch) (D : va_G) (dA : Nat → ClassId) (ws : va_W) (sz : Nat), mm_W dA S ws →
    Met l y [Cond.code y cc maxL ret] ({ frames := fr, cells := mc, slots := ms, locals := lo } : Room) (va_Pc av (fun U => U.heap.size = sz ∧ va_P D vwCl ws U.heap ∧ va_K D vwCl (mm_ty dA) U ∧ va_D (fun _ => True) ws ∧ Tb U)) (vv_Q post D dA (va_A ws sz)) mc ms (va_A ws sz)
theorem MA.of {y : MethodName} {cc : ByteArray} {maxL : Nat} {ret : Option FieldType} {fr lo mc ms : Nat} {av : List Value} {S : mm_H} {post : Option Value → mm_H → Prop} (hy : plainName y.cls = true) (hav : (lg_sl av).length ≤ maxL)
    (body : ∀ x : vv_X, vv_C x cc y.cls fr lo maxL → vv_E x ret post → (y.name = "<init>" → vv_N x) → vv_V x mc ms 0 (lv_args 0 av) [] S) : MA y cc maxL ret fr lo mc ms av S post := by
  intro l D dA ws sz hM
  refine Met.ofW (cc := cc) (maxL := maxL) (ret := ret) hy rfl ?_
  intro p e s m args below meth c s₁ B hml hv
  obtain ⟨rfl, hsz, hP, hK, hD0, hT⟩ := hv
  have hown : s.vm.findClass y.cls = some m.cls := findClass_of_methodNamed B.named
  subst hsz
  have hD := hD0.self (sz := s.heap.size)
  have hl := lv_entry av hav
  rw [lg_entry_eq]
  have hA : ∀ q : Nat, s.heap.size ≤ q → va_A ws s.heap.size q := fun q h => Or.inr h
  have hb := body (p, l, e, ({ frames := fr, cells := mc, slots := ms, locals := lo } : Room), s, m, av.toArray, below, meth, c, D, dA, maxL, va_A ws s.heap.size, MQ below (vv_Q post D dA (va_A ws s.heap.size)) av.toArray s mc ms (va_A ws s.heap.size)) ⟨B.exec, B.bytes, hml, hown, hT, hK, hA, rfl, rfl, B.notSynchronized, rfl⟩ ⟨rfl, B.returns⟩ (fun hn => (name_of_methodNamed B.named B.method).1.trans hn)
  exact hb ws s.heap [] 0 0 _ hP hD hM va_S.rf (by show 0 + mc ≤ mc; omega) (by show 0 + ms ≤ ms; omega) hl
/-- what is known of a method that is called -/
def cal_ok (y : MethodName) (cc : ByteArray) (maxL : Nat) (ret : Option FieldType) (n : Nat) : Prop := Cond.code y cc maxL ret ∈ lw_tbl ∧ Cond.initialized y.cls ∈ lw_tbl ∧ y.cls ≠ "java/lang/invoke/MethodHandle" ∧ y.cls ≠ "java/lang/invoke/VarHandle" ∧ (parseMethodDescriptor y.desc).map (fun d => d.parameters.length) = some n
section USE
variable {p : Program} {l : Launch} {e : Env} {R : Room} {s : State} {m : MethodId} {args : Array Value} {below : List Frame} {meth : Method} {c : Code} {H : Heap} {locs : List Loc} {cells slots : Nat} {Q : State → Prop}
theorem vv_use {pc : Nat} {ls : Array Slot} {rest st0 : List Value} {a : Array Value} {A0 A1 : Nat → Prop} {H0 : Heap} {mc ms : Nat} {free : Addr → Prop} {post : Option Value → mm_H → Prop} {D : va_G} {dA : Nat → ClassId} (hr : va_Run p l e R s m args below meth c H locs cells slots mc ms (F0 m pc ls st0) rest (vv_Q post D dA A1 a) free) (hS : va_S A0 H0 H locs) (hA : ∀ q, A1 q → A0 q) (hf : ∀ q, free q → A0 q)
    (kk : ∀ (v : Option Value) (S' : mm_H) (ws' : va_W) (H1 : Heap) (locs1 : List Loc), post v S' → mm_W dA S' ws' → va_P D vwCl ws' H1 → va_D A1 ws' → va_S A0 H0 H1 locs1 → W p l e R s m args below meth c H1 locs1 (cells + mc) (slots + ms) Q (F0 m (pc + 3) ls (v.toList ++ rest))) : W p l e R s m args below meth c H locs cells slots Q (F0 m pc ls st0) := by
  intro T hT X
  obtain ⟨v, st₀, t, T', L, h0, X', hL, e1, e2, ⟨⟨v', S', ws', hv, hp, hm, hP1, hD1⟩, hz, hk⟩, st⟩ := hr T hT X
  cases hv
  rw [h0] at hz hk
  obtain ⟨t2, a1, b1⟩ := kk v S' ws' T'.heap (locs ++ L) hp hm (by rw [e1]; exact hP1) hD1
    ⟨Nat.le_trans hS.1 (by rw [e1]; exact hz), fun q h1 h2 => by rw [e1, hk q (Nat.lt_of_lt_of_le h1 hS.1) (fun z => h2 (hA q z))]; exact hS.2.1 q h1 h2, fun q hq => by
      rcases List.mem_append.mp hq with h | h
      · exact hS.2.2 q h
      · exact hf _ (hL q h)⟩ T' rfl X'
  exact ⟨t2, st t2 a1, b1⟩
end USE
theorem vv_blind {av : List Value} {sz : Nat} {D : va_G} {dA : Nat → ClassId} {ws : va_W} : FrameBlind (va_Pc av (fun U => U.heap.size = sz ∧ va_P D vwCl ws U.heap ∧ va_K D vwCl (mm_ty dA) U ∧ va_D (fun _ => True) ws ∧ Tb U)) := fun a U g mk q => by
  obtain ⟨q0, q1, qP, qK, qD, qT⟩ := q
  exact ⟨q0, q1, qP, va_K.moved (u := U) (U := U.calling g mk a) (Vm.Alike.refl U.vm) qK, qD, Tb.same (u := U) rfl qT⟩
theorem vv_freeA {A : Nat → Prop} {ws : va_W} {H0 H : Heap} {locs : List Loc} (hD : va_D A ws) (hS : va_S A H0 H locs) (hA : ∀ q, H0.size ≤ q → A q) : ∀ q, va_A ws H.size q → A q := by
  intro q h
  rcases h with ⟨k, e, h⟩ | h
  · exact hD.2 k (q, e) h
  · exact hA q (Nat.le_trans hS.1 h)
theorem vv_len {y : MethodName} {n : Nat} (h : (parseMethodDescriptor y.desc).map (fun d => d.parameters.length) = some n) : ∀ sig, parseMethodDescriptor y.desc = some sig → n = sig.parameters.length := fun sig hs => by
  rw [hs] at h
  exact (Option.some.inj h).symm
theorem vv_callV {x : vv_X} {cc : ByteArray} {own : String} {fr lo mL kc ks pc : Nat} {lv : List (Nat × Value)} {st : List Value} {S : mm_H} {y : MethodName} {cy : ByteArray} {maxL index n kc' ks' fr' lo' mc ms : Nat} {As rest : List Value} {post : Option Value → mm_H → Prop} {ret : Option FieldType} {b : Nat} {ci : Nat} {C : String} {T : u_T} {N : Nat} {ty : Nat → FieldType} (hx : vv_C x cc own fr lo mL) (hd : decode cc pc = .ok (.invokevirtual index, 3)) (hl : Cond.methodLink own index y ∈ lw_tbl) (hq : cal_ok y cy maxL ret n) (h1 : Cond.instanceMethod y ∈ lw_tbl) (h2 : Cond.selects C y y ∈ lw_tbl) (hk : cls_ok ci C T N ty) (hb : mm_K S b = ci + 1) (hM' : MA y cy maxL ret fr' lo' mc ms (.ref b :: As) S post) (hst : st = As.reverse ++ .ref b :: rest) (hn : As.length = n) (hr : (rest.map fun v => v.category).sum ≤ 8) (hfr : fr' + 1 ≤ fr) (hlo : 8 + (maxL + 11) + lo' ≤ lo) (hkc : kc = kc' + mc) (hks : ks = ks' + ms) (k : ∀ v S', post v S' → vv_V x kc' ks' (pc + 3) lv (v.toList ++ rest) S') : vv_V x kc ks pc lv st S := by
  obtain ⟨p, l, e, R, s, m, args, below, meth, c, D, dA, nL, A, Q⟩ := x
  intro ws H locs cells slots ls hP hD hM hS hc hs hl'
  subst hst; subst hkc; subst hks
  have hT := hx.2.2.2.2.1
  obtain ⟨q0, he⟩ := hM.at (a := b) (by rw [hb]; omega)
  rw [mm_c_o hb hk.2.1] at he
  have hF := vv_freeA hD hS hx.2.2.2.2.2.2.1
  refine vv_use (D := D) (dA := dA) (post := post) (va_runV (C := C) (As := As) (rest := rest) ⟨hx.1, hx.2.1, hx.2.2.1, hx.2.2.2.1, fun w (hw : w ∈ ([] : List Cond)) => absurd hw List.not_mem_nil⟩ (hM' l D dA ws H.size hM) ⟨⟨rfl, rfl, by rw [hx.2.2.2.2.2.2.2.1]; exact hfr, by rw [hx.2.2.2.2.2.2.2.2.1]; exact hlo, (fun w hw a' U hW => by rw [List.mem_singleton.mp hw]; exact (hT.warm hW).use hq.1 rfl), List.mem_singleton.mpr rfl, hT.use hq.1 rfl, hT.use hq.2.1 rfl, ⟨hq.2.2.1, hq.2.2.2.1⟩, vv_len hq.2.2.2.2, hT.use hl rfl⟩, hT.use h1 rfl, hT.use h2 rfl⟩ ⟨vv_blind, va_recv hx.2.2.2.2.2.1 hP hk.1 he, fun U hU hW => ⟨rfl, by rw [hU], by rw [hU]; exact hP, va_K.moved hW.alike hx.2.2.2.2.2.1, hD.weaken (fun _ _ _ _ => trivial), hT.warm hW⟩⟩ rfl hn hl'.1 rfl (lv_room hr) hd ⟨by omega, by omega⟩) hS hF hF (fun v S' ws' H1 locs1 hp hm hP1 hD1 hS1 => ?_)
  exact k v S' hp ws' H1 locs1 (cells + mc) (slots + ms) ls hP1 (hD1.weaken (fun _ _ _ h => hF _ h)) hm hS1 (by omega) (by omega) hl'
theorem vv_callVN {x : vv_X} {cc : ByteArray} {own : String} {fr lo mL kc ks pc : Nat} {lv : List (Nat × Value)} {st : List Value} {S : mm_H} {y : MethodName} {cy : ByteArray} {maxL index n kc' ks' fr' lo' mc ms : Nat} {As rest : List Value} {post : Option Value → mm_H → Prop} {host : String} {ret : Option FieldType} {b : Nat} {ci : Nat} {C : String} {T : u_T} {N : Nat} {ty : Nat → FieldType} (hx : vv_C x cc own fr lo mL) (hd : decode cc pc = .ok (.invokevirtual index, 3)) (hl : Cond.methodLinkNest own index y host ∈ lw_tbl) (hq : cal_ok y cy maxL ret n) (h1 : Cond.instanceMethod y ∈ lw_tbl) (h2 : Cond.selects C y y ∈ lw_tbl) (hk : cls_ok ci C T N ty) (hb : mm_K S b = ci + 1) (hM' : MA y cy maxL ret fr' lo' mc ms (.ref b :: As) S post) (hst : st = As.reverse ++ .ref b :: rest) (hn : As.length = n) (hr : (rest.map fun v => v.category).sum ≤ 8) (hfr : fr' + 1 ≤ fr) (hlo : 8 + (maxL + 11) + lo' ≤ lo) (hkc : kc = kc' + mc) (hks : ks = ks' + ms) (k : ∀ v S', post v S' → vv_V x kc' ks' (pc + 3) lv (v.toList ++ rest) S') : vv_V x kc ks pc lv st S := by
  obtain ⟨p, l, e, R, s, m, args, below, meth, c, D, dA, nL, A, Q⟩ := x
  intro ws H locs cells slots ls hP hD hM hS hc hs hl'
  subst hst; subst hkc; subst hks
  have hT := hx.2.2.2.2.1
  obtain ⟨q0, he⟩ := hM.at (a := b) (by rw [hb]; omega)
  rw [mm_c_o hb hk.2.1] at he
  have hF := vv_freeA hD hS hx.2.2.2.2.2.2.1
  refine vv_use (D := D) (dA := dA) (post := post) (va_runVN (C := C) (As := As) (rest := rest) ⟨hx.1, hx.2.1, hx.2.2.1, hx.2.2.2.1, fun w (hw : w ∈ ([] : List Cond)) => absurd hw List.not_mem_nil⟩ (hM' l D dA ws H.size hM) ⟨⟨⟨rfl, rfl, by rw [hx.2.2.2.2.2.2.2.1]; exact hfr, by rw [hx.2.2.2.2.2.2.2.2.1]; exact hlo, (fun w hw a' U hW => by rw [List.mem_singleton.mp hw]; exact (hT.warm hW).use hq.1 rfl), List.mem_singleton.mpr rfl⟩, hT.use hq.1 rfl, hT.use hq.2.1 rfl, ⟨hq.2.2.1, hq.2.2.2.1⟩, vv_len hq.2.2.2.2, hT.use hl rfl⟩, hT.use h1 rfl, hT.use h2 rfl⟩ ⟨vv_blind, va_recv hx.2.2.2.2.2.1 hP hk.1 he, fun U hU hW => ⟨rfl, by rw [hU], by rw [hU]; exact hP, va_K.moved hW.alike hx.2.2.2.2.2.1, hD.weaken (fun _ _ _ _ => trivial), hT.warm hW⟩⟩ rfl hn hl'.1 rfl (lv_room hr) hd ⟨by omega, by omega⟩) hS hF hF (fun v S' ws' H1 locs1 hp hm hP1 hD1 hS1 => ?_)
  exact k v S' hp ws' H1 locs1 (cells + mc) (slots + ms) ls hP1 (hD1.weaken (fun _ _ _ h => hF _ h)) hm hS1 (by omega) (by omega) hl'
theorem vv_callS {x : vv_X} {cc : ByteArray} {own : String} {fr lo mL kc ks pc : Nat} {lv : List (Nat × Value)} {st : List Value} {S : mm_H} {y : MethodName} {cy : ByteArray} {maxL index n kc' ks' fr' lo' mc ms : Nat} {As rest : List Value} {post : Option Value → mm_H → Prop} {ret : Option FieldType} (hx : vv_C x cc own fr lo mL) (hd : decode cc pc = .ok (.invokestatic index, 3)) (hl : Cond.methodLink own index y ∈ lw_tbl) (hq : cal_ok y cy maxL ret n) (h1 : Cond.static y ∈ lw_tbl) (hM' : MA y cy maxL ret fr' lo' mc ms As S post) (hst : st = As.reverse ++ rest) (hn : As.length = n) (hr : (rest.map fun v => v.category).sum ≤ 8) (hfr : fr' + 1 ≤ fr) (hlo : 8 + (maxL + 11) + lo' ≤ lo) (hkc : kc = kc' + mc) (hks : ks = ks' + ms) (k : ∀ v S', post v S' → vv_V x kc' ks' (pc + 3) lv (v.toList ++ rest) S') : vv_V x kc ks pc lv st S := by
  obtain ⟨p, l, e, R, s, m, args, below, meth, c, D, dA, nL, A, Q⟩ := x
  intro ws H locs cells slots ls hP hD hM hS hc hs hl'
  subst hst; subst hkc; subst hks
  have hT := hx.2.2.2.2.1
  have hF := vv_freeA hD hS hx.2.2.2.2.2.2.1
  refine vv_use (D := D) (dA := dA) (post := post) (va_runS (As := As) (rest := rest) ⟨hx.1, hx.2.1, hx.2.2.1, hx.2.2.2.1, fun w (hw : w ∈ ([] : List Cond)) => absurd hw List.not_mem_nil⟩ (hM' l D dA ws H.size hM) ⟨⟨rfl, rfl, by rw [hx.2.2.2.2.2.2.2.1]; exact hfr, by rw [hx.2.2.2.2.2.2.2.2.1]; exact hlo, (fun w hw a' U hW => by rw [List.mem_singleton.mp hw]; exact (hT.warm hW).use hq.1 rfl), List.mem_singleton.mpr rfl, hT.use hq.1 rfl, hT.use hq.2.1 rfl, ⟨hq.2.2.1, hq.2.2.2.1⟩, vv_len hq.2.2.2.2, hT.use hl rfl⟩, hT.use h1 rfl⟩ ⟨vv_blind, fun U hU hW => ⟨rfl, by rw [hU], by rw [hU]; exact hP, va_K.moved hW.alike hx.2.2.2.2.2.1, hD.weaken (fun _ _ _ _ => trivial), hT.warm hW⟩⟩ rfl hn hl'.1 rfl (lv_room hr) hd ⟨by omega, by omega⟩) hS hF hF (fun v S' ws' H1 locs1 hp hm hP1 hD1 hS1 => ?_)
  exact k v S' hp ws' H1 locs1 (cells + mc) (slots + ms) ls hP1 (hD1.weaken (fun _ _ _ h => hF _ h)) hm hS1 (by omega) (by omega) hl'
theorem vv_callI {x : vv_X} {cc : ByteArray} {own : String} {fr lo mL kc ks pc : Nat} {lv : List (Nat × Value)} {st : List Value} {S : mm_H} {y : MethodName} {cy : ByteArray} {maxL index n kc' ks' fr' lo' mc ms : Nat} {As rest : List Value} {post : Option Value → mm_H → Prop} {b : Nat} (hx : vv_C x cc own fr lo mL) (hd : decode cc pc = .ok (.invokespecial index, 3)) (hl : Cond.methodLink own index y ∈ lw_tbl) (hq : cal_ok y cy maxL none n) (hin : y.name = "<init>") (h1 : Cond.instanceMethod y ∈ lw_tbl) (hM' : MA y cy maxL none fr' lo' mc ms (.ref b :: As) S post) (hst : st = As.reverse ++ .ref b :: rest) (hn : As.length = n) (hr : (rest.map fun v => v.category).sum ≤ 8) (hfr : fr' + 1 ≤ fr) (hlo : 8 + (maxL + 11) + lo' ≤ lo) (hkc : kc = kc' + mc) (hks : ks = ks' + ms) (k : ∀ v S', post v S' → vv_V x kc' ks' (pc + 3) lv (v.toList ++ rest) S') : vv_V x kc ks pc lv st S := by
  obtain ⟨p, l, e, R, s, m, args, below, meth, c, D, dA, nL, A, Q⟩ := x
  intro ws H locs cells slots ls hP hD hM hS hc hs hl'
  subst hst; subst hkc; subst hks
  have hT := hx.2.2.2.2.1
  have hF := vv_freeA hD hS hx.2.2.2.2.2.2.1
  refine vv_use (D := D) (dA := dA) (post := post) (va_runI (As := As) (rest := rest) ⟨hx.1, hx.2.1, hx.2.2.1, hx.2.2.2.1, fun w (hw : w ∈ ([] : List Cond)) => absurd hw List.not_mem_nil⟩ (hM' l D dA ws H.size hM) ⟨⟨rfl, rfl, by rw [hx.2.2.2.2.2.2.2.1]; exact hfr, by rw [hx.2.2.2.2.2.2.2.2.1]; exact hlo, (fun w hw a' U hW => by rw [List.mem_singleton.mp hw]; exact (hT.warm hW).use hq.1 rfl), List.mem_singleton.mpr rfl, hT.use hq.1 rfl, hT.use hq.2.1 rfl, ⟨hq.2.2.1, hq.2.2.2.1⟩, vv_len hq.2.2.2.2, hT.use hl rfl⟩, hin, hT.use h1 rfl⟩ ⟨vv_blind, fun U hU hW => ⟨rfl, by rw [hU], by rw [hU]; exact hP, va_K.moved hW.alike hx.2.2.2.2.2.1, hD.weaken (fun _ _ _ _ => trivial), hT.warm hW⟩⟩ rfl hn hl'.1 rfl (lv_room hr) hd ⟨by omega, by omega⟩) hS hF hF (fun v S' ws' H1 locs1 hp hm hP1 hD1 hS1 => ?_)
  exact k v S' hp ws' H1 locs1 (cells + mc) (slots + ms) ls hP1 (hD1.weaken (fun _ _ _ h => hF _ h)) hm hS1 (by omega) (by omega) hl'
theorem vv_callIN {x : vv_X} {cc : ByteArray} {own : String} {fr lo mL kc ks pc : Nat} {lv : List (Nat × Value)} {st : List Value} {S : mm_H} {y : MethodName} {cy : ByteArray} {maxL index n kc' ks' fr' lo' mc ms : Nat} {As rest : List Value} {post : Option Value → mm_H → Prop} {host : String} {b : Nat} (hx : vv_C x cc own fr lo mL) (hd : decode cc pc = .ok (.invokespecial index, 3)) (hl : Cond.methodLinkNest own index y host ∈ lw_tbl) (hq : cal_ok y cy maxL none n) (hin : y.name = "<init>") (h1 : Cond.instanceMethod y ∈ lw_tbl) (hM' : MA y cy maxL none fr' lo' mc ms (.ref b :: As) S post) (hst : st = As.reverse ++ .ref b :: rest) (hn : As.length = n) (hr : (rest.map fun v => v.category).sum ≤ 8) (hfr : fr' + 1 ≤ fr) (hlo : 8 + (maxL + 11) + lo' ≤ lo) (hkc : kc = kc' + mc) (hks : ks = ks' + ms) (k : ∀ v S', post v S' → vv_V x kc' ks' (pc + 3) lv (v.toList ++ rest) S') : vv_V x kc ks pc lv st S := by
  obtain ⟨p, l, e, R, s, m, args, below, meth, c, D, dA, nL, A, Q⟩ := x
  intro ws H locs cells slots ls hP hD hM hS hc hs hl'
  subst hst; subst hkc; subst hks
  have hT := hx.2.2.2.2.1
  have hF := vv_freeA hD hS hx.2.2.2.2.2.2.1
  refine vv_use (D := D) (dA := dA) (post := post) (va_runIN (As := As) (rest := rest) ⟨hx.1, hx.2.1, hx.2.2.1, hx.2.2.2.1, fun w (hw : w ∈ ([] : List Cond)) => absurd hw List.not_mem_nil⟩ (hM' l D dA ws H.size hM) ⟨⟨⟨rfl, rfl, by rw [hx.2.2.2.2.2.2.2.1]; exact hfr, by rw [hx.2.2.2.2.2.2.2.2.1]; exact hlo, (fun w hw a' U hW => by rw [List.mem_singleton.mp hw]; exact (hT.warm hW).use hq.1 rfl), List.mem_singleton.mpr rfl⟩, hT.use hq.1 rfl, hT.use hq.2.1 rfl, ⟨hq.2.2.1, hq.2.2.2.1⟩, vv_len hq.2.2.2.2, hT.use hl rfl⟩, hin, hT.use h1 rfl⟩ ⟨vv_blind, fun U hU hW => ⟨rfl, by rw [hU], by rw [hU]; exact hP, va_K.moved hW.alike hx.2.2.2.2.2.1, hD.weaken (fun _ _ _ _ => trivial), hT.warm hW⟩⟩ rfl hn hl'.1 rfl (lv_room hr) hd ⟨by omega, by omega⟩) hS hF hF (fun v S' ws' H1 locs1 hp hm hP1 hD1 hS1 => ?_)
  exact k v S' hp ws' H1 locs1 (cells + mc) (slots + ms) ls hP1 (hD1.weaken (fun _ _ _ h => hF _ h)) hm hS1 (by omega) (by omega) hl'
/-! contracts by the kind of their answer, and what goes on behind the call -/
abbrev MI (y : MethodName) (cc : ByteArray) (maxL fr lo mc ms : Nat) (av : List Value) (S : mm_H) (post : Int32 → mm_H → Prop) : Prop := MA y cc maxL (some .int) fr lo mc ms av S (fun v S' => ∃ r : Int32, v = some (.int r) ∧ post r S')
abbrev MZ (y : MethodName) (cc : ByteArray) (maxL fr lo mc ms : Nat) (av : List Value) (S : mm_H) (post : Int32 → mm_H → Prop) : Prop := MA y cc maxL (some .boolean) fr lo mc ms av S (fun v S' => ∃ r : Int32, v = some (.int r) ∧ post r S')
abbrev MV (y : MethodName) (cc : ByteArray) (maxL fr lo mc ms : Nat) (av : List Value) (S : mm_H) (post : mm_H → Prop) : Prop := MA y cc maxL none fr lo mc ms av S (fun v S' => v = none ∧ post S')
abbrev MR (y : MethodName) (cc : ByteArray) (maxL : Nat) (rt : FieldType) (fr lo mc ms : Nat) (av : List Value) (S : mm_H) (post : Option Nat → mm_H → Prop) : Prop := MA y cc maxL (some rt) fr lo mc ms av S (fun v S' => ∃ r : Option Nat, v = some (va_rf r) ∧ post r S')
theorem vv_ci {x : vv_X} {kc ks pc : Nat} {lv : List (Nat × Value)} {rest : List Value} {post : Int32 → mm_H → Prop} (k : ∀ r S', post r S' → vv_V x kc ks pc lv (.int r :: rest) S') : ∀ v S', (∃ r : Int32, v = some (.int r) ∧ post r S') → vv_V x kc ks pc lv (v.toList ++ rest) S' := by
  rintro v S' ⟨r, rfl, h⟩
  exact k r S' h
theorem vv_cv {x : vv_X} {kc ks pc : Nat} {lv : List (Nat × Value)} {rest : List Value} {post : mm_H → Prop} (k : ∀ S', post S' → vv_V x kc ks pc lv rest S') : ∀ (v : Option Value) S', (v = none ∧ post S') → vv_V x kc ks pc lv (v.toList ++ rest) S' := by
  rintro v S' ⟨rfl, h⟩
  exact k S' h
theorem vv_cr {x : vv_X} {kc ks pc : Nat} {lv : List (Nat × Value)} {rest : List Value} {post : Option Nat → mm_H → Prop} (k : ∀ r S', post r S' → vv_V x kc ks pc lv (va_rf r :: rest) S') : ∀ v S', (∃ r : Option Nat, v = some (va_rf r) ∧ post r S') → vv_V x kc ks pc lv (v.toList ++ rest) S' := by
  rintro v S' ⟨r, rfl, h⟩
  exact k r S' h
theorem vv_cd {x : vv_X} {kc ks pc : Nat} {lv : List (Nat × Value)} {rest : List Value} {r0 : Int32} {S0 : mm_H} (k : vv_V x kc ks pc lv (.int r0 :: rest) S0) : ∀ v S', (∃ r : Int32, v = some (.int r) ∧ r = r0 ∧ S' = S0) → vv_V x kc ks pc lv (v.toList ++ rest) S' := by
  rintro v S' ⟨r, rfl, rfl, rfl⟩
  exact k
theorem vv_cdv {x : vv_X} {kc ks pc : Nat} {lv : List (Nat × Value)} {rest : List Value} {S0 : mm_H} (k : vv_V x kc ks pc lv rest S0) : ∀ (v : Option Value) S', (v = none ∧ S' = S0) → vv_V x kc ks pc lv (v.toList ++ rest) S' := by
  rintro v S' ⟨rfl, rfl⟩
  exact k
theorem vv_cdr {x : vv_X} {kc ks pc : Nat} {lv : List (Nat × Value)} {rest : List Value} {r0 : Option Nat} {S0 : mm_H} (k : vv_V x kc ks pc lv (va_rf r0 :: rest) S0) : ∀ v S', (∃ r : Option Nat, v = some (va_rf r) ∧ r = r0 ∧ S' = S0) → vv_V x kc ks pc lv (v.toList ++ rest) S' := by
  rintro v S' ⟨r, rfl, rfl, rfl⟩
  exact k
