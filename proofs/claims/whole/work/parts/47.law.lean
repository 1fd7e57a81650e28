/-! THE CLAIM OUT OF ONE WALK OF THE LAW'S BODY. Your part is whole_start (and what it stands on); all else here is the same for every law, but numbers. -/
def R_law : String := "LiveViewsLaw"
def lw_P (b : Addr) (xs : List Int32) (args : Array Value) (s : State) : Prop := args = #[.ref b] ∧ s.IntsAt b xs ∧ xs.length ≤ 2560 ∧ (Jvm.Cond.and given_1 narrow_1).before args s = true
def lw_Q (_ : Array Value) (s : State) (o : Outcome) (t : State) : Prop := o = .returned (some (.int 1)) ∧ Framed s o t [] 600000 7302250
def lw_Z (below : List Frame) (a : Array Value) (s : State) : State → Prop := fun t => ∃ o, t.status = .running ∧ Ended t below o ∧ lw_Q a s o t
/-- the law's own end, with 1 on the stack, nothing written that was there before, its room as the claim has it -/
theorem lw_ret {p : Program} {l : Launch} {e : Env} {s : State} {m : MethodId} {below : List Frame} {meth : Method} {c : Code} {b : Nat} (hx : p.tables.exec = Jvm.exec) (hb : c.code = code) (hr : meth.sig.returnType = ret) (hlocks : meth.locks = false) {pc : Nat} {H : Heap} {ls : Array Slot} (hdg : decode code pc = .ok (.ireturn, 1)) : W p l e room_1 s m #[Value.ref b] below meth c H [] 600000 7302250 (lw_Z below #[Value.ref b] s) (F0 m pc ls [.int 1]) := by
  intro T hT X
  obtain ⟨fs, hret, hrun, hended, hW, hframe⟩ := X.leave (v := some (.int 1)) (hlocks := hlocks) (fun h => by rw [hr] at h; cases h)
  have hmeth' : T.vm.method? m = some meth := X.method'
  refine ⟨T.setFrames fs, ?_, .returned (some (.int 1)), hrun, hended, rfl, ⟨_, rfl⟩, hW, hframe⟩
  jvm_step X.here [X.here.top, hx, hb, hdg, hmeth', hr, ret, narrow_b1]
  (try refine ⟨rfl, ?_⟩); (try refine ⟨rfl, ?_⟩)
  first | (intro acts; rw [hret _ acts rfl rfl rfl]) | rw [hret _ _ rfl rfl rfl]
  exact Steps.refl _
/-- what holds at the law's entry: the machine, the code, the tables' words (any of lw_tbl by 'hts w (by decide +kernel)'), the script of L ints xs at the cell b, what the Statement gives of the start (any of its parts by flat_of_before) -/
def lw_At (p : Program) (s : State) (m : MethodId) (meth : Method) (c : Code) (b L : Nat) (xs : Nat → Int32) : Prop :=
  p.tables.exec = Jvm.exec ∧ c.code = code ∧ meth.sig.returnType = ret ∧ c.maxLocals = 4 ∧ s.vm.findClass R_law = some m.cls ∧ (∀ w ∈ lw_tbl, w.before #[Value.ref b] s = true) ∧ va_X b L xs s s.heap ∧ b < s.heap.size ∧ meth.locks = false ∧ (Jvm.Cond.and given_1 narrow_1).before #[Value.ref b] s = true
/-! rows of the law's own -/
def vv_B (x : vv_X) (b L : Nat) (xs : Nat → Int32) : Prop := match x with
  | (_, _, _, _, s, _, _, _, _, _, _, _, _, A, _) => va_X b L xs s s.heap ∧ b < s.heap.size ∧ ¬ A b
theorem vv_slen {x : vv_X} {cc : ByteArray} {own : String} {fr lo mL kc ks pc : Nat} {lv : List (Nat × Value)} {st : List Value} {S : mm_H} {b L : Nat} {xs : Nat → Int32} (hx : vv_C x cc own fr lo mL) (hB : vv_B x b L xs) (hd : decode cc pc = .ok (.arraylength, 1)) (kk : vv_V x kc ks (pc + 1) lv (.int (nI L) :: st) S) : vv_V x kc ks pc lv (.ref b :: st) S := by
  obtain ⟨p, l, e, R, s, m, args, below, meth, c, D, dA, nL, A, Q⟩ := x
  intro ws H locs cells slots ls hP hD hM hS hc hs hl'
  exact va_slen hx.1 hx.2.1 hB.1 hB.2.1 hB.2.2 hS hd (kk ws H locs cells slots ls hP hD hM hS hc hs hl')
theorem vv_sld {x : vv_X} {cc : ByteArray} {own : String} {fr lo mL kc ks pc : Nat} {lv : List (Nat × Value)} {st : List Value} {S : mm_H} {b L j : Nat} {xs : Nat → Int32} (hx : vv_C x cc own fr lo mL) (hB : vv_B x b L xs) (hd : decode cc pc = .ok (.iaload, 1)) (hj : j < L) (hL : L < 2 ^ 31) (kk : vv_V x kc ks (pc + 1) lv (.int (xs j) :: st) S) : vv_V x kc ks pc lv (.int (nI j) :: .ref b :: st) S := by
  obtain ⟨p, l, e, R, s, m, args, below, meth, c, D, dA, nL, A, Q⟩ := x
  intro ws H locs cells slots ls hP hD hM hS hc hs hl'
  refine va_sld hx.1 hx.2.1 hB.1 hB.2.1 hB.2.2 hS (vp_in_nI hj hL) hd ?_
  rw [nI_clamp (Nat.lt_trans hj hL)]
  exact kk ws H locs cells slots ls hP hD hM hS hc hs hl'
theorem ff_ci {x : vv_X} {kc ks pc : Nat} {lv : List (Nat × Value)} {rest : List Value} {O : mm_H} {post : Int32 → mm_H → Prop} (k : ∀ r S', post r S' → mdj S' O → vv_V x kc ks pc lv (.int r :: rest) (mj S' O)) : ∀ v S', (∃ r : Int32, v = some (.int r) ∧ post r S') → mdj S' O → vv_V x kc ks pc lv (v.toList ++ rest) (mj S' O) := by
  rintro v S' ⟨r, rfl, h⟩ hd
  exact k r S' h hd
theorem ff_cv {x : vv_X} {kc ks pc : Nat} {lv : List (Nat × Value)} {rest : List Value} {O : mm_H} {post : mm_H → Prop} (k : ∀ S', post S' → mdj S' O → vv_V x kc ks pc lv rest (mj S' O)) : ∀ (v : Option Value) S', (v = none ∧ post S') → mdj S' O → vv_V x kc ks pc lv (v.toList ++ rest) (mj S' O) := by
  rintro v S' ⟨rfl, h⟩ hd
  exact k S' h hd
theorem ff_cd {x : vv_X} {kc ks pc : Nat} {lv : List (Nat × Value)} {rest : List Value} {O : mm_H} {r0 : Int32} {S0 : mm_H} (hd : mdj S0 O) (k : vv_V x kc ks pc lv (.int r0 :: rest) (mj S0 O)) : ∀ v S', (∃ r : Int32, v = some (.int r) ∧ r = r0 ∧ S' = S0) → mdj S' O → vv_V x kc ks pc lv (v.toList ++ rest) (mj S' O) := by
  rintro v S' ⟨r, rfl, rfl, rfl⟩ _
  exact k
/-- the reference's side -/
theorem ff_sy {x : vv_X} {kc ks pc : Nat} {lv : List (Nat × Value)} {st : List Value} {S O : mm_H} (h : mdj S O) (k : mdj O S → vv_V x kc ks pc lv st (mj O S)) : vv_V x kc ks pc lv st (mj S O) := vv_eqv (mj_sy h) (k h.sy)
theorem law_le {L i : Nat} (hL : L ≤ 2560) (hi : i ≤ 2560) (h : ¬ nI L - nI 5 < nI i) : i + 5 ≤ L := by
  by_cases e : 5 ≤ L
  · rw [pk_sub e, nI_ltI (by omega) (by omega)] at h
    omega
  · exfalso
    apply h
    have h0 : nI L - nI 5 < 0 := by
      rcases (show L = 0 ∨ L = 1 ∨ L = 2 ∨ L = 3 ∨ L = 4 by omega) with rfl | rfl | rfl | rfl | rfl <;> decide
    exact Int32.lt_of_lt_of_le h0 (nI_le (Nat.zero_le i) (by omega))
/-! how often a view has been opened: no more than there were calls -/
def opB (X : xx_X) (n : Nat) : Prop := ∀ j, X.2.1 14 j ≤ n
theorem opB.up {X : xx_X} {n : Nat} (h : opB X n) : opB X (n + 1) := fun j => Nat.le_succ_of_le (h j)
theorem opB.of {X X' : xx_X} {n : Nat} (h : opB X n) (e : X'.2.1 14 = X.2.1 14) : opB X' (n + 1) := fun j => by rw [e]; exact Nat.le_succ_of_le (h j)
theorem opB.told3 {X : xx_X} {n k w : Nat} {e : Int32} (h : opB X n) : opB (sp_told3 X k w e).2 (n + 1) := by
  unfold sp_told3
  split
  · exact h.of rfl
  · split
    · exact h.up
    · exact h.of (by show (xA (xA (xI X 0 (X.1 0 + 1)) 1 (X.1 0 + 1) k) 2 (X.1 0 + 1) w).2.1 14 = _; rw [xA_o (by decide), xA_o (by decide)]; rfl)
theorem opB.write {X : xx_X} {n : Nat} {a b c : Int32} (h : opB X n) : opB (sp_write X a b c).2 (n + 1) := by
  unfold sp_write
  split
  · exact h.told3
  · exact h.up
theorem opB.remove {X : xx_X} {n : Nat} {a b : Int32} (h : opB X n) : opB (sp_remove X a b).2 (n + 1) := by
  unfold sp_remove
  split
  · exact h.told3
  · exact h.up
theorem opB.drop {X : xx_X} {n : Nat} {a b : Int32} (h : opB X n) : opB (sp_drop X a b).2 (n + 1) := by
  unfold sp_drop
  split
  · split
    · split
      · exact h.of (by show (dropX X _ b 16).2.1 14 = _; exact (dropX_fr X _ b 16).2.2.1 14 (by decide) (by decide))
      · exact h.up
    · exact h.up
  · exact h.up
theorem opB.sync {X : xx_X} {n : Nat} (h : opB X n) : opB (sp_sync X).2 (n + 1) := h.of rfl
theorem opB.opn {X : xx_X} {n : Nat} {a : Int32} (h : opB X n) : opB (sp_open X a).2 (n + 1) := by
  unfold sp_open
  split
  · intro j
    show (xA X 14 _ _).2.1 14 j ≤ n + 1
    by_cases e : j = a.toNatClampNeg
    · rw [e, xA_s]; exact Nat.succ_le_succ (h _)
    · rw [xA_j e]; exact Nat.le_succ_of_le (h j)
  · exact h.up
theorem opB.close {X : xx_X} {n : Nat} {a : Int32} (h : opB X n) : opB (sp_close X a).2 (n + 1) := by
  unfold sp_close
  split
  · split
    · exact h.up
    · intro j
      show (xA X 14 _ _).2.1 14 j ≤ n + 1
      by_cases e : j = a.toNatClampNeg
      · rw [e, xA_s]; have := h a.toNatClampNeg; omega
      · rw [xA_j e]; exact Nat.le_succ_of_le (h j)
  · exact h.up
theorem opB.rn {X X' : xx_X} {W : Nat → Nat → Nat} {n : Nat} (h : opB X n) (hR : rnR X W X') : opB X' (n + 1) := fun j => by
  rw [hR.eq.2.2.2.2.2]
  show (if j = X.1 10 then 0 else X.2.1 14 j) ≤ n + 1
  split
  · omega
  · exact Nat.le_succ_of_le (h j)
theorem opB.refresh {X X' : xx_X} {W : Nat → Nat → Nat} {n : Nat} {z : Int32} (h : opB X n) (hR : sp_refresh X W z X') : opB X' (n + 1) := by
  rcases hR with ⟨-, -, -, rfl⟩ | ⟨-, rfl, -⟩ | ⟨-, -, h1, -⟩
  · exact h.up
  · exact h.up
  · exact h.rn h1
theorem opB.commit {X X' : xx_X} {W : Nat → Nat → Nat} {n : Nat} {z : Int32} (h : opB X n) (hR : sp_commit X W z X') : opB X' (n + 1) := by
  rcases hR with ⟨-, -, -, rfl⟩ | ⟨-, rfl, -⟩ | ⟨-, -, ⟨X2, h1, rfl⟩, -⟩
  · exact h.up
  · exact h.of rfl
  · exact fun j => (h.rn h1) j
theorem opB.cr {X : xx_X} {n : Nat} (h : opB X n) : opB (crX X) n := fun j => by
  show (if 14 = 14 ∧ j < X.1 10 then 0 else X.2.1 14 j) ≤ n
  split
  · omega
  · exact h j
theorem opB.crash {X X' : xx_X} {W : Nat → Nat → Nat} {n : Nat} {z : Int32} (h : opB X n) (hR : sp_crash X W z X') : opB X' (n + 1) := by
  rcases hR with ⟨-, -, -, rfl⟩ | ⟨-, ⟨-, rfl⟩ | ⟨-, -, h1⟩⟩
  · exact h.up
  · exact h.cr.up
  · exact h.cr.rn h1
