/-! the reference is made -/
def xx_P (S : mm_H) (r : Nat) (ad : Nat → Nat) (dn : Nat → Bool) (iv : Nat → Int32) : Prop := mm_K S r = 5 ∧ (∀ f, dn f = true → mm_P S r f = some (ad f) ∧ mm_K S (ad f) = 6 ∧ mm_L S (ad f) = xx_len f ∧ ∀ i, mm_I S (ad f) i = 0) ∧ (∀ f g, dn f = true → dn g = true → ad f = ad g → f = g) ∧ ∀ f, mm_I S r f = iv f
theorem xx_P.arr {S : mm_H} {r : Nat} {ad : Nat → Nat} {dn : Nat → Bool} {iv : Nat → Int32} (h : xx_P S r ad dn iv) {q f : Nat} (hq : mm_K S q = 0) : xx_P (mm_sP (mm_sN S q 6 (xx_len f)) r f (some q)) r (fun g => if g = f then q else ad g) (fun g => g == f || dn g) iv := by
  obtain ⟨h1, h2, h3, h4⟩ := h
  have hrq : r ≠ q := fun e => by rw [← e] at hq; omega
  have haq : ∀ g, dn g = true → ad g ≠ q := fun g hg e => by have := (h2 g hg).2.1; rw [e] at this; omega
  refine ⟨?_, fun g hg => ?_, fun g g' hg hg' he => ?_, fun g => ?_⟩
  · rw [mm_K_sP, mm_K_sN, if_neg hrq]; exact h1
  · by_cases e : g = f
    · subst e
      simp only [if_true]
      refine ⟨by rw [mm_P_sP, if_pos ⟨rfl, rfl⟩], by rw [mm_K_sP, mm_K_sN, if_pos rfl], by rw [mm_L_sP, mm_L_sN, if_pos rfl], fun i => by rw [mm_I_sP, mm_I_sN, if_pos rfl]⟩
    · have hg' : dn g = true := by simpa [e] using hg
      obtain ⟨a1, a2, a3, a4⟩ := h2 g hg'
      simp only [if_neg e]
      refine ⟨by rw [mm_P_sP, if_neg (fun z => e z.2), mm_P_sN, if_neg hrq]; exact a1, by rw [mm_K_sP, mm_K_sN, if_neg (haq g hg')]; exact a2, by rw [mm_L_sP, mm_L_sN, if_neg (haq g hg')]; exact a3, fun i => by rw [mm_I_sP, mm_I_sN, if_neg (haq g hg')]; exact a4 i⟩
  · by_cases e : g = f <;> by_cases e' : g' = f
    · rw [e, e']
    · have hg2 : dn g' = true := by simpa [e'] using hg'
      simp only [if_pos e, if_neg e'] at he
      exact absurd he.symm (haq g' hg2)
    · have hg2 : dn g = true := by simpa [e] using hg
      simp only [if_neg e, if_pos e'] at he
      exact absurd he (haq g hg2)
    · have hg2 : dn g = true := by simpa [e] using hg
      have hg3 : dn g' = true := by simpa [e'] using hg'
      simp only [if_neg e, if_neg e'] at he
      exact h3 g g' hg2 hg3 he
  · rw [mm_I_sP, mm_I_sN, if_neg hrq]; exact h4 g
theorem xx_P.int {S : mm_H} {r : Nat} {ad : Nat → Nat} {dn : Nat → Bool} {iv : Nat → Int32} (h : xx_P S r ad dn iv) (f : Nat) (v : Int32) : xx_P (mm_sI S r f v) r ad dn (fun g => if g = f then v else iv g) := by
  obtain ⟨h1, h2, h3, h4⟩ := h
  refine ⟨h1, fun g hg => ?_, h3, fun g => ?_⟩
  · obtain ⟨a1, a2, a3, a4⟩ := h2 g hg
    have hne : ad g ≠ r := fun e => by rw [e] at a2; omega
    exact ⟨a1, a2, a3, fun i => by rw [mm_I_sI, if_neg (fun z => hne z.1)]; exact a4 i⟩
  · show mm_I (mm_sI S r f v) r g = if g = f then v else iv g
    rw [mm_I_sI]
    by_cases e : g = f
    · rw [if_pos ⟨rfl, e⟩, if_pos e]
    · rw [if_neg (fun z => e z.2), if_neg e]; exact h4 g
def xx_0 : xx_X := (fun f => if f = 10 then 1 else 0, fun _ _ => 0, -1, -1)
set_option maxRecDepth 100000 in
set_option maxHeartbeats 4000000 in
theorem c_X4_init {S : mm_H} {r : Nat} {ad0 : Nat → Nat} (hP : xx_P S r ad0 (fun _ => false) (fun _ => 0)) : MV yX4_init cX4_init 1 1 20 8 7692 [.ref r] S (fun S' => ∃ ad, xx_R S' r ad xx_0) := by
  refine MA.of (by decide) (Nat.le_of_ble_eq_true rfl) ?_
  intro x hx he hini
  have hx : vv_C x cX4_init RX4 1 20 1 := hx
  show vv_V x 8 7692 0 [(0, .ref r)] [] S
  refine vv_aload_n hx dX4_init_0 rfl ?_
  refine vv_objInit hx dX4_init_1 km_X4_1 ki_obj ko_obj (by decide) (by decide) ?_
  refine vv_aload_n hx dX4_init_4 rfl ?_
  refine vv_sipush (v := nI 601) hx dX4_init_5 (by decide) ?_
  refine vv_newi (z := 601) hx dX4_init_8 rfl (by decide) rfl rfl (fun q1 hq1 => ?_)
  refine vv_putrF 1 hx dX4_init_10 kf_X4_7 kl_4 (by decide) rfl rfl (hini rfl) rfl rfl rfl rfl (by have h9 := (hP.arr (f := 1) hq1).1; exact h9) ?_
  have hP := hP.arr (f := 1) hq1
  refine vv_aload_n hx dX4_init_13 rfl ?_
  refine vv_sipush (v := nI 601) hx dX4_init_14 (by decide) ?_
  refine vv_newi (z := 601) hx dX4_init_17 rfl (by decide) rfl rfl (fun q2 hq2 => ?_)
  refine vv_putrF 2 hx dX4_init_19 kf_X4_13 kl_4 (by decide) rfl rfl (hini rfl) rfl rfl rfl rfl (by have h9 := (hP.arr (f := 2) hq2).1; exact h9) ?_
  have hP := hP.arr (f := 2) hq2
  refine vv_aload_n hx dX4_init_22 rfl ?_
  refine vv_iconst (v := -1) hx dX4_init_23 (by decide) ?_
  refine vv_puti 4 hx dX4_init_24 kf_X4_16 kl_4 (by decide) rfl rfl rfl hP.1 ?_
  have hP := hP.int 4 (-1)
  refine vv_aload_n hx dX4_init_27 rfl ?_
  refine vv_iconst (v := -1) hx dX4_init_28 (by decide) ?_
  refine vv_puti 5 hx dX4_init_29 kf_X4_20 kl_4 (by decide) rfl rfl rfl hP.1 ?_
  have hP := hP.int 5 (-1)
  refine vv_aload_n hx dX4_init_32 rfl ?_
  refine vv_sipush (v := nI 320) hx dX4_init_33 (by decide) ?_
  refine vv_newi (z := 320) hx dX4_init_36 rfl (by decide) rfl rfl (fun q7 hq7 => ?_)
  refine vv_putrF 7 hx dX4_init_38 kf_X4_23 kl_4 (by decide) rfl rfl (hini rfl) rfl rfl rfl rfl (by have h9 := (hP.arr (f := 7) hq7).1; exact h9) ?_
  have hP := hP.arr (f := 7) hq7
  refine vv_aload_n hx dX4_init_41 rfl ?_
  refine vv_sipush (v := nI 5120) hx dX4_init_42 (by decide) ?_
  refine vv_newi (z := 5120) hx dX4_init_45 rfl (by decide) rfl rfl (fun q8 hq8 => ?_)
  refine vv_putrF 8 hx dX4_init_47 kf_X4_26 kl_4 (by decide) rfl rfl (hini rfl) rfl rfl rfl rfl (by have h9 := (hP.arr (f := 8) hq8).1; exact h9) ?_
  have hP := hP.arr (f := 8) hq8
  refine vv_aload_n hx dX4_init_50 rfl ?_
  refine vv_iconst (v := nI 1) hx dX4_init_51 (by decide) ?_
  refine vv_puti 10 hx dX4_init_52 kf_X4_29 kl_4 (by decide) rfl rfl rfl hP.1 ?_
  have hP := hP.int 10 (nI 1)
  refine vv_aload_n hx dX4_init_55 rfl ?_
  refine vv_sipush (v := nI 150) hx dX4_init_56 (by decide) ?_
  refine vv_newi (z := 150) hx dX4_init_59 rfl (by decide) rfl rfl (fun q11 hq11 => ?_)
  refine vv_putrF 11 hx dX4_init_61 kf_X4_32 kl_4 (by decide) rfl rfl (hini rfl) rfl rfl rfl rfl (by have h9 := (hP.arr (f := 11) hq11).1; exact h9) ?_
  have hP := hP.arr (f := 11) hq11
  refine vv_aload_n hx dX4_init_64 rfl ?_
  refine vv_sipush (v := nI 150) hx dX4_init_65 (by decide) ?_
  refine vv_newi (z := 150) hx dX4_init_68 rfl (by decide) rfl rfl (fun q12 hq12 => ?_)
  refine vv_putrF 12 hx dX4_init_70 kf_X4_35 kl_4 (by decide) rfl rfl (hini rfl) rfl rfl rfl rfl (by have h9 := (hP.arr (f := 12) hq12).1; exact h9) ?_
  have hP := hP.arr (f := 12) hq12
  refine vv_aload_n hx dX4_init_73 rfl ?_
  refine vv_sipush (v := nI 600) hx dX4_init_74 (by decide) ?_
  refine vv_newi (z := 600) hx dX4_init_77 rfl (by decide) rfl rfl (fun q13 hq13 => ?_)
  refine vv_putrF 13 hx dX4_init_79 kf_X4_38 kl_4 (by decide) rfl rfl (hini rfl) rfl rfl rfl rfl (by have h9 := (hP.arr (f := 13) hq13).1; exact h9) ?_
  have hP := hP.arr (f := 13) hq13
  refine vv_aload_n hx dX4_init_82 rfl ?_
  refine vv_sipush (v := nI 150) hx dX4_init_83 (by decide) ?_
  refine vv_newi (z := 150) hx dX4_init_86 rfl (by decide) rfl rfl (fun q14 hq14 => ?_)
  refine vv_putrF 14 hx dX4_init_88 kf_X4_41 kl_4 (by decide) rfl rfl (hini rfl) rfl rfl rfl rfl (by have h9 := (hP.arr (f := 14) hq14).1; exact h9) ?_
  have hP := hP.arr (f := 14) hq14
  refine vv_vret hx he dX4_init_91 ⟨rfl, _, hP.1, fun f hf => ?_, hP.2.2.2 4, hP.2.2.2 5, fun f hf => ?_, fun f g hf hg => hP.2.2.1 f g ?_ ?_, ⟨fun f => ?_, fun f i => ?_⟩⟩
  · refine (hP.2.2.2 f).trans ?_
    simp only [xx_if, Bool.or_eq_true, beq_iff_eq] at hf
    rcases hf with ((((((rfl | rfl) | rfl) | rfl) | rfl) | rfl) | rfl) | rfl <;> rfl
  · simp only [xx_af, Bool.or_eq_true, beq_iff_eq] at hf
    rcases hf with ((((((rfl | rfl) | rfl) | rfl) | rfl) | rfl) | rfl) | rfl <;> exact ⟨(hP.2.1 _ rfl).1, (hP.2.1 _ rfl).2.1, (hP.2.1 _ rfl).2.2.1, fun i _ => (hP.2.1 _ rfl).2.2.2 i⟩
  · simp only [xx_af, Bool.or_eq_true, beq_iff_eq] at hf
    rcases hf with ((((((rfl | rfl) | rfl) | rfl) | rfl) | rfl) | rfl) | rfl <;> rfl
  · simp only [xx_af, Bool.or_eq_true, beq_iff_eq] at hg
    rcases hg with ((((((rfl | rfl) | rfl) | rfl) | rfl) | rfl) | rfl) | rfl <;> rfl
  · show (if f = 10 then 1 else 0) < 2 ^ 31
    split <;> decide
  · show 0 < 2 ^ 31
    decide
