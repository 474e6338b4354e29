/-! THE CLASS'S PLAN, first part: leaves, the probe, the slots and the ticks between them -/
section CPL
variable {tb : dT} {d c t : Nat} {g : Nat → Option dE} {fl : Nat → Bool} {tg : Nat} {σ : dSg} {P : dP} {A : dA} {all : Nat} {lf : Nat → Bool}
theorem kc_dx0 (C : ShC P fl σ) (W : Wf P) {s b : Nat} (hs : s < pM P) (hb : b < bgn P s) (hk : 0 < pN P s) : dX tb (d + 1) 61 0 [.ref (5 + 5 * s), .int (Int32.ofNat b), .int 0] [] (c, t, hp g (SH fl tg) σ) = some (some (.int (Int32.ofNat (dXn P s b 0))), (c, t, hp g (SH fl tg) σ)) := kc_dx C W hs hb hk
theorem kc_dy0 (C : ShC P fl σ) (W : Wf P) {s b : Nat} (hs : s < pM P) (hb : b < bgn P s) (hk : 0 < pN P s) : dX tb (d + 1) 62 0 [.ref (5 + 5 * s), .int (Int32.ofNat b), .int 0] [] (c, t, hp g (SH fl tg) σ) = some (some (.int (Int32.ofNat (dYn P s b 0))), (c, t, hp g (SH fl tg) σ)) := kc_dy C W hs hb hk
theorem kc_leftL (C : ShC P fl σ) (W : Wf P) (L : LfC P lf σ) : ∀ q s, s + q = pM P → dX tb d 52 4 [.ref 1, .int (Int32.ofNat (lfm lf s)), .int (Int32.ofNat s)] [] (c, t, hp g (SH fl tg) σ) = some (some (.int (Int32.ofNat (lfm lf (pM P)))), (c, t, hp g (SH fl tg) σ)) := by
  have hm := W.1
  intro q
  induction q with
  | zero =>
    intro s h
    have h1 : pM P ≤ s := by omega
    rw [sg_X4_leftOnes_4]
    simp (disch := omega) only [Option.bind_some, as_I, as_R, as_V, ct_t, ct_f, if_true, if_false, Bool.true_and, Bool.and_true, Bool.or_true, Bool.true_or, gi_1_3, gi_s, pi_1_3, pi_s, gr_0_0, gr_0_1, gr_0_2, gr_0_3, gr_1_0, gr_1_1, gr_1_2, gr_s_7, gr_s_8, gr_s_9, gr_s_10, ld_3, ld_4, ld_x, ld_y, ld_u, ld_v, sv_3, sv_4, sv_x, sv_y, sv_u, sv_v, is_0, is_1, is_s, lr_2, ia_0, ia_1, is_m0, is_m1, im_8, ml_8, im_11, ml_11, im_12, ml_12, im_88, ml_88, im_89, ml_89, j_lt_0, j_gt_0, j_le_0, j_ge_0, j_eq_0, j_lt_1, j_gt_1, j_le_1, j_ge_1, j_eq_1, j_lt_2, j_gt_2, j_le_2, j_ge_2, j_eq_2, j_lt_3, j_gt_3, j_le_3, j_ge_3, j_eq_3, j_lt_4, j_gt_4, j_le_4, j_ge_4, j_eq_4, j_lt_5, j_gt_5, j_le_5, j_ge_5, j_eq_5, j_lt_6, j_gt_6, j_le_6, j_ge_6, j_eq_6, j_lt_8, j_gt_8, j_le_8, j_ge_8, j_eq_8, j_lt_12, j_gt_12, j_le_12, j_ge_12, j_eq_12, j_lt_209, j_gt_209, j_le_209, j_ge_209, j_eq_209, j_lt_255, j_gt_255, j_le_255, j_ge_255, j_eq_255, j_lt_1000000000, j_gt_1000000000, j_le_1000000000, j_ge_1000000000, j_eq_1000000000, C.1, i_le, h1]
    rw [show s = pM P by omega]
  | succ q ih =>
    intro s h
    have hs : s < pM P := by omega
    have h1 : ¬ pM P ≤ s := by omega
    have e3 := L s hs
    have hl := Nat.lt_of_lt_of_le (lfm_lt lf s) (p8 (n := s) (by omega))
    have nx := ih (s + 1) (by omega)
    rw [show lfm lf (s + 1) = bif lf s then lfm lf s ||| 2 ^ s else lfm lf s from rfl] at nx
    rw [sg_X4_leftOnes_4]
    simp (disch := omega) only [Option.bind_some, as_I, as_R, as_V, ct_t, ct_f, if_true, if_false, Bool.true_and, Bool.and_true, Bool.or_true, Bool.true_or, gi_1_3, gi_s, pi_1_3, pi_s, gr_0_0, gr_0_1, gr_0_2, gr_0_3, gr_1_0, gr_1_1, gr_1_2, gr_s_7, gr_s_8, gr_s_9, gr_s_10, ld_3, ld_4, ld_x, ld_y, ld_u, ld_v, sv_3, sv_4, sv_x, sv_y, sv_u, sv_v, is_0, is_1, is_s, lr_2, ia_0, ia_1, is_m0, is_m1, im_8, ml_8, im_11, ml_11, im_12, ml_12, im_88, ml_88, im_89, ml_89, j_lt_0, j_gt_0, j_le_0, j_ge_0, j_eq_0, j_lt_1, j_gt_1, j_le_1, j_ge_1, j_eq_1, j_lt_2, j_gt_2, j_le_2, j_ge_2, j_eq_2, j_lt_3, j_gt_3, j_le_3, j_ge_3, j_eq_3, j_lt_4, j_gt_4, j_le_4, j_ge_4, j_eq_4, j_lt_5, j_gt_5, j_le_5, j_ge_5, j_eq_5, j_lt_6, j_gt_6, j_le_6, j_ge_6, j_eq_6, j_lt_8, j_gt_8, j_le_8, j_ge_8, j_eq_8, j_lt_12, j_gt_12, j_le_12, j_ge_12, j_eq_12, j_lt_209, j_gt_209, j_le_209, j_ge_209, j_eq_209, j_lt_255, j_gt_255, j_le_255, j_ge_255, j_eq_255, j_lt_1000000000, j_gt_1000000000, j_le_1000000000, j_ge_1000000000, j_eq_1000000000, C.1, i_le, h1, e3, bI_0, b_or]
    cases hq : lf s
    · rw [hq] at nx
      rw [if_pos rfl]
      exact nx
    · rw [hq] at nx
      rw [if_neg (by decide)]
      exact nx
theorem kc_left (C : ShC P fl σ) (W : Wf P) (L : LfC P lf σ) : dX tb d 52 0 [.ref 1, .null, .null] [] (c, t, hp g (SH fl tg) σ) = some (some (.int (Int32.ofNat (lfm lf (pM P)))), (c, t, hp g (SH fl tg) σ)) := by
  rw [sg_X4_leftOnes_0]
  exact kc_leftL C W L (pM P) 0 (by omega)
theorem kc_shortL (C : ShC P fl σ) (W : Wf P) (L : LfC P lf σ) : ∀ q s, s + q = pM P → dX tb d 53 2 [.ref 1, .int (Int32.ofNat s)] [] (c, t, hp g (SH fl tg) σ) = some (some (.int (bI (dcd (∃ s', s ≤ s' ∧ s' < pM P ∧ lf s' = true ∧ pN P s' < 2)))), (c, t, hp g (SH fl tg) σ)) := by
  have hm := W.1
  intro q
  induction q with
  | zero =>
    intro s h
    have h1 : pM P ≤ s := by omega
    rw [sg_X4_someLeftIsTooShort_2]
    simp (disch := omega) only [Option.bind_some, as_I, as_R, as_V, ct_t, ct_f, if_true, if_false, Bool.true_and, Bool.and_true, Bool.or_true, Bool.true_or, gi_1_3, gi_s, pi_1_3, pi_s, gr_0_0, gr_0_1, gr_0_2, gr_0_3, gr_1_0, gr_1_1, gr_1_2, gr_s_7, gr_s_8, gr_s_9, gr_s_10, ld_3, ld_4, ld_x, ld_y, ld_u, ld_v, sv_3, sv_4, sv_x, sv_y, sv_u, sv_v, is_0, is_1, is_s, lr_2, ia_0, ia_1, is_m0, is_m1, im_8, ml_8, im_11, ml_11, im_12, ml_12, im_88, ml_88, im_89, ml_89, j_lt_0, j_gt_0, j_le_0, j_ge_0, j_eq_0, j_lt_1, j_gt_1, j_le_1, j_ge_1, j_eq_1, j_lt_2, j_gt_2, j_le_2, j_ge_2, j_eq_2, j_lt_3, j_gt_3, j_le_3, j_ge_3, j_eq_3, j_lt_4, j_gt_4, j_le_4, j_ge_4, j_eq_4, j_lt_5, j_gt_5, j_le_5, j_ge_5, j_eq_5, j_lt_6, j_gt_6, j_le_6, j_ge_6, j_eq_6, j_lt_8, j_gt_8, j_le_8, j_ge_8, j_eq_8, j_lt_12, j_gt_12, j_le_12, j_ge_12, j_eq_12, j_lt_209, j_gt_209, j_le_209, j_ge_209, j_eq_209, j_lt_255, j_gt_255, j_le_255, j_ge_255, j_eq_255, j_lt_1000000000, j_gt_1000000000, j_le_1000000000, j_ge_1000000000, j_eq_1000000000, C.1, i_le, h1]
    rw [dcd_f (fun ⟨s', a, b, _⟩ => by omega)]; rfl
  | succ q ih =>
    intro s h
    have hs : s < pM P := by omega
    have h1 : ¬ pM P ≤ s := by omega
    have hn := (W.2.1 s hs).1
    have e3 := L s hs
    have e2 := (C.2.2.1 s hs).2.2.1
    have nx := ih (s + 1) (by omega)
    have sk : ¬ (lf s = true ∧ pN P s < 2) → ((∃ s', s ≤ s' ∧ s' < pM P ∧ lf s' = true ∧ pN P s' < 2) ↔ ∃ s', s + 1 ≤ s' ∧ s' < pM P ∧ lf s' = true ∧ pN P s' < 2) := fun hk => ⟨fun ⟨s', a1, a2, a3⟩ => ⟨s', by
      by_cases e : s' = s
      · subst e; exact absurd a3 hk
      · omega, a2, a3⟩, fun ⟨s', a1, a2⟩ => ⟨s', by omega, a2⟩⟩
    rw [sg_X4_someLeftIsTooShort_2]
    simp (disch := omega) only [Option.bind_some, as_I, as_R, as_V, ct_t, ct_f, if_true, if_false, Bool.true_and, Bool.and_true, Bool.or_true, Bool.true_or, gi_1_3, gi_s, pi_1_3, pi_s, gr_0_0, gr_0_1, gr_0_2, gr_0_3, gr_1_0, gr_1_1, gr_1_2, gr_s_7, gr_s_8, gr_s_9, gr_s_10, ld_3, ld_4, ld_x, ld_y, ld_u, ld_v, sv_3, sv_4, sv_x, sv_y, sv_u, sv_v, is_0, is_1, is_s, lr_2, ia_0, ia_1, is_m0, is_m1, im_8, ml_8, im_11, ml_11, im_12, ml_12, im_88, ml_88, im_89, ml_89, j_lt_0, j_gt_0, j_le_0, j_ge_0, j_eq_0, j_lt_1, j_gt_1, j_le_1, j_ge_1, j_eq_1, j_lt_2, j_gt_2, j_le_2, j_ge_2, j_eq_2, j_lt_3, j_gt_3, j_le_3, j_ge_3, j_eq_3, j_lt_4, j_gt_4, j_le_4, j_ge_4, j_eq_4, j_lt_5, j_gt_5, j_le_5, j_ge_5, j_eq_5, j_lt_6, j_gt_6, j_le_6, j_ge_6, j_eq_6, j_lt_8, j_gt_8, j_le_8, j_ge_8, j_eq_8, j_lt_12, j_gt_12, j_le_12, j_ge_12, j_eq_12, j_lt_209, j_gt_209, j_le_209, j_ge_209, j_eq_209, j_lt_255, j_gt_255, j_le_255, j_ge_255, j_eq_255, j_lt_1000000000, j_gt_1000000000, j_le_1000000000, j_ge_1000000000, j_eq_1000000000, C.1, i_le, h1, e3, e2, bI_0]
    cases hq : lf s
    · rw [if_pos rfl, dcd_c (sk (fun z => by rw [hq] at z; exact absurd z.1 (by decide)))]
      exact nx
    · rw [if_neg (by decide)]
      by_cases h2 : 2 ≤ pN P s
      · rw [if_pos h2, dcd_c (sk (fun z => by omega))]
        exact nx
      · rw [if_neg h2, dcd_t ⟨s, Nat.le_refl _, hs, hq, by omega⟩]; rfl
theorem kc_short (C : ShC P fl σ) (W : Wf P) (L : LfC P (pLf P) σ) : dX tb d 53 0 [.ref 1, .null] [] (c, t, hp g (SH fl tg) σ) = some (some (.int (bI (dcd (shrt P)))), (c, t, hp g (SH fl tg) σ)) := by
  rw [sg_X4_someLeftIsTooShort_0, dcd_c (show shrt P ↔ ∃ s', 0 ≤ s' ∧ s' < pM P ∧ pLf P s' = true ∧ pN P s' < 2 from ⟨fun ⟨s, h⟩ => ⟨s, by omega, h⟩, fun ⟨s, _, h⟩ => ⟨s, h⟩⟩)]
  exact kc_shortL C W L (pM P) 0 (by omega)
theorem kc_isL (ha : all < 256) (h9 : σ 46 9 = Int32.ofNat all) {s : Nat} (hs : s < 8) : dX tb d 14 0 [.ref 46, .int (Int32.ofNat s)] [] (c, t, hp g (SH fl tg) σ) = some (some (.int (bI (all.testBit s))), (c, t, hp g (SH fl tg) σ)) := by
  rw [sg_X2_isLeft_0]
  simp (disch := omega) only [Option.bind_some, as_I, as_R, as_V, ct_t, ct_f, if_true, if_false, Bool.true_and, Bool.and_true, Bool.or_true, Bool.true_or, gi_45_0, gi_45_1, gi_45_2, gi_45_3, gi_47_0, gi_47_1, gi_47_2, gi_47_3, gi_46_8, gi_46_9, gi_46_10, gi_46_15, gi_46_16, pi_45_0, pi_45_1, pi_45_2, pi_45_3, pi_47_0, pi_47_1, pi_47_2, pi_47_3, pi_46_8, pi_46_9, pi_46_10, pi_46_15, pi_46_16, gr_46_0, gr_46_1, gr_46_2, gr_46_3, gr_46_4, gr_46_5, gr_46_6, gr_46_7, gr_46_11, gr_46_12, gr_46_13, gr_46_14, ld_50, ld_51, ld_52, ld_53, ld_54, ld_55, ld_56, ld_t, ld_b, sv_50, sv_51, sv_52, sv_53, sv_54, sv_55, sv_56, sv_t, sv_b, is_45, is_47, is_46, h9, b_tst, bI_0]
  cases all.testBit s <;> rfl
theorem ovm_256 (P : dP) (s : Nat) : ovm P s 8 < 256 := ovm_lt P s 8
theorem kc_free (C : ShC P fl σ) (W : Wf P) {s dn : Nat} (hs : s < 8) (hd : dn < 256) : dX tb d 19 0 [.ref 46, .int (Int32.ofNat s), .int (Int32.ofNat dn)] [] (c, t, hp g (SH fl tg) σ) = some (some (.int (bI (dcd (∀ o, o < pM P → pOv P s o = true → dn.testBit o = true)))), (c, t, hp g (SH fl tg) σ)) := by
  have hm := W.1
  have e := C.2.2.2 s hs
  have h8 := ovm_256 P s
  rw [sg_X2_isFree_0]
  simp (disch := omega) only [Option.bind_some, as_I, as_R, as_V, ct_t, ct_f, if_true, if_false, Bool.true_and, Bool.and_true, Bool.or_true, Bool.true_or, gi_1_3, gi_s, pi_1_3, pi_s, gr_0_0, gr_0_1, gr_0_2, gr_0_3, gr_1_0, gr_1_1, gr_1_2, gr_s_7, gr_s_8, gr_s_9, gr_s_10, ld_3, ld_4, ld_x, ld_y, ld_u, ld_v, sv_3, sv_4, sv_x, sv_y, sv_u, sv_v, is_0, is_1, is_s, lr_2, gi_45_0, gi_45_1, gi_45_2, gi_45_3, gi_47_0, gi_47_1, gi_47_2, gi_47_3, gi_46_8, gi_46_9, gi_46_10, gi_46_15, gi_46_16, pi_45_0, pi_45_1, pi_45_2, pi_45_3, pi_47_0, pi_47_1, pi_47_2, pi_47_3, pi_46_8, pi_46_9, pi_46_10, pi_46_15, pi_46_16, gr_46_0, gr_46_1, gr_46_2, gr_46_3, gr_46_4, gr_46_5, gr_46_6, gr_46_7, gr_46_11, gr_46_12, gr_46_13, gr_46_14, ld_50, ld_51, ld_52, ld_53, ld_54, ld_55, ld_56, ld_t, ld_b, sv_50, sv_51, sv_52, sv_53, sv_54, sv_55, sv_56, sv_t, sv_b, is_45, is_47, is_46, e]
  have key : (∀ o, o < pM P → pOv P s o = true → dn.testBit o = true) ↔ sub (ovm P s 8) dn := by
    constructor
    · intro h o ho
      rw [ovm_tb, Bool.and_eq_true, decide_eq_true_eq] at ho
      have := W.2.2.2.2.2.2.2 s o ho.2
      exact h o this.2.1 ho.2
    · intro h o ho hp
      exact h o (by rw [ovm_tb, hp, decide_eq_true (by omega)]; rfl)
  by_cases q : sub (ovm P s 8) dn
  · rw [if_pos (by rw [b_subI h8 hd]; exact q), dcd_t (key.mpr q)]; rfl
  · rw [if_neg (by rw [b_subI h8 hd]; exact q), dcd_f (fun z => q (key.mp z))]; rfl
/-- a hand stands so -/
def HdC (a : Nat) (σ : dSg) (x y : Nat) (pen : Int32) (dwn : Bool) : Prop := σ a 0 = Int32.ofNat x ∧ σ a 1 = Int32.ofNat y ∧ σ a 2 = pen ∧ σ a 3 = bI dwn
theorem kc_like {x y : Nat} {pen : Int32} {dwn : Bool} (h : HdC 45 σ x y pen dwn) : ∃ τ, dX tb d 2 0 [.ref 47, .ref 45] [] (c, t, hp g (SH fl tg) σ) = some (none, (c, t, hp g (SH fl tg) τ)) ∧ HdC 47 τ x y pen dwn ∧ ∀ a, a ≠ 47 → τ a = σ a := by
  obtain ⟨h0, h1, h2, h3⟩ := h
  refine ⟨up2 (up2 (up2 (up2 σ 47 0 (σ 45 0)) 47 1 (σ 45 1)) 47 2 (σ 45 2)) 47 3 (σ 45 3), ?_, ⟨?_, ?_, ?_, ?_⟩, fun a ha => ?_⟩
  · rw [sg_X0_standLike_0]
    simp (disch := omega) only [Option.bind_some, as_I, as_R, as_V, ct_t, ct_f, if_true, if_false, Bool.true_and, Bool.and_true, Bool.or_true, Bool.true_or, gi_45_0, gi_45_1, gi_45_2, gi_45_3, gi_47_0, gi_47_1, gi_47_2, gi_47_3, gi_46_8, gi_46_9, gi_46_10, gi_46_15, gi_46_16, pi_45_0, pi_45_1, pi_45_2, pi_45_3, pi_47_0, pi_47_1, pi_47_2, pi_47_3, pi_46_8, pi_46_9, pi_46_10, pi_46_15, pi_46_16, gr_46_0, gr_46_1, gr_46_2, gr_46_3, gr_46_4, gr_46_5, gr_46_6, gr_46_7, gr_46_11, gr_46_12, gr_46_13, gr_46_14, ld_50, ld_51, ld_52, ld_53, ld_54, ld_55, ld_56, ld_t, ld_b, sv_50, sv_51, sv_52, sv_53, sv_54, sv_55, sv_56, sv_t, sv_b, is_45, is_47, is_46, up2_n, h3, bI_d]
  · simp (disch := omega) only [up2_s, up2_n]; exact h0
  · simp (disch := omega) only [up2_s, up2_n]; exact h1
  · simp (disch := omega) only [up2_s, up2_n]; exact h2
  · simp (disch := omega) only [up2_s]; exact h3
  · simp (disch := omega) only [up2_row]
theorem kc_like59 {x y : Nat} {pen : Int32} {dwn : Bool} (h : HdC 45 σ x y pen dwn) : ∃ τ, dX tb d 2 0 [.ref 59, .ref 45] [] (c, t, hp g (SH fl tg) σ) = some (none, (c, t, hp g (SH fl tg) τ)) ∧ HdC 59 τ x y pen dwn ∧ ∀ a, a ≠ 59 → τ a = σ a := by
  obtain ⟨h0, h1, h2, h3⟩ := h
  refine ⟨up2 (up2 (up2 (up2 σ 59 0 (σ 45 0)) 59 1 (σ 45 1)) 59 2 (σ 45 2)) 59 3 (σ 45 3), ?_, ⟨?_, ?_, ?_, ?_⟩, fun a ha => ?_⟩
  · rw [sg_X0_standLike_0]
    simp (disch := omega) only [Option.bind_some, as_I, as_R, as_V, ct_t, ct_f, if_true, if_false, Bool.true_and, Bool.and_true, Bool.or_true, Bool.true_or, gi_45_0, gi_45_1, gi_45_2, gi_45_3, gi_47_0, gi_47_1, gi_47_2, gi_47_3, gi_46_8, gi_46_9, gi_46_10, gi_46_15, gi_46_16, pi_45_0, pi_45_1, pi_45_2, pi_45_3, pi_47_0, pi_47_1, pi_47_2, pi_47_3, pi_46_8, pi_46_9, pi_46_10, pi_46_15, pi_46_16, gr_46_0, gr_46_1, gr_46_2, gr_46_3, gr_46_4, gr_46_5, gr_46_6, gr_46_7, gr_46_11, gr_46_12, gr_46_13, gr_46_14, ld_50, ld_51, ld_52, ld_53, ld_54, ld_55, ld_56, ld_t, ld_b, sv_50, sv_51, sv_52, sv_53, sv_54, sv_55, sv_56, sv_t, sv_b, is_45, is_47, is_46, gi_59_0, gi_59_1, gi_59_2, gi_59_3, gi_57_3, gi_57_4, gi_57_6, gi_57_8, gi_57_9, gi_57_10, gi_57_11, gi_57_12, gi_57_13, gi_57_14, gi_l, pi_59_0, pi_59_1, pi_59_2, pi_59_3, pi_57_3, pi_57_4, pi_57_6, pi_57_8, pi_57_9, pi_57_10, pi_57_11, pi_57_12, pi_57_13, pi_57_14, pi_l, gr_57_0, gr_57_1, gr_57_2, gr_57_5, gr_57_7, ld_60, sv_60, is_59, is_57, is_l, lr_58, up2_n, h3, bI_d]
  · simp (disch := omega) only [up2_s, up2_n]; exact h0
  · simp (disch := omega) only [up2_s, up2_n]; exact h1
  · simp (disch := omega) only [up2_s, up2_n]; exact h2
  · simp (disch := omega) only [up2_s]; exact h3
  · simp (disch := omega) only [up2_row]
theorem kc_behind (C : ShC P fl σ) (W : Wf P) {s b : Nat} (hs : s < pM P) (hb : b < bgn P s) (h2 : 2 ≤ pN P s) : ∃ τ, dX tb (d + 2) 3 0 [.ref 47, .ref (5 + 5 * s), .int (Int32.ofNat b)] [] (c, t, hp g (SH fl tg) σ) = some (none, (c, t, hp g (SH fl tg) τ)) ∧ HdC 47 τ (dXn P s b (pN P s - 1)) (dYn P s b (pN P s - 1)) (Int32.ofNat (pPen P s)) true ∧ ∀ a, a ≠ 47 → τ a = σ a := by
  have hm := W.1
  have hn := (W.2.1 s hs).1
  have e2 := (C.2.2.1 s hs).2.2.1
  have e0 := (C.2.2.1 s hs).1
  have F1 : ∀ a, a ≠ 47 → (up2 σ 47 0 (Int32.ofNat (dXn P s b (pN P s - 1)))) a = σ a := fun a ha => up2_row _ _ ha
  have C1 : ShC P fl (up2 σ 47 0 (Int32.ofNat (dXn P s b (pN P s - 1)))) := ShC_congr W C fun a ha => F1 a (by omega)
  refine ⟨up2 (up2 (up2 (up2 σ 47 0 (Int32.ofNat (dXn P s b (pN P s - 1)))) 47 1 (Int32.ofNat (dYn P s b (pN P s - 1)))) 47 2 (Int32.ofNat (pPen P s))) 47 3 1, ?_, ⟨?_, ?_, ?_, ?_⟩, fun a ha => ?_⟩
  · rw [sg_X0_standBehind_0]
    simp (disch := omega) only [Option.bind_some, as_I, as_R, as_V, ct_t, ct_f, if_true, if_false, Bool.true_and, Bool.and_true, Bool.or_true, Bool.true_or, gi_1_3, gi_s, pi_1_3, pi_s, gr_0_0, gr_0_1, gr_0_2, gr_0_3, gr_1_0, gr_1_1, gr_1_2, gr_s_7, gr_s_8, gr_s_9, gr_s_10, ld_3, ld_4, ld_x, ld_y, ld_u, ld_v, sv_3, sv_4, sv_x, sv_y, sv_u, sv_v, is_0, is_1, is_s, lr_2, gi_45_0, gi_45_1, gi_45_2, gi_45_3, gi_47_0, gi_47_1, gi_47_2, gi_47_3, gi_46_8, gi_46_9, gi_46_10, gi_46_15, gi_46_16, pi_45_0, pi_45_1, pi_45_2, pi_45_3, pi_47_0, pi_47_1, pi_47_2, pi_47_3, pi_46_8, pi_46_9, pi_46_10, pi_46_15, pi_46_16, gr_46_0, gr_46_1, gr_46_2, gr_46_3, gr_46_4, gr_46_5, gr_46_6, gr_46_7, gr_46_11, gr_46_12, gr_46_13, gr_46_14, ld_50, ld_51, ld_52, ld_53, ld_54, ld_55, ld_56, ld_t, ld_b, sv_50, sv_51, sv_52, sv_53, sv_54, sv_55, sv_56, sv_t, sv_b, is_45, is_47, is_46, ia_0, ia_1, is_m0, is_m1, im_8, ml_8, im_11, ml_11, im_12, ml_12, im_88, ml_88, im_89, ml_89, j_lt_0, j_gt_0, j_le_0, j_ge_0, j_eq_0, j_lt_1, j_gt_1, j_le_1, j_ge_1, j_eq_1, j_lt_2, j_gt_2, j_le_2, j_ge_2, j_eq_2, j_lt_3, j_gt_3, j_le_3, j_ge_3, j_eq_3, j_lt_4, j_gt_4, j_le_4, j_ge_4, j_eq_4, j_lt_5, j_gt_5, j_le_5, j_ge_5, j_eq_5, j_lt_6, j_gt_6, j_le_6, j_ge_6, j_eq_6, j_lt_8, j_gt_8, j_le_8, j_ge_8, j_eq_8, j_lt_12, j_gt_12, j_le_12, j_ge_12, j_eq_12, j_lt_209, j_gt_209, j_le_209, j_ge_209, j_eq_209, j_lt_255, j_gt_255, j_le_255, j_ge_255, j_eq_255, j_lt_1000000000, j_gt_1000000000, j_le_1000000000, j_ge_1000000000, j_eq_1000000000, e2, e0, up2_row, kc_dx C W hs hb, kc_dy C1 W hs hb]
  · simp (disch := omega) only [up2_s, up2_n]
  · simp (disch := omega) only [up2_s, up2_n]
  · simp (disch := omega) only [up2_s, up2_n]
  · simp (disch := omega) only [up2_s]; rfl
  · simp (disch := omega) only [up2_row]
theorem kc_ttb (C : ShC P fl σ) (W : Wf P) {x y X Y p : Nat} {pen : Int32} {dwn : Bool} (h : HdC 47 σ x y pen dwn) (hx : x ≤ 500) (hy : y ≤ 500) (hX : X ≤ 500) (hY : Y ≤ 500) : dX tb (d + 2) 5 0 [.ref 47, .int (Int32.ofNat X), .int (Int32.ofNat Y), .int (Int32.ofNat p), .ref 4, .null] [] (c, t, hp g (SH fl tg) σ) = some (some (.int (Int32.ofNat (tbW P dwn (decide (pen = Int32.ofNat p)) (wayN x y X Y)))), (c, t, hp g (SH fl tg) σ)) := by
  obtain ⟨h0, h1, h2, h3⟩ := h
  have c1 := C.2.1 1 (by decide)
  have c2 := C.2.1 2 (by decide)
  have c3 := C.2.1 3 (by decide)
  have hr : dX tb (d + 1) 4 0 [.ref 47, .int (Int32.ofNat X), .int (Int32.ofNat Y), .int (Int32.ofNat p)] [] (c, t, hp g (SH fl tg) σ) = some (some (.int (bI (dwn && (decide (pen = Int32.ofNat p) && decide (wayN x y X Y = 0))))), (c, t, hp g (SH fl tg) σ)) := by
    rw [sg_X0_isReady_0]
    simp (disch := omega) only [Option.bind_some, as_I, as_R, as_V, ct_t, ct_f, if_true, if_false, Bool.true_and, Bool.and_true, Bool.or_true, Bool.true_or, gi_45_0, gi_45_1, gi_45_2, gi_45_3, gi_47_0, gi_47_1, gi_47_2, gi_47_3, gi_46_8, gi_46_9, gi_46_10, gi_46_15, gi_46_16, pi_45_0, pi_45_1, pi_45_2, pi_45_3, pi_47_0, pi_47_1, pi_47_2, pi_47_3, pi_46_8, pi_46_9, pi_46_10, pi_46_15, pi_46_16, gr_46_0, gr_46_1, gr_46_2, gr_46_3, gr_46_4, gr_46_5, gr_46_6, gr_46_7, gr_46_11, gr_46_12, gr_46_13, gr_46_14, ld_50, ld_51, ld_52, ld_53, ld_54, ld_55, ld_56, ld_t, ld_b, sv_50, sv_51, sv_52, sv_53, sv_54, sv_55, sv_56, sv_t, sv_b, is_45, is_47, is_46, h0, h1, h2, h3, bI_0, i_eq]
    cases dwn
    · rfl
    · rw [if_neg (by decide)]
      by_cases q1 : pen = Int32.ofNat p
      · rw [if_pos q1, decide_eq_true q1]
        by_cases q2 : x = X
        · rw [if_pos q2]
          by_cases q3 : y = Y
          · rw [if_pos q3, decide_eq_true (way_0.mpr ⟨q2, q3⟩)]; rfl
          · rw [if_neg q3, decide_eq_false (fun z => q3 (way_0.mp z).2)]; rfl
        · rw [if_neg q2, decide_eq_false (fun z => q2 (way_0.mp z).1)]; rfl
      · rw [if_neg q1, decide_eq_false q1]; rfl
  rw [sg_X0_ticksToBegin_0]
  simp (disch := omega) only [Option.bind_some, as_I, as_R, as_V, ct_t, ct_f, if_true, if_false, Bool.true_and, Bool.and_true, Bool.or_true, Bool.true_or, gi_1_3, gi_s, pi_1_3, pi_s, gr_0_0, gr_0_1, gr_0_2, gr_0_3, gr_1_0, gr_1_1, gr_1_2, gr_s_7, gr_s_8, gr_s_9, gr_s_10, ld_3, ld_4, ld_x, ld_y, ld_u, ld_v, sv_3, sv_4, sv_x, sv_y, sv_u, sv_v, is_0, is_1, is_s, lr_2, gi_45_0, gi_45_1, gi_45_2, gi_45_3, gi_47_0, gi_47_1, gi_47_2, gi_47_3, gi_46_8, gi_46_9, gi_46_10, gi_46_15, gi_46_16, pi_45_0, pi_45_1, pi_45_2, pi_45_3, pi_47_0, pi_47_1, pi_47_2, pi_47_3, pi_46_8, pi_46_9, pi_46_10, pi_46_15, pi_46_16, gr_46_0, gr_46_1, gr_46_2, gr_46_3, gr_46_4, gr_46_5, gr_46_6, gr_46_7, gr_46_11, gr_46_12, gr_46_13, gr_46_14, ld_50, ld_51, ld_52, ld_53, ld_54, ld_55, ld_56, ld_t, ld_b, sv_50, sv_51, sv_52, sv_53, sv_54, sv_55, sv_56, sv_t, sv_b, is_45, is_47, is_46, lp_0, lp_1, lp_2, lp_3, lp_4, lq_0, lq_1, lq_2, lq_3, lq_4, lx_0, ly_0, hr, h0, h1, h2, h3, c1, c2, c3, bI_0, sg_X6_wayOf_0, i_way hX hY hx hy, i_mul, i_add]
  rw [way_comm X Y x y]
  unfold tbW
  generalize wayN x y X Y = w
  by_cases q1 : pen = Int32.ofNat p
  · rw [decide_eq_true q1]
    cases dwn
    · simp only [Option.bind_some, as_I, as_R, as_V, ct_t, ct_f, if_true, if_false, Bool.true_and, Bool.and_true, Bool.or_true, Bool.true_or, Bool.false_and, q1, Nat.zero_add]
    · cases hw : decide (w = 0)
      · simp only [Option.bind_some, as_I, as_R, as_V, ct_t, ct_f, if_true, if_false, Bool.true_and, Bool.and_true, Bool.or_true, Bool.true_or, q1, Bool.true_eq_false, Bool.and_false]
        rw [show w * pPr P 1 + pPr P 2 + pPr P 2 = pPr P 2 + 0 + w * pPr P 1 + pPr P 2 by omega]
      · simp only [Option.bind_some, as_I, as_R, as_V, ct_t, ct_f, if_true, if_false, Bool.true_and, Bool.and_true, Bool.or_true, Bool.true_or, q1, Bool.true_eq_false]; rfl
  · rw [decide_eq_false q1]
    cases dwn
    · simp only [Option.bind_some, as_I, as_R, as_V, ct_t, ct_f, if_true, if_false, Bool.true_and, Bool.and_true, Bool.or_true, Bool.true_or, Bool.false_and, q1, Nat.zero_add]
      rw [show w * pPr P 1 + pPr P 2 + pPr P 3 = pPr P 3 + w * pPr P 1 + pPr P 2 by omega]
    · simp only [Option.bind_some, as_I, as_R, as_V, ct_t, ct_f, if_true, if_false, Bool.true_and, Bool.and_true, Bool.or_true, Bool.true_or, q1, Bool.true_eq_false, Bool.false_and, Bool.and_false]
      rw [show w * pPr P 1 + pPr P 2 + pPr P 2 + pPr P 3 = pPr P 2 + pPr P 3 + w * pPr P 1 + pPr P 2 by omega]
end CPL
