/-! THE REFERENCE'S PLAN, last part: plans as a whole -/
section MPZ
def shrt (P : dP) : Prop := ∃ s, s < pM P ∧ pLf P s = true ∧ pN P s < 2
def allM (P : dP) : Nat := lfm (pLf P) (pM P)
variable {tb : dT} {d c t : Nat} {g : Nat → Option dE} {fl : Nat → Bool} {tg : Nat} {σ : dSg} {P : dP} {A : dA}
theorem allM_lt (W : Wf P) : allM P < 256 := Nat.lt_of_lt_of_le (lfm_lt _ _) (p8 W.1)
theorem allM_tb (P : dP) (s : Nat) : (allM P).testBit s = (decide (s < pM P) && pLf P s) := lfm_tb _ _ _
theorem allM_ok (h : ¬ shrt P) : ∀ s, (allM P).testBit s = true → s < pM P ∧ 2 ≤ pN P s := fun s hs => by
  rw [allM_tb, Bool.and_eq_true, decide_eq_true_eq] at hs
  exact ⟨hs.1, Nat.le_of_not_lt fun z => h ⟨s, hs.1, hs.2, z⟩⟩
theorem km_pl7 (C : ShM P σ) (W : Wf P) {l1 : Int32} {l3 l4 l5 l6 l7 l8 l9 l10 : Value} : ∀ q s, s + q = pM P → ((∃ s', s ≤ s' ∧ s' < pM P ∧ pLf P s' = true ∧ pN P s' < 2) → dX tb (d + 1) 114 7 [.ref 270, .int l1, .int (Int32.ofNat s), l3, l4, l5, l6, l7, l8, l9, l10] [] (c, t, hp g (SH fl tg) σ) = some (some (.int 0), (c, t, hp g (SH fl tg) σ))) ∧ ((¬ ∃ s', s ≤ s' ∧ s' < pM P ∧ pLf P s' = true ∧ pN P s' < 2) → dX tb (d + 1) 114 7 [.ref 270, .int l1, .int (Int32.ofNat s), l3, l4, l5, l6, l7, l8, l9, l10] [] (c, t, hp g (SH fl tg) σ) = dX tb (d + 1) 114 44 [.ref 270, .int l1, .int l1, l3, l4, l5, l6, l7, l8, l9, l10] [] (c, t, hp g (SH fl tg) σ)) := by
  have hm := W.1
  intro q
  induction q with
  | zero =>
    intro s h
    have h1 : pM P ≤ s := by omega
    refine ⟨fun ⟨s', a, b, _⟩ => by omega, fun _ => ?_⟩
    rw [sg_X7_plans_7]
    simp (disch := omega) only [Option.bind_some, as_I, as_R, as_V, ct_t, ct_f, if_true, if_false, Bool.true_and, Bool.and_true, Bool.or_true, Bool.true_or, gi_270_0, gi_270_10, gi_270_11, gi_270_12, gi_270_13, gi_270_14, gi_270_15, gi_270_21, gi_270_22, gi_270_23, gi_270_34, gi_270_35, gi_270_36, pi_270_0, pi_270_10, pi_270_11, pi_270_12, pi_270_13, pi_270_14, pi_270_15, pi_270_21, pi_270_22, pi_270_23, pi_270_34, pi_270_35, pi_270_36, gr_270_1, gr_270_2, gr_270_3, gr_270_4, gr_270_5, gr_270_6, gr_270_7, gr_270_8, gr_270_9, gr_270_16, gr_270_17, gr_270_18, gr_270_19, gr_270_20, gr_270_24, gr_270_25, gr_270_26, gr_270_27, gr_270_28, gr_270_29, gr_270_30, gr_270_31, gr_270_32, gr_270_33, ld_271, ld_272, ld_273, ld_274, ld_275, ld_276, ld_277, ld_278, ld_279, ld_280, ld_281, ld_282, ld_283, ld_284, ld_285, ld_286, ld_287, ld_288, ld_289, ld_290, ld_291, ld_292, ld_293, ld_294, sv_271, sv_272, sv_273, sv_274, sv_275, sv_276, sv_277, sv_278, sv_279, sv_280, sv_281, sv_282, sv_283, sv_284, sv_285, sv_286, sv_287, sv_288, sv_289, sv_290, sv_291, sv_292, sv_293, sv_294, is_270, ia_0, ia_1, is_m0, is_m1, im_8, ml_8, im_11, ml_11, im_12, ml_12, im_88, ml_88, im_89, ml_89, j_lt_0, j_gt_0, j_le_0, j_ge_0, j_eq_0, j_lt_1, j_gt_1, j_le_1, j_ge_1, j_eq_1, j_lt_2, j_gt_2, j_le_2, j_ge_2, j_eq_2, j_lt_3, j_gt_3, j_le_3, j_ge_3, j_eq_3, j_lt_4, j_gt_4, j_le_4, j_ge_4, j_eq_4, j_lt_5, j_gt_5, j_le_5, j_ge_5, j_eq_5, j_lt_6, j_gt_6, j_le_6, j_ge_6, j_eq_6, j_lt_8, j_gt_8, j_le_8, j_ge_8, j_eq_8, j_lt_12, j_gt_12, j_le_12, j_ge_12, j_eq_12, j_lt_209, j_gt_209, j_le_209, j_ge_209, j_eq_209, j_lt_255, j_gt_255, j_le_255, j_ge_255, j_eq_255, j_lt_1000000000, j_gt_1000000000, j_le_1000000000, j_ge_1000000000, j_eq_1000000000, C.1, i_le, h1]
  | succ q ih =>
    intro s h
    have h1 : ¬ pM P ≤ s := by omega
    have hs : s < pM P := by omega
    have hn := (W.2.1 s hs).1
    obtain ⟨e1, e2, e3, e4, e5, e6⟩ := C.2.2.1 s hs
    obtain ⟨i1, i2⟩ := ih (s + 1) (by omega)
    have sk : ¬ (pLf P s = true ∧ pN P s < 2) → ((∃ s', s ≤ s' ∧ s' < pM P ∧ pLf P s' = true ∧ pN P s' < 2) ↔ ∃ s', s + 1 ≤ s' ∧ s' < pM P ∧ pLf P s' = true ∧ pN P s' < 2) := fun hk => ⟨fun ⟨s', a1, a2, a3⟩ => ⟨s', by
      by_cases e : s' = s
      · subst e; exact absurd a3 hk
      · omega, a2, a3⟩, fun ⟨s', a1, a2⟩ => ⟨s', by omega, a2⟩⟩
    rw [sg_X7_plans_7]
    simp (disch := omega) only [Option.bind_some, as_I, as_R, as_V, ct_t, ct_f, if_true, if_false, Bool.true_and, Bool.and_true, Bool.or_true, Bool.true_or, gi_270_0, gi_270_10, gi_270_11, gi_270_12, gi_270_13, gi_270_14, gi_270_15, gi_270_21, gi_270_22, gi_270_23, gi_270_34, gi_270_35, gi_270_36, pi_270_0, pi_270_10, pi_270_11, pi_270_12, pi_270_13, pi_270_14, pi_270_15, pi_270_21, pi_270_22, pi_270_23, pi_270_34, pi_270_35, pi_270_36, gr_270_1, gr_270_2, gr_270_3, gr_270_4, gr_270_5, gr_270_6, gr_270_7, gr_270_8, gr_270_9, gr_270_16, gr_270_17, gr_270_18, gr_270_19, gr_270_20, gr_270_24, gr_270_25, gr_270_26, gr_270_27, gr_270_28, gr_270_29, gr_270_30, gr_270_31, gr_270_32, gr_270_33, ld_271, ld_272, ld_273, ld_274, ld_275, ld_276, ld_277, ld_278, ld_279, ld_280, ld_281, ld_282, ld_283, ld_284, ld_285, ld_286, ld_287, ld_288, ld_289, ld_290, ld_291, ld_292, ld_293, ld_294, sv_271, sv_272, sv_273, sv_274, sv_275, sv_276, sv_277, sv_278, sv_279, sv_280, sv_281, sv_282, sv_283, sv_284, sv_285, sv_286, sv_287, sv_288, sv_289, sv_290, sv_291, sv_292, sv_293, sv_294, is_270, ia_0, ia_1, is_m0, is_m1, im_8, ml_8, im_11, ml_11, im_12, ml_12, im_88, ml_88, im_89, ml_89, j_lt_0, j_gt_0, j_le_0, j_ge_0, j_eq_0, j_lt_1, j_gt_1, j_le_1, j_ge_1, j_eq_1, j_lt_2, j_gt_2, j_le_2, j_ge_2, j_eq_2, j_lt_3, j_gt_3, j_le_3, j_ge_3, j_eq_3, j_lt_4, j_gt_4, j_le_4, j_ge_4, j_eq_4, j_lt_5, j_gt_5, j_le_5, j_ge_5, j_eq_5, j_lt_6, j_gt_6, j_le_6, j_ge_6, j_eq_6, j_lt_8, j_gt_8, j_le_8, j_ge_8, j_eq_8, j_lt_12, j_gt_12, j_le_12, j_ge_12, j_eq_12, j_lt_209, j_gt_209, j_le_209, j_ge_209, j_eq_209, j_lt_255, j_gt_255, j_le_255, j_ge_255, j_eq_255, j_lt_1000000000, j_gt_1000000000, j_le_1000000000, j_ge_1000000000, j_eq_1000000000, C.1, i_le, h1, e1, e4, bI_0]
    cases hl : pLf P s
    · rw [if_pos rfl]
      have sk' := sk (fun z => by rw [hl] at z; exact absurd z.1 (by decide))
      exact ⟨fun z => i1 (sk'.mp z), fun z => i2 fun y => z (sk'.mpr y)⟩
    · rw [if_neg (by decide)]
      by_cases h2 : 2 ≤ pN P s
      · rw [if_pos h2]
        have sk' := sk (fun z => by omega)
        exact ⟨fun z => i1 (sk'.mp z), fun z => i2 fun y => z (sk'.mpr y)⟩
      · rw [if_neg h2]
        exact ⟨fun _ => rfl, fun z => absurd ⟨s, Nat.le_refl _, hs, hl, by omega⟩ z⟩
theorem km_plansN (C : ShM P σ) (W : Wf P) (h : shrt P) : dX tb (d + 7) 114 0 [.ref 270, .null, .null, .null, .null, .null, .null, .null, .null, .null, .null] [] (c, t, hp g (SH fl tg) σ) = some (some (.int 0), (c, t, hp g (SH fl tg) σ)) := by
  obtain ⟨s, a1, a2⟩ := h
  rw [sg_X7_plans_0]
  simp only [Option.bind_some, as_I, as_R, as_V, ct_t, ct_f, if_true, if_false, Bool.true_and, Bool.and_true, Bool.or_true, Bool.true_or, gi_270_0, gi_270_10, gi_270_11, gi_270_12, gi_270_13, gi_270_14, gi_270_15, gi_270_21, gi_270_22, gi_270_23, gi_270_34, gi_270_35, gi_270_36, pi_270_0, pi_270_10, pi_270_11, pi_270_12, pi_270_13, pi_270_14, pi_270_15, pi_270_21, pi_270_22, pi_270_23, pi_270_34, pi_270_35, pi_270_36, gr_270_1, gr_270_2, gr_270_3, gr_270_4, gr_270_5, gr_270_6, gr_270_7, gr_270_8, gr_270_9, gr_270_16, gr_270_17, gr_270_18, gr_270_19, gr_270_20, gr_270_24, gr_270_25, gr_270_26, gr_270_27, gr_270_28, gr_270_29, gr_270_30, gr_270_31, gr_270_32, gr_270_33, ld_271, ld_272, ld_273, ld_274, ld_275, ld_276, ld_277, ld_278, ld_279, ld_280, ld_281, ld_282, ld_283, ld_284, ld_285, ld_286, ld_287, ld_288, ld_289, ld_290, ld_291, ld_292, ld_293, ld_294, sv_271, sv_272, sv_273, sv_274, sv_275, sv_276, sv_277, sv_278, sv_279, sv_280, sv_281, sv_282, sv_283, sv_284, sv_285, sv_286, sv_287, sv_288, sv_289, sv_290, sv_291, sv_292, sv_293, sv_294, is_270, km_left C W]
  exact (km_pl7 (tb := tb) (d := d + 6) (c := c) (t := t) (g := g) (fl := fl) (tg := tg) C W (pM P) 0 (by omega)).1 ⟨s, by omega, a1, a2⟩
theorem km_plans (C : ShM P σ) (W : Wf P) (hA : ArM A σ) (h : ¬ shrt P) : ∃ sum k os ob τ, dX tb (d + 7) 114 0 [.ref 270, .null, .null, .null, .null, .null, .null, .null, .null, .null, .null] [] (c, t, hp g (SH fl tg) σ) = some (some (.int (bI sum.isSome)), (c, t, hp g (SH fl tg) τ)) ∧ FrP σ τ ∧ IsPlan P A (allM P) sum k os ob ∧ τ 270 22 = encM sum ∧ τ 270 21 = Int32.ofNat k ∧ k ≤ 8 ∧ OrM P A os ob k τ ∧ bnd 0 sum := by
  have hall := allM_ok h
  have ha := allM_lt W
  have hz : sub 0 (allM P) := fun s hs => by rw [Nat.zero_testBit] at hs; exact absurd hs (by decide)
  rw [sg_X7_plans_0]
  simp only [Option.bind_some, as_I, as_R, as_V, ct_t, ct_f, if_true, if_false, Bool.true_and, Bool.and_true, Bool.or_true, Bool.true_or, gi_270_0, gi_270_10, gi_270_11, gi_270_12, gi_270_13, gi_270_14, gi_270_15, gi_270_21, gi_270_22, gi_270_23, gi_270_34, gi_270_35, gi_270_36, pi_270_0, pi_270_10, pi_270_11, pi_270_12, pi_270_13, pi_270_14, pi_270_15, pi_270_21, pi_270_22, pi_270_23, pi_270_34, pi_270_35, pi_270_36, gr_270_1, gr_270_2, gr_270_3, gr_270_4, gr_270_5, gr_270_6, gr_270_7, gr_270_8, gr_270_9, gr_270_16, gr_270_17, gr_270_18, gr_270_19, gr_270_20, gr_270_24, gr_270_25, gr_270_26, gr_270_27, gr_270_28, gr_270_29, gr_270_30, gr_270_31, gr_270_32, gr_270_33, ld_271, ld_272, ld_273, ld_274, ld_275, ld_276, ld_277, ld_278, ld_279, ld_280, ld_281, ld_282, ld_283, ld_284, ld_285, ld_286, ld_287, ld_288, ld_289, ld_290, ld_291, ld_292, ld_293, ld_294, sv_271, sv_272, sv_273, sv_274, sv_275, sv_276, sv_277, sv_278, sv_279, sv_280, sv_281, sv_282, sv_283, sv_284, sv_285, sv_286, sv_287, sv_288, sv_289, sv_290, sv_291, sv_292, sv_293, sv_294, is_270, km_left C W]
  have e0 := (km_pl7 (tb := tb) (d := d + 6) (c := c) (t := t) (g := g) (fl := fl) (tg := tg) C W (l1 := Int32.ofNat (lfm (pLf P) (pM P))) (l3 := .null) (l4 := .null) (l5 := .null) (l6 := .null) (l7 := .null) (l8 := .null) (l9 := .null) (l10 := .null) (pM P) 0 (by omega)).2 (fun ⟨s, _, a⟩ => h ⟨s, a⟩)
  obtain ⟨τ, R, l3, l4, e1, e2, e3⟩ := km_pl44 (tb := tb) (d := d) (c := c) (t := t) (g := g) (fl := fl) (tg := tg) C W hA hall ha (l5 := .null) (l6 := .null) (l7 := .null) (l8 := .null) (l9 := .null) (l10 := .null) (allM P) σ (fun _ _ => none) .null .null ha (FrP_refl σ) (fun set' s b a1 a2 a3 a4 a5 => by
    rcases a1 with a1 | ⟨-, a1⟩
    · exfalso
      have hle : set' ≤ allM P := Nat.le_of_testBit fun q hq => a3 q hq
      omega
    · omega)
  have T : InvA P A (allM P) R τ := fun set' s b a1 a2 a3 a4 => e3 set' s b (by
    by_cases e : set' = 0
    · subst e; rw [Nat.zero_testBit] at a3; exact absurd a3 (by decide)
    · exact Or.inl (by omega)) a1 a2 a3 a4
  have C1 := FrP_ShM e2 C
  have A1 := FrP_ArM e2 hA
  obtain ⟨v, f1, f2, f3⟩ := km_least (tb := tb) (d := d) (c := c) (t := t) (g := g) (fl := fl) (tg := tg) (set := 0) (f := 88) (fr := -1) (fb := 0) C1 W A1 hall ha (by decide) (Or.inl ⟨rfl, rfl⟩) (InvA_Tb W (by decide) hz T)
  have f1' : dX tb (d + 6) 113 0 [.ref 270, .int 0, .int (-1), .int 0, .int (Int32.ofNat (allM P)), .null, .null, .null, .null, .null] [] (c, t, hp g (SH fl tg) τ) = some (some (.int (encM v)), (c, t, hp g (SH fl tg) τ)) := f1
  have e1' : dX tb (d + 7) 114 44 [.ref 270, .int (Int32.ofNat (lfm (pLf P) (pM P))), .int (Int32.ofNat (lfm (pLf P) (pM P))), .null, .null, .null, .null, .null, .null, .null, .null] [] (c, t, hp g (SH fl tg) σ) = _ := e1
  have hT : TabI P A (allM P) R := fun set' a1 a2 _ s b a3 a4 => (T set' s b a1 a2 a3 a4).2.1
  have F2 : FrP τ (up2 (up2 τ 270 22 (encM v)) 270 21 0) := FrP_trans (FrP_up (by omega)) (FrP_up (by omega))
  have r22 : (up2 (up2 τ 270 22 (encM v)) 270 21 0) 270 22 = encM v := by rw [up2_n _ _ (by omega), up2_s]
  have base : dX tb (d + 6 + 1) 114 7 [.ref 270, .int (Int32.ofNat (lfm (pLf P) (pM P))), .int 0, .null, .null, .null, .null, .null, .null, .null, .null] [] (c, t, hp g (SH fl tg) σ) = (if encM v = -1 then some (some (.int 0), (c, t, hp g (SH fl tg) (up2 (up2 τ 270 22 (encM v)) 270 21 0))) else dX tb (d + 6 + 1) 114 171 [.ref 270, .int (Int32.ofNat (allM P)), .int 0, .int (-1), .int 0, .int (encM v), .null, .null, .null, .null, .null] [] (c, t, hp g (SH fl tg) (up2 (up2 τ 270 22 (encM v)) 270 21 0))) := by
    refine e0.trans (e1'.trans ?_)
    rw [sg_X7_plans_44]
    simp only [Option.bind_some, as_I, as_R, as_V, ct_t, ct_f, if_true, if_false, Bool.true_and, Bool.and_true, Bool.or_true, Bool.true_or, gi_270_0, gi_270_10, gi_270_11, gi_270_12, gi_270_13, gi_270_14, gi_270_15, gi_270_21, gi_270_22, gi_270_23, gi_270_34, gi_270_35, gi_270_36, pi_270_0, pi_270_10, pi_270_11, pi_270_12, pi_270_13, pi_270_14, pi_270_15, pi_270_21, pi_270_22, pi_270_23, pi_270_34, pi_270_35, pi_270_36, gr_270_1, gr_270_2, gr_270_3, gr_270_4, gr_270_5, gr_270_6, gr_270_7, gr_270_8, gr_270_9, gr_270_16, gr_270_17, gr_270_18, gr_270_19, gr_270_20, gr_270_24, gr_270_25, gr_270_26, gr_270_27, gr_270_28, gr_270_29, gr_270_30, gr_270_31, gr_270_32, gr_270_33, ld_271, ld_272, ld_273, ld_274, ld_275, ld_276, ld_277, ld_278, ld_279, ld_280, ld_281, ld_282, ld_283, ld_284, ld_285, ld_286, ld_287, ld_288, ld_289, ld_290, ld_291, ld_292, ld_293, ld_294, sv_271, sv_272, sv_273, sv_274, sv_275, sv_276, sv_277, sv_278, sv_279, sv_280, sv_281, sv_282, sv_283, sv_284, sv_285, sv_286, sv_287, sv_288, sv_289, sv_290, sv_291, sv_292, sv_293, sv_294, is_270, show ((-1 : Int32) < 0) = True from eq_true (by decide), f1', r22]
  rw [base]
  cases v with
  | none =>
    refine ⟨none, 0, fun _ => 0, fun _ => 0, _, (if_pos rfl).trans rfl, FrP_trans e2 F2, ⟨R, hT, f2, fun _ => rfl, fun z => absurd rfl z⟩, r22, up2_s _ _ _ _, by omega, fun j hj => absurd hj (Nat.not_lt_zero j), f3⟩
  | some w =>
    have hw := f3 w rfl
    obtain ⟨k, os, ob, τ', g1, g2, g3, g4, g5, g6, g7, g8⟩ := km_fW (tb := tb) (d := d) (c := c) (t := t) (g := g) (fl := fl) (tg := tg) (R := R) C W hA hall ha 256 0 (fun _ => 0) (fun _ => 0) (up2 (up2 τ 270 22 (encM (some w))) 270 21 0) w (-1) 0 .null .null .null .null .null (by show 256 ≤ 256 + 0; omega) (by show 0 < 256; omega) hz rfl (Or.inl ⟨rfl, rfl⟩) (FrP_trans e2 F2) (fun set' s b a1 a2 a3 a4 => by
      have := T set' s b a1 a2 a3 a4
      unfold EnT at this ⊢
      rw [up2_row _ _ (by decide), up2_row _ _ (by decide)]; exact this) (up2_s _ _ _ _) f2 (by show w ≤ 60000 * (256 - 0); omega) (fun j hj => absurd hj (Nat.not_lt_zero j)) (fun j hj => absurd hj (Nat.not_lt_zero j))
    refine ⟨some w, k, os, ob, τ', ?_, g2, ⟨R, hT, f2, fun z => absurd z (by simp), fun _ => ⟨g7, g8⟩⟩, by rw [g3]; exact r22, g5, g4, g6, f3⟩
    rw [if_neg (show ¬ encM (some w) = -1 by rw [show encM (some w) = Int32.ofNat w from rfl, n_m1 (by omega)]; exact id)]
    exact g1
end MPZ
