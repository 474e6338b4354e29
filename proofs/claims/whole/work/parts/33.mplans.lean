/-! THE REFERENCE'S PLAN, third part: its table, and the order that it follows -/
section MPS
/-- what plans changes: its table and its order -/
def FrP (σ τ : dSg) : Prop := (∀ a, a < 270 ∨ 285 ≤ a ∨ (271 ≤ a ∧ a < 280) → τ a = σ a) ∧ ∀ j, j ≠ 21 → j ≠ 22 → τ 270 j = σ 270 j
theorem FrP_refl (σ : dSg) : FrP σ σ := ⟨fun _ _ => rfl, fun _ _ _ => rfl⟩
theorem FrP_trans {σ τ υ : dSg} (h : FrP σ τ) (h2 : FrP τ υ) : FrP σ υ := ⟨fun a ha => (h2.1 a ha).trans (h.1 a ha), fun j h3 h4 => (h2.2 j h3 h4).trans (h.2 j h3 h4)⟩
theorem FrP_up {σ : dSg} {a j : Nat} {v : Int32} (h : (280 ≤ a ∧ a < 285) ∨ (a = 270 ∧ (j = 21 ∨ j = 22))) : FrP σ (up2 σ a j v) := ⟨fun b hb => up2_row σ v (by omega), fun k h1 h2 => up2_n σ v (by omega)⟩
theorem FrP_ShM {P : dP} {σ τ : dSg} (h : FrP σ τ) (C : ShM P σ) : ShM P τ := ShM_congr C (fun a h1 h2 => h.1 a (by omega)) (h.2 10 (by decide) (by decide))
theorem FrP_ArM {A : dA} {σ τ : dSg} (h : FrP σ τ) (C : ArM A σ) : ArM A τ := by
  refine ⟨?_, ?_, ?_, C.2.2.2⟩
  · rw [h.2 11 (by decide) (by decide)]; exact C.1
  · rw [h.2 12 (by decide) (by decide)]; exact C.2.1
  · rw [h.2 13 (by decide) (by decide)]; exact C.2.2.1
def EnT (P : dP) (A : dA) (all : Nat) (R : dTab) (σ : dSg) (set s b : Nat) : Prop := σ 280 (89 * set + (11 * s + b)) = encM (R set (11 * s + b)) ∧ IsB P A all R set (11 * s + b) (R set (11 * s + b)) ∧ bnd set (R set (11 * s + b))
def InvT (P : dP) (A : dA) (all : Nat) (R : dTab) (σ : dSg) (set lim : Nat) : Prop := ∀ set' s b, (set < set' ∨ (set' = set ∧ 11 * s + b < lim)) → set' < 256 → sub set' all → set'.testBit s = true → b < bgn P s → EnT P A all R σ set' s b
variable {tb : dT} {d c t : Nat} {g : Nat → Option dE} {fl : Nat → Bool} {tg : Nat} {σ : dSg} {P : dP} {A : dA} {all set f : Nat} {R : dTab}
theorem InvT_Tb (W : Wf P) {lim : Nat} (hS : set < 256) (hsub : sub set all) (h : InvT P A all R σ set lim) : TbM P all R σ set := fun s b hc hb => by
  have e := h (set ||| 2 ^ s) s b (Or.inl (or_gt hc.2.2.1)) (or_lt hS (Nat.lt_of_lt_of_le hc.1 W.1)) (cand_sub hc hsub) (cand_tb P set s) hb
  exact ⟨e.1, e.2.2⟩
theorem i_dec {a : Nat} (h : 0 < a) : Int32.ofNat a + Int32.ofInt (-1) = Int32.ofNat (a - 1) := by
  rw [← Int32.ofInt_eq_ofNat, ← Int32.ofInt_eq_ofNat, z_add, show (a : Int) + -1 = ((a - 1 : Nat) : Int) by omega]
theorem b_subI {a b : Nat} (ha : a < 256) (hb : b < 256) : (Int32.ofNat a &&& (Int32.ofNat b ^^^ (-1)) = 0) = sub a b := by
  have tbn : ∀ (n q : Nat), n < 256 → (Int32.ofNat n).toBitVec.getLsbD q = n.testBit q := by
    intro n q hn
    show (BitVec.ofNat 32 n).getLsbD q = _
    rw [BitVec.getLsbD_ofNat]
    by_cases hq : q < 32
    · rw [decide_eq_true hq]; rfl
    · rw [decide_eq_false hq, Nat.testBit_lt_two_pow (Nat.lt_of_lt_of_le hn (Nat.le_trans (by decide : 256 ≤ 2 ^ 8) (Nat.pow_le_pow_right (by decide) (by omega))))]; rfl
  have m1 : ∀ q, (-1 : Int32).toBitVec.getLsbD q = decide (q < 32) := by
    intro q
    show (BitVec.allOnes 32).getLsbD q = _
    rw [BitVec.getLsbD_allOnes]
  have key : ∀ q, (Int32.ofNat a &&& (Int32.ofNat b ^^^ (-1))).toBitVec.getLsbD q = (a.testBit q && (b.testBit q ^^ decide (q < 32))) := by
    intro q
    rw [Int32.toBitVec_and, Int32.toBitVec_xor, BitVec.getLsbD_and, BitVec.getLsbD_xor, tbn a q ha, tbn b q hb, m1 q]
  rw [eq_iff_iff]
  constructor
  · intro h q hq
    have k := key q
    rw [h, show (0 : Int32).toBitVec.getLsbD q = false from BitVec.getLsbD_zero, hq, Bool.true_and] at k
    by_cases h32 : q < 32
    · rw [decide_eq_true h32] at k
      cases hb : b.testBit q
      · rw [hb] at k; exact absurd k (by decide)
      · rfl
    · rw [Nat.testBit_lt_two_pow (Nat.lt_of_lt_of_le ha (Nat.le_trans (by decide : 256 ≤ 2 ^ 8) (Nat.pow_le_pow_right (by decide) (by omega))))] at hq
      exact absurd hq (by decide)
  · intro h
    refine Int32.toBitVec_inj.mp (BitVec.eq_of_getLsbD_eq fun q hq => ?_)
    rw [key q, show (0 : Int32).toBitVec.getLsbD q = false from BitVec.getLsbD_zero, decide_eq_true hq]
    cases ha2 : a.testBit q
    · rfl
    · rw [h q ha2]; rfl
theorem frm_slot (W : Wf P) {s b : Nat} (hs : s < pM P) (hb : b < bgn P s) (h2 : 2 ≤ pN P s) : frm P (11 * s + b) (Int32.ofNat s) (Int32.ofNat b) := by
  have h11 := bgn_11 W hs
  have hm := W.1
  have e1 : (11 * s + b) / 11 = s := by omega
  have e2 : (11 * s + b) % 11 = b := by omega
  refine Or.inr ⟨by omega, ?_⟩
  rw [e1, e2]
  exact ⟨rfl, rfl, hs, hb, h2⟩
theorem km_pl81 (C0 : ShM P σ) (W : Wf P) (hA0 : ArM A σ) (hall : ∀ s, all.testBit s = true → s < pM P ∧ 2 ≤ pN P s) (ha : all < 256) (hS : set < 256) (hsub : sub set all) {s : Nat} (hst : set.testBit s = true) {l5 l6 l7 l8 l9 l10 : Value} : ∀ q b (τ : dSg) (R : dTab), b + q = bgn P s → FrP σ τ → InvT P A all R τ set (11 * s + b) → ∃ τ' R', dX tb (d + 7) 114 81 [.ref 270, .int (Int32.ofNat all), .int (Int32.ofNat set), .int (Int32.ofNat s), .int (Int32.ofNat b), l5, l6, l7, l8, l9, l10] [] (c, t, hp g (SH fl tg) τ) = dX tb (d + 7) 114 61 [.ref 270, .int (Int32.ofNat all), .int (Int32.ofNat set), .int (Int32.ofNat (s + 1)), .int (Int32.ofNat (bgn P s)), l5, l6, l7, l8, l9, l10] [] (c, t, hp g (SH fl tg) (τ')) ∧ FrP σ τ' ∧ InvT P A all R' τ' set (11 * (s + 1)) := by
  have hm := W.1
  obtain ⟨hs, h2⟩ := hall s (hsub s hst)
  have h11 := bgn_11 W hs
  intro q
  induction q with
  | zero =>
    intro b τ R hb hF hI
    have C := FrP_ShM hF C0
    have h1 : bgn P s ≤ b := by omega
    refine ⟨τ, R, ?_, hF, fun set' s' b' a1 a2 a3 a4 a5 => hI set' s' b' ?_ a2 a3 a4 a5⟩
    · rw [sg_X7_plans_81]
      simp (disch := omega) only [Option.bind_some, as_I, as_R, as_V, ct_t, ct_f, if_true, if_false, Bool.true_and, Bool.and_true, Bool.or_true, Bool.true_or, gi_270_0, gi_270_10, gi_270_11, gi_270_12, gi_270_13, gi_270_14, gi_270_15, gi_270_21, gi_270_22, gi_270_23, gi_270_34, gi_270_35, gi_270_36, pi_270_0, pi_270_10, pi_270_11, pi_270_12, pi_270_13, pi_270_14, pi_270_15, pi_270_21, pi_270_22, pi_270_23, pi_270_34, pi_270_35, pi_270_36, gr_270_1, gr_270_2, gr_270_3, gr_270_4, gr_270_5, gr_270_6, gr_270_7, gr_270_8, gr_270_9, gr_270_16, gr_270_17, gr_270_18, gr_270_19, gr_270_20, gr_270_24, gr_270_25, gr_270_26, gr_270_27, gr_270_28, gr_270_29, gr_270_30, gr_270_31, gr_270_32, gr_270_33, ld_271, ld_272, ld_273, ld_274, ld_275, ld_276, ld_277, ld_278, ld_279, ld_280, ld_281, ld_282, ld_283, ld_284, ld_285, ld_286, ld_287, ld_288, ld_289, ld_290, ld_291, ld_292, ld_293, ld_294, sv_271, sv_272, sv_273, sv_274, sv_275, sv_276, sv_277, sv_278, sv_279, sv_280, sv_281, sv_282, sv_283, sv_284, sv_285, sv_286, sv_287, sv_288, sv_289, sv_290, sv_291, sv_292, sv_293, sv_294, is_270, ia_0, ia_1, is_m0, is_m1, im_8, ml_8, im_11, ml_11, im_12, ml_12, im_88, ml_88, im_89, ml_89, j_lt_0, j_gt_0, j_le_0, j_ge_0, j_eq_0, j_lt_1, j_gt_1, j_le_1, j_ge_1, j_eq_1, j_lt_2, j_gt_2, j_le_2, j_ge_2, j_eq_2, j_lt_3, j_gt_3, j_le_3, j_ge_3, j_eq_3, j_lt_4, j_gt_4, j_le_4, j_ge_4, j_eq_4, j_lt_5, j_gt_5, j_le_5, j_ge_5, j_eq_5, j_lt_6, j_gt_6, j_le_6, j_ge_6, j_eq_6, j_lt_8, j_gt_8, j_le_8, j_ge_8, j_eq_8, j_lt_12, j_gt_12, j_le_12, j_ge_12, j_eq_12, j_lt_209, j_gt_209, j_le_209, j_ge_209, j_eq_209, j_lt_255, j_gt_255, j_le_255, j_ge_255, j_eq_255, j_lt_1000000000, j_gt_1000000000, j_le_1000000000, j_ge_1000000000, j_eq_1000000000, km_begs C W hs, i_le, h1]
      rw [show b = bgn P s by omega]
    · rcases a1 with a1 | ⟨rfl, a1⟩
      · exact Or.inl a1
      · have := bgn_11 W (hall s' (a3 s' a4)).1
        refine Or.inr ⟨rfl, ?_⟩
        by_cases e : s' = s
        · subst e; omega
        · omega
  | succ q ih =>
    intro b τ R hb hF hI
    have C := FrP_ShM hF C0
    have hA := FrP_ArM hF hA0
    have h1 : ¬ bgn P s ≤ b := by omega
    have hb1 : b < bgn P s := by omega
    obtain ⟨v, e1, e2, e3⟩ := km_least (tb := tb) (d := d) (c := c) (t := t) (g := g) (fl := fl) (tg := tg) C W hA hall ha hS (frm_slot W hs hb1 h2) (InvT_Tb W hS hsub hI)
    rw [sg_X7_plans_81]
    simp (disch := omega) only [Option.bind_some, as_I, as_R, as_V, ct_t, ct_f, if_true, if_false, Bool.true_and, Bool.and_true, Bool.or_true, Bool.true_or, gi_270_0, gi_270_10, gi_270_11, gi_270_12, gi_270_13, gi_270_14, gi_270_15, gi_270_21, gi_270_22, gi_270_23, gi_270_34, gi_270_35, gi_270_36, pi_270_0, pi_270_10, pi_270_11, pi_270_12, pi_270_13, pi_270_14, pi_270_15, pi_270_21, pi_270_22, pi_270_23, pi_270_34, pi_270_35, pi_270_36, gr_270_1, gr_270_2, gr_270_3, gr_270_4, gr_270_5, gr_270_6, gr_270_7, gr_270_8, gr_270_9, gr_270_16, gr_270_17, gr_270_18, gr_270_19, gr_270_20, gr_270_24, gr_270_25, gr_270_26, gr_270_27, gr_270_28, gr_270_29, gr_270_30, gr_270_31, gr_270_32, gr_270_33, ld_271, ld_272, ld_273, ld_274, ld_275, ld_276, ld_277, ld_278, ld_279, ld_280, ld_281, ld_282, ld_283, ld_284, ld_285, ld_286, ld_287, ld_288, ld_289, ld_290, ld_291, ld_292, ld_293, ld_294, sv_271, sv_272, sv_273, sv_274, sv_275, sv_276, sv_277, sv_278, sv_279, sv_280, sv_281, sv_282, sv_283, sv_284, sv_285, sv_286, sv_287, sv_288, sv_289, sv_290, sv_291, sv_292, sv_293, sv_294, is_270, ia_0, ia_1, is_m0, is_m1, im_8, ml_8, im_11, ml_11, im_12, ml_12, im_88, ml_88, im_89, ml_89, j_lt_0, j_gt_0, j_le_0, j_ge_0, j_eq_0, j_lt_1, j_gt_1, j_le_1, j_ge_1, j_eq_1, j_lt_2, j_gt_2, j_le_2, j_ge_2, j_eq_2, j_lt_3, j_gt_3, j_le_3, j_ge_3, j_eq_3, j_lt_4, j_gt_4, j_le_4, j_ge_4, j_eq_4, j_lt_5, j_gt_5, j_le_5, j_ge_5, j_eq_5, j_lt_6, j_gt_6, j_le_6, j_ge_6, j_eq_6, j_lt_8, j_gt_8, j_le_8, j_ge_8, j_eq_8, j_lt_12, j_gt_12, j_le_12, j_ge_12, j_eq_12, j_lt_209, j_gt_209, j_le_209, j_ge_209, j_eq_209, j_lt_255, j_gt_255, j_le_255, j_ge_255, j_eq_255, j_lt_1000000000, j_gt_1000000000, j_le_1000000000, j_ge_1000000000, j_eq_1000000000, km_begs C W hs, i_le, h1, sg_X7_place_0, n_m1, i_add, i_mul, e1]
    have hI' : InvT P A all (fun x y => if x = set ∧ y = 11 * s + b then v else R x y) (up2 τ 280 (89 * set + (11 * s + b)) (encM v)) set (11 * s + (b + 1)) := by
      intro set' s' b' a1 a2 a3 a4 a5
      have hs'8 := (hall s' (a3 s' a4)).1
      have hb'11 := bgn_11 W hs'8
      have cong : ∀ x y, x < 256 → set < x → (if x = set ∧ y = 11 * s + b then v else R x y) = R x y := fun x y _ hx => if_neg (by omega)
      by_cases e : set' = set ∧ 11 * s' + b' = 11 * s + b
      · obtain ⟨rfl, e⟩ := e
        have ev : (if set' = set' ∧ 11 * s' + b' = 11 * s + b then v else R set' (11 * s' + b')) = v := if_pos ⟨rfl, e⟩
        refine ⟨?_, ?_, ?_⟩
        · rw [e, up2_s]; exact congrArg encM (if_pos ⟨rfl, rfl⟩).symm
        · show IsB P A all _ set' (11 * s' + b') (if set' = set' ∧ 11 * s' + b' = 11 * s + b then v else R set' (11 * s' + b'))
          rw [ev, e]
          exact IsB_congr e2 fun s2 b2 hc _ => (cong _ _ (or_lt hS (Nat.lt_of_lt_of_le hc.1 W.1)) (or_gt hc.2.2.1)).symm
        · show bnd set' (if set' = set' ∧ 11 * s' + b' = 11 * s + b then v else R set' (11 * s' + b'))
          rw [ev]; exact e3
      · have ev : (if set' = set ∧ 11 * s' + b' = 11 * s + b then v else R set' (11 * s' + b')) = R set' (11 * s' + b') := if_neg e
        have old := hI set' s' b' (by rcases a1 with a1 | ⟨a1, a6⟩; exact Or.inl a1; exact Or.inr ⟨a1, by omega⟩) a2 a3 a4 a5
        refine ⟨?_, ?_, ?_⟩
        · rw [up2_n _ _ (by omega)]
          show _ = encM (if set' = set ∧ 11 * s' + b' = 11 * s + b then v else R set' (11 * s' + b'))
          rw [ev]; exact old.1
        · show IsB P A all _ set' (11 * s' + b') (if set' = set ∧ 11 * s' + b' = 11 * s + b then v else R set' (11 * s' + b'))
          rw [ev]
          exact IsB_congr old.2.1 fun s2 b2 hc _ => (cong _ _ (or_lt a2 (Nat.lt_of_lt_of_le hc.1 W.1)) (by have := or_gt hc.2.2.1; omega)).symm
        · show bnd set' (if set' = set ∧ 11 * s' + b' = 11 * s + b then v else R set' (11 * s' + b'))
          rw [ev]; exact old.2.2
    exact ih (b + 1) _ _ (by omega) (FrP_trans hF (FrP_up (by omega))) hI'
theorem km_pl61 (C0 : ShM P σ) (W : Wf P) (hA0 : ArM A σ) (hall : ∀ s, all.testBit s = true → s < pM P ∧ 2 ≤ pN P s) (ha : all < 256) (hS : set < 256) (hsub : sub set all) {l5 l6 l7 l8 l9 l10 : Value} : ∀ q s (τ : dSg) (R : dTab) (l4 : Value), s + q = pM P → FrP σ τ → InvT P A all R τ set (11 * s) → ∃ τ' R' l3' l4', dX tb (d + 7) 114 61 [.ref 270, .int (Int32.ofNat all), .int (Int32.ofNat set), .int (Int32.ofNat s), l4, l5, l6, l7, l8, l9, l10] [] (c, t, hp g (SH fl tg) τ) = dX tb (d + 7) 114 44 [.ref 270, .int (Int32.ofNat all), .int (Int32.ofNat set + Int32.ofInt (-1)), l3', l4', l5, l6, l7, l8, l9, l10] [] (c, t, hp g (SH fl tg) (τ')) ∧ FrP σ τ' ∧ InvT P A all R' τ' set (11 * pM P) := by
  have hm := W.1
  intro q
  induction q with
  | zero =>
    intro s τ R l4 h hF hI
    have C := FrP_ShM hF C0
    have h1 : pM P ≤ s := by omega
    refine ⟨τ, R, .int (Int32.ofNat s), l4, ?_, hF, by rw [show pM P = s by omega]; exact hI⟩
    rw [sg_X7_plans_61]
    simp (disch := omega) only [Option.bind_some, as_I, as_R, as_V, ct_t, ct_f, if_true, if_false, Bool.true_and, Bool.and_true, Bool.or_true, Bool.true_or, gi_270_0, gi_270_10, gi_270_11, gi_270_12, gi_270_13, gi_270_14, gi_270_15, gi_270_21, gi_270_22, gi_270_23, gi_270_34, gi_270_35, gi_270_36, pi_270_0, pi_270_10, pi_270_11, pi_270_12, pi_270_13, pi_270_14, pi_270_15, pi_270_21, pi_270_22, pi_270_23, pi_270_34, pi_270_35, pi_270_36, gr_270_1, gr_270_2, gr_270_3, gr_270_4, gr_270_5, gr_270_6, gr_270_7, gr_270_8, gr_270_9, gr_270_16, gr_270_17, gr_270_18, gr_270_19, gr_270_20, gr_270_24, gr_270_25, gr_270_26, gr_270_27, gr_270_28, gr_270_29, gr_270_30, gr_270_31, gr_270_32, gr_270_33, ld_271, ld_272, ld_273, ld_274, ld_275, ld_276, ld_277, ld_278, ld_279, ld_280, ld_281, ld_282, ld_283, ld_284, ld_285, ld_286, ld_287, ld_288, ld_289, ld_290, ld_291, ld_292, ld_293, ld_294, sv_271, sv_272, sv_273, sv_274, sv_275, sv_276, sv_277, sv_278, sv_279, sv_280, sv_281, sv_282, sv_283, sv_284, sv_285, sv_286, sv_287, sv_288, sv_289, sv_290, sv_291, sv_292, sv_293, sv_294, is_270, ia_0, ia_1, is_m0, is_m1, im_8, ml_8, im_11, ml_11, im_12, ml_12, im_88, ml_88, im_89, ml_89, j_lt_0, j_gt_0, j_le_0, j_ge_0, j_eq_0, j_lt_1, j_gt_1, j_le_1, j_ge_1, j_eq_1, j_lt_2, j_gt_2, j_le_2, j_ge_2, j_eq_2, j_lt_3, j_gt_3, j_le_3, j_ge_3, j_eq_3, j_lt_4, j_gt_4, j_le_4, j_ge_4, j_eq_4, j_lt_5, j_gt_5, j_le_5, j_ge_5, j_eq_5, j_lt_6, j_gt_6, j_le_6, j_ge_6, j_eq_6, j_lt_8, j_gt_8, j_le_8, j_ge_8, j_eq_8, j_lt_12, j_gt_12, j_le_12, j_ge_12, j_eq_12, j_lt_209, j_gt_209, j_le_209, j_ge_209, j_eq_209, j_lt_255, j_gt_255, j_le_255, j_ge_255, j_eq_255, j_lt_1000000000, j_gt_1000000000, j_le_1000000000, j_ge_1000000000, j_eq_1000000000, C.1, i_le, h1]
  | succ q ih =>
    intro s τ R l4 h hF hI
    have C := FrP_ShM hF C0
    have h1 : ¬ pM P ≤ s := by omega
    rw [sg_X7_plans_61]
    simp (disch := omega) only [Option.bind_some, as_I, as_R, as_V, ct_t, ct_f, if_true, if_false, Bool.true_and, Bool.and_true, Bool.or_true, Bool.true_or, gi_270_0, gi_270_10, gi_270_11, gi_270_12, gi_270_13, gi_270_14, gi_270_15, gi_270_21, gi_270_22, gi_270_23, gi_270_34, gi_270_35, gi_270_36, pi_270_0, pi_270_10, pi_270_11, pi_270_12, pi_270_13, pi_270_14, pi_270_15, pi_270_21, pi_270_22, pi_270_23, pi_270_34, pi_270_35, pi_270_36, gr_270_1, gr_270_2, gr_270_3, gr_270_4, gr_270_5, gr_270_6, gr_270_7, gr_270_8, gr_270_9, gr_270_16, gr_270_17, gr_270_18, gr_270_19, gr_270_20, gr_270_24, gr_270_25, gr_270_26, gr_270_27, gr_270_28, gr_270_29, gr_270_30, gr_270_31, gr_270_32, gr_270_33, ld_271, ld_272, ld_273, ld_274, ld_275, ld_276, ld_277, ld_278, ld_279, ld_280, ld_281, ld_282, ld_283, ld_284, ld_285, ld_286, ld_287, ld_288, ld_289, ld_290, ld_291, ld_292, ld_293, ld_294, sv_271, sv_272, sv_273, sv_274, sv_275, sv_276, sv_277, sv_278, sv_279, sv_280, sv_281, sv_282, sv_283, sv_284, sv_285, sv_286, sv_287, sv_288, sv_289, sv_290, sv_291, sv_292, sv_293, sv_294, is_270, ia_0, ia_1, is_m0, is_m1, im_8, ml_8, im_11, ml_11, im_12, ml_12, im_88, ml_88, im_89, ml_89, j_lt_0, j_gt_0, j_le_0, j_ge_0, j_eq_0, j_lt_1, j_gt_1, j_le_1, j_ge_1, j_eq_1, j_lt_2, j_gt_2, j_le_2, j_ge_2, j_eq_2, j_lt_3, j_gt_3, j_le_3, j_ge_3, j_eq_3, j_lt_4, j_gt_4, j_le_4, j_ge_4, j_eq_4, j_lt_5, j_gt_5, j_le_5, j_ge_5, j_eq_5, j_lt_6, j_gt_6, j_le_6, j_ge_6, j_eq_6, j_lt_8, j_gt_8, j_le_8, j_ge_8, j_eq_8, j_lt_12, j_gt_12, j_le_12, j_ge_12, j_eq_12, j_lt_209, j_gt_209, j_le_209, j_ge_209, j_eq_209, j_lt_255, j_gt_255, j_le_255, j_ge_255, j_eq_255, j_lt_1000000000, j_gt_1000000000, j_le_1000000000, j_ge_1000000000, j_eq_1000000000, C.1, i_le, h1, b_tst, bI_1]
    cases hq : set.testBit s
    · rw [if_neg (by decide)]
      refine ih (s + 1) τ R l4 (by omega) hF fun set' s' b' a1 a2 a3 a4 a5 => hI set' s' b' ?_ a2 a3 a4 a5
      rcases a1 with a1 | ⟨rfl, a1⟩
      · exact Or.inl a1
      · have := bgn_11 W (hall s' (a3 s' a4)).1
        refine Or.inr ⟨rfl, ?_⟩
        by_cases e : s' = s
        · subst e; rw [hq] at a4; exact absurd a4 (by decide)
        · omega
    · rw [if_pos rfl]
      obtain ⟨τ', R', e1, e2, e3⟩ := km_pl81 (tb := tb) (d := d) (c := c) (t := t) (g := g) (fl := fl) (tg := tg) C0 W hA0 hall ha hS hsub hq (l5 := l5) (l6 := l6) (l7 := l7) (l8 := l8) (l9 := l9) (l10 := l10) (bgn P s) 0 τ R (by omega) hF hI
      obtain ⟨τ2, R2, l3', l4', f1, f2⟩ := ih (s + 1) τ' R' (.int (Int32.ofNat (bgn P s))) (by omega) e2 e3
      exact ⟨τ2, R2, l3', l4', e1.trans f1, f2⟩
theorem km_pl44 (C0 : ShM P σ) (W : Wf P) (hA0 : ArM A σ) (hall : ∀ s, all.testBit s = true → s < pM P ∧ 2 ≤ pN P s) (ha : all < 256) {l5 l6 l7 l8 l9 l10 : Value} : ∀ set (τ : dSg) (R : dTab) (l3 l4 : Value), set < 256 → FrP σ τ → InvT P A all R τ set 0 → ∃ τ' R' l3' l4', dX tb (d + 7) 114 44 [.ref 270, .int (Int32.ofNat all), .int (Int32.ofNat set), l3, l4, l5, l6, l7, l8, l9, l10] [] (c, t, hp g (SH fl tg) τ) = dX tb (d + 7) 114 44 [.ref 270, .int (Int32.ofNat all), .int (-1), l3', l4', l5, l6, l7, l8, l9, l10] [] (c, t, hp g (SH fl tg) (τ')) ∧ FrP σ τ' ∧ InvT P A all R' τ' 0 88 := by
  have hm := W.1
  intro set
  induction set with
  | zero =>
    intro τ R l3 l4 hS hF hI
    have hz : sub 0 all := fun s hs => by rw [Nat.zero_testBit] at hs; exact absurd hs (by decide)
    rw [sg_X7_plans_44]
    simp (disch := omega) only [ia_0, ia_1, is_m0, is_m1, im_8, ml_8, im_11, ml_11, im_12, ml_12, im_88, ml_88, im_89, ml_89, j_lt_0, j_gt_0, j_le_0, j_ge_0, j_eq_0, j_lt_1, j_gt_1, j_le_1, j_ge_1, j_eq_1, j_lt_2, j_gt_2, j_le_2, j_ge_2, j_eq_2, j_lt_3, j_gt_3, j_le_3, j_ge_3, j_eq_3, j_lt_4, j_gt_4, j_le_4, j_ge_4, j_eq_4, j_lt_5, j_gt_5, j_le_5, j_ge_5, j_eq_5, j_lt_6, j_gt_6, j_le_6, j_ge_6, j_eq_6, j_lt_8, j_gt_8, j_le_8, j_ge_8, j_eq_8, j_lt_12, j_gt_12, j_le_12, j_ge_12, j_eq_12, j_lt_209, j_gt_209, j_le_209, j_ge_209, j_eq_209, j_lt_255, j_gt_255, j_le_255, j_ge_255, j_eq_255, j_lt_1000000000, j_gt_1000000000, j_le_1000000000, j_ge_1000000000, j_eq_1000000000, b_subI, Nat.lt_irrefl, if_false, hz, if_true]
    obtain ⟨τ', R', l3', l4', e1, e2, e3⟩ := km_pl61 (tb := tb) (d := d) (c := c) (t := t) (g := g) (fl := fl) (tg := tg) C0 W hA0 hall ha hS hz (l5 := l5) (l6 := l6) (l7 := l7) (l8 := l8) (l9 := l9) (l10 := l10) (pM P) 0 τ R l4 (by omega) hF hI
    refine ⟨τ', R', l3', l4', e1, e2, fun set' s' b' a1 a2 a3 a4 a5 => e3 set' s' b' ?_ a2 a3 a4 a5⟩
    rcases a1 with a1 | ⟨rfl, a1⟩
    · exact Or.inl a1
    · rw [Nat.zero_testBit] at a4; exact absurd a4 (by decide)
  | succ set ih =>
    intro τ R l3 l4 hS hF hI
    have hn0 : ¬ set + 1 < 0 := by omega
    rw [sg_X7_plans_44]
    simp (disch := omega) only [ia_0, ia_1, is_m0, is_m1, im_8, ml_8, im_11, ml_11, im_12, ml_12, im_88, ml_88, im_89, ml_89, j_lt_0, j_gt_0, j_le_0, j_ge_0, j_eq_0, j_lt_1, j_gt_1, j_le_1, j_ge_1, j_eq_1, j_lt_2, j_gt_2, j_le_2, j_ge_2, j_eq_2, j_lt_3, j_gt_3, j_le_3, j_ge_3, j_eq_3, j_lt_4, j_gt_4, j_le_4, j_ge_4, j_eq_4, j_lt_5, j_gt_5, j_le_5, j_ge_5, j_eq_5, j_lt_6, j_gt_6, j_le_6, j_ge_6, j_eq_6, j_lt_8, j_gt_8, j_le_8, j_ge_8, j_eq_8, j_lt_12, j_gt_12, j_le_12, j_ge_12, j_eq_12, j_lt_209, j_gt_209, j_le_209, j_ge_209, j_eq_209, j_lt_255, j_gt_255, j_le_255, j_ge_255, j_eq_255, j_lt_1000000000, j_gt_1000000000, j_le_1000000000, j_ge_1000000000, j_eq_1000000000, hn0, if_false]
    by_cases hz : sub (set + 1) all
    · rw [if_pos (show Int32.ofNat (set + 1) &&& (Int32.ofNat all ^^^ (-1)) = 0 by rw [b_subI hS ha]; exact hz)]
      obtain ⟨τ', R', l3', l4', e1, e2, e3⟩ := km_pl61 (tb := tb) (d := d) (c := c) (t := t) (g := g) (fl := fl) (tg := tg) C0 W hA0 hall ha hS hz (l5 := l5) (l6 := l6) (l7 := l7) (l8 := l8) (l9 := l9) (l10 := l10) (pM P) 0 τ R l4 (by omega) hF hI
      rw [i_dec (by omega), Nat.add_sub_cancel] at e1
      obtain ⟨τ2, R2, l32, l42, f1, f2⟩ := ih τ' R' l3' l4' (by omega) e2 (fun set' s' b' a1 a2 a3 a4 a5 => e3 set' s' b' (by
        have h1 := (hall s' (a3 s' a4)).1
        have := bgn_11 W h1
        rcases a1 with a1 | ⟨-, a1⟩
        · by_cases e : set' = set + 1
          · exact Or.inr ⟨e, by omega⟩
          · exact Or.inl (by omega)
        · omega) a2 a3 a4 a5)
      exact ⟨τ2, R2, l32, l42, e1.trans f1, f2⟩
    · rw [if_neg (show ¬ Int32.ofNat (set + 1) &&& (Int32.ofNat all ^^^ (-1)) = 0 by rw [b_subI hS ha]; exact hz), i_dec (by omega), Nat.add_sub_cancel]
      refine ih τ R l3 l4 (by omega) hF fun set' s' b' a1 a2 a3 a4 a5 => hI set' s' b' ?_ a2 a3 a4 a5
      rcases a1 with a1 | ⟨-, a1⟩
      · by_cases e : set' = set + 1
        · subst e; exact absurd a3 hz
        · exact Or.inl (by omega)
      · omega
end MPS
