/-! THE REFERENCE'S PLAN, fourth part: the order, and the whole of plans -/
section MFL
def pc8 (a : Nat) : Nat := a % 2 + a / 2 % 2 + a / 4 % 2 + a / 8 % 2 + a / 16 % 2 + a / 32 % 2 + a / 64 % 2 + a / 128 % 2
theorem pc8_or0 : ∀ a : Fin 256, ∀ s : Fin 8, a.val.testBit s.val = false → pc8 (a.val ||| 2 ^ s.val) = pc8 a.val + 1 := by decide +kernel
theorem pc8_or {a s : Nat} (ha : a < 256) (hs : s < 8) (h : a.testBit s = false) : pc8 (a ||| 2 ^ s) = pc8 a + 1 := pc8_or0 ⟨a, ha⟩ ⟨s, hs⟩ h
theorem pc8_le (a : Nat) : pc8 a ≤ 8 := by unfold pc8; omega
theorem pS_congr {os os' : Nat → Nat} {i : Nat} (h : ∀ j, j < i → os j = os' j) : pS os i = pS os' i := by
  induction i with
  | zero => rfl
  | succ i ih =>
    show pS os i ||| 2 ^ os i = pS os' i ||| 2 ^ os' i
    rw [ih fun j hj => h j (by omega), h i (by omega)]
theorem pF_congr {os os' ob ob' : Nat → Nat} {i : Nat} (h : ∀ j, j < i → os j = os' j ∧ ob j = ob' j) : pF os ob i = pF os' ob' i := by
  cases i with
  | zero => rfl
  | succ i =>
    show 11 * os i + ob i = 11 * os' i + ob' i
    rw [(h i (by omega)).1, (h i (by omega)).2]
def OrM (P : dP) (A : dA) (os ob : Nat → Nat) (i : Nat) (σ : dSg) : Prop := ∀ j, j < i → σ 281 j = Int32.ofNat (os j) ∧ σ 282 j = Int32.ofNat (ob j) ∧ σ 283 j = Int32.ofNat (tkN P (os j) (ob j)) ∧ σ 284 j = Int32.ofNat (tbF P A (pF os ob j) (os j) (ob j))
def NoF (P : dP) (A : dA) (all : Nat) (R : dTab) (set f w lim : Nat) : Prop := ∀ s b r, cand P all set s → b < bgn P s → 11 * s + b < lim → R (set ||| 2 ^ s) (11 * s + b) = some r → tbF P A f s b + tkN P s b + r ≠ w
def InvA (P : dP) (A : dA) (all : Nat) (R : dTab) (σ : dSg) : Prop := ∀ set' s b, set' < 256 → sub set' all → set'.testBit s = true → b < bgn P s → EnT P A all R σ set' s b
variable {tb : dT} {d c t : Nat} {g : Nat → Option dE} {fl : Nat → Bool} {tg : Nat} {σ : dSg} {P : dP} {A : dA} {all set f : Nat} {R : dTab}
theorem InvA_Tb (W : Wf P) (hS : set < 256) (hsub : sub set all) (h : InvA P A all R σ) : TbM P all R σ set := fun s b hc hb => by
  have e := h (set ||| 2 ^ s) s b (or_lt hS (Nat.lt_of_lt_of_le hc.1 W.1)) (cand_sub hc hsub) (cand_tb P set s) hb
  exact ⟨e.1, e.2.2⟩
/-- the state after a stroke is found -/
def fnd (σ : dSg) (i s b tk to : Nat) : dSg := up2 (up2 (up2 (up2 (up2 σ 281 i (Int32.ofNat s)) 282 i (Int32.ofNat b)) 283 i (Int32.ofNat tk)) 284 i (Int32.ofNat to)) 270 21 (Int32.ofNat (i + 1))
theorem km_f182 (C : ShM P σ) (W : Wf P) {l1 l2 l3 l4 l5 : Int32} {l8 l9 l10 : Value} {s : Nat} : dX tb (d + 7) 114 182 [.ref 270, .int l1, .int l2, .int l3, .int l4, .int l5, .int 1, .int (Int32.ofNat s), l8, l9, l10] [] (c, t, hp g (SH fl tg) σ) = dX tb (d + 7) 114 171 [.ref 270, .int l1, .int l2, .int l3, .int l4, .int l5, .int 1, .int (Int32.ofNat s), l8, l9, l10] [] (c, t, hp g (SH fl tg) σ) := by
  rw [sg_X7_plans_182]
  simp only [Option.bind_some, as_I, as_R, as_V, ct_t, ct_f, if_true, if_false, Bool.true_and, Bool.and_true, Bool.or_true, Bool.true_or, gi_270_0, gi_270_10, gi_270_11, gi_270_12, gi_270_13, gi_270_14, gi_270_15, gi_270_21, gi_270_22, gi_270_23, gi_270_34, gi_270_35, gi_270_36, pi_270_0, pi_270_10, pi_270_11, pi_270_12, pi_270_13, pi_270_14, pi_270_15, pi_270_21, pi_270_22, pi_270_23, pi_270_34, pi_270_35, pi_270_36, gr_270_1, gr_270_2, gr_270_3, gr_270_4, gr_270_5, gr_270_6, gr_270_7, gr_270_8, gr_270_9, gr_270_16, gr_270_17, gr_270_18, gr_270_19, gr_270_20, gr_270_24, gr_270_25, gr_270_26, gr_270_27, gr_270_28, gr_270_29, gr_270_30, gr_270_31, gr_270_32, gr_270_33, ld_271, ld_272, ld_273, ld_274, ld_275, ld_276, ld_277, ld_278, ld_279, ld_280, ld_281, ld_282, ld_283, ld_284, ld_285, ld_286, ld_287, ld_288, ld_289, ld_290, ld_291, ld_292, ld_293, ld_294, sv_271, sv_272, sv_273, sv_274, sv_275, sv_276, sv_277, sv_278, sv_279, sv_280, sv_281, sv_282, sv_283, sv_284, sv_285, sv_286, sv_287, sv_288, sv_289, sv_290, sv_291, sv_292, sv_293, sv_294, is_270, show ((1 : Int32) = 0) = False from eq_false (by decide)]
  split <;> rfl
theorem km_f213 (C0 : ShM P σ) (W : Wf P) (hA0 : ArM A σ) (hall : ∀ s, all.testBit s = true → s < pM P ∧ 2 ≤ pN P s) (hS : set < 256) (hsub : sub set all) {fr fb : Int32} (hf : frm P f fr fb) (T : InvA P A all R σ) {i w : Nat} (hi : i < 8) (hI : σ 270 21 = Int32.ofNat i) (hw : w ≤ 60000 * (256 - set)) {s : Nat} (hc : cand P all set s) {l6 : Value} : ∀ q b (l9 l10 : Value), b + q = bgn P s → NoF P A all R set f w (11 * s + b) →
    (∃ l9' l10', dX tb (d + 7) 114 213 [.ref 270, .int (Int32.ofNat all), .int (Int32.ofNat set), .int fr, .int fb, .int (Int32.ofNat w), .int 0, .int (Int32.ofNat s), .int (Int32.ofNat b), l9, l10] [] (c, t, hp g (SH fl tg) σ) = dX tb (d + 7) 114 182 [.ref 270, .int (Int32.ofNat all), .int (Int32.ofNat set), .int fr, .int fb, .int (Int32.ofNat w), .int 0, .int (Int32.ofNat (s + 1)), .int (Int32.ofNat (bgn P s)), l9', l10'] [] (c, t, hp g (SH fl tg) σ) ∧ NoF P A all R set f w (11 * (s + 1))) ∨
    (∃ b0 r l7' l8' l9' l10', b0 < bgn P s ∧ R (set ||| 2 ^ s) (11 * s + b0) = some r ∧ w = tbF P A f s b0 + tkN P s b0 + r ∧ NoF P A all R set f w (11 * s + b0) ∧ dX tb (d + 7) 114 213 [.ref 270, .int (Int32.ofNat all), .int (Int32.ofNat set), .int fr, .int fb, .int (Int32.ofNat w), .int 0, .int (Int32.ofNat s), .int (Int32.ofNat b), l9, l10] [] (c, t, hp g (SH fl tg) σ) = dX tb (d + 7) 114 171 [.ref 270, .int (Int32.ofNat all), .int (Int32.ofNat (set ||| 2 ^ s)), .int (Int32.ofNat s), .int (Int32.ofNat b0), .int (Int32.ofNat r), .int 1, l7', l8', l9', l10'] [] (c, t, hp g (SH fl tg) (fnd σ i s b0 (tkN P s b0) (tbF P A f s b0)))) := by
  have hm := W.1
  have hs := hc.1
  have h11 := bgn_11 W hs
  have h2 := (hall s hc.2.1).2
  have hsl := or_lt hS (show s < 8 by omega)
  have hsg := or_gt hc.2.2.1
  intro q
  induction q with
  | zero =>
    intro b l9 l10 hb hN
    have h1 : bgn P s ≤ b := by omega
    refine Or.inl ⟨l9, l10, ?_, fun s' b' r' a1 a2 a3 a4 => hN s' b' r' a1 a2 ?_ a4⟩
    · rw [sg_X7_plans_213]
      simp (disch := omega) only [Option.bind_some, as_I, as_R, as_V, ct_t, ct_f, if_true, if_false, Bool.true_and, Bool.and_true, Bool.or_true, Bool.true_or, gi_270_0, gi_270_10, gi_270_11, gi_270_12, gi_270_13, gi_270_14, gi_270_15, gi_270_21, gi_270_22, gi_270_23, gi_270_34, gi_270_35, gi_270_36, pi_270_0, pi_270_10, pi_270_11, pi_270_12, pi_270_13, pi_270_14, pi_270_15, pi_270_21, pi_270_22, pi_270_23, pi_270_34, pi_270_35, pi_270_36, gr_270_1, gr_270_2, gr_270_3, gr_270_4, gr_270_5, gr_270_6, gr_270_7, gr_270_8, gr_270_9, gr_270_16, gr_270_17, gr_270_18, gr_270_19, gr_270_20, gr_270_24, gr_270_25, gr_270_26, gr_270_27, gr_270_28, gr_270_29, gr_270_30, gr_270_31, gr_270_32, gr_270_33, ld_271, ld_272, ld_273, ld_274, ld_275, ld_276, ld_277, ld_278, ld_279, ld_280, ld_281, ld_282, ld_283, ld_284, ld_285, ld_286, ld_287, ld_288, ld_289, ld_290, ld_291, ld_292, ld_293, ld_294, sv_271, sv_272, sv_273, sv_274, sv_275, sv_276, sv_277, sv_278, sv_279, sv_280, sv_281, sv_282, sv_283, sv_284, sv_285, sv_286, sv_287, sv_288, sv_289, sv_290, sv_291, sv_292, sv_293, sv_294, is_270, ia_0, ia_1, is_m0, is_m1, im_8, ml_8, im_11, ml_11, im_12, ml_12, im_88, ml_88, im_89, ml_89, j_lt_0, j_gt_0, j_le_0, j_ge_0, j_eq_0, j_lt_1, j_gt_1, j_le_1, j_ge_1, j_eq_1, j_lt_2, j_gt_2, j_le_2, j_ge_2, j_eq_2, j_lt_3, j_gt_3, j_le_3, j_ge_3, j_eq_3, j_lt_4, j_gt_4, j_le_4, j_ge_4, j_eq_4, j_lt_5, j_gt_5, j_le_5, j_ge_5, j_eq_5, j_lt_6, j_gt_6, j_le_6, j_ge_6, j_eq_6, j_lt_8, j_gt_8, j_le_8, j_ge_8, j_eq_8, j_lt_12, j_gt_12, j_le_12, j_ge_12, j_eq_12, j_lt_209, j_gt_209, j_le_209, j_ge_209, j_eq_209, j_lt_255, j_gt_255, j_le_255, j_ge_255, j_eq_255, j_lt_1000000000, j_gt_1000000000, j_le_1000000000, j_ge_1000000000, j_eq_1000000000, km_begs C0 W hs, i_le, h1]
      rw [show b = bgn P s by omega]
    · have := bgn_11 W a1.1
      by_cases e : s' = s
      · subst e; omega
      · omega
  | succ q ih =>
    intro b l9 l10 hb hN
    have h1 : ¬ bgn P s ≤ b := by omega
    have hb1 : b < bgn P s := by omega
    obtain ⟨t1, t2⟩ := InvA_Tb W hS hsub T s b hc hb1
    have htb := tbF_le (b := b) W hA0 hf hs h2
    have htk := tkN_le (b := b) W hs (by omega)
    rw [sg_X7_plans_213]
    simp (disch := omega) only [Option.bind_some, as_I, as_R, as_V, ct_t, ct_f, if_true, if_false, Bool.true_and, Bool.and_true, Bool.or_true, Bool.true_or, gi_270_0, gi_270_10, gi_270_11, gi_270_12, gi_270_13, gi_270_14, gi_270_15, gi_270_21, gi_270_22, gi_270_23, gi_270_34, gi_270_35, gi_270_36, pi_270_0, pi_270_10, pi_270_11, pi_270_12, pi_270_13, pi_270_14, pi_270_15, pi_270_21, pi_270_22, pi_270_23, pi_270_34, pi_270_35, pi_270_36, gr_270_1, gr_270_2, gr_270_3, gr_270_4, gr_270_5, gr_270_6, gr_270_7, gr_270_8, gr_270_9, gr_270_16, gr_270_17, gr_270_18, gr_270_19, gr_270_20, gr_270_24, gr_270_25, gr_270_26, gr_270_27, gr_270_28, gr_270_29, gr_270_30, gr_270_31, gr_270_32, gr_270_33, ld_271, ld_272, ld_273, ld_274, ld_275, ld_276, ld_277, ld_278, ld_279, ld_280, ld_281, ld_282, ld_283, ld_284, ld_285, ld_286, ld_287, ld_288, ld_289, ld_290, ld_291, ld_292, ld_293, ld_294, sv_271, sv_272, sv_273, sv_274, sv_275, sv_276, sv_277, sv_278, sv_279, sv_280, sv_281, sv_282, sv_283, sv_284, sv_285, sv_286, sv_287, sv_288, sv_289, sv_290, sv_291, sv_292, sv_293, sv_294, is_270, ia_0, ia_1, is_m0, is_m1, im_8, ml_8, im_11, ml_11, im_12, ml_12, im_88, ml_88, im_89, ml_89, j_lt_0, j_gt_0, j_le_0, j_ge_0, j_eq_0, j_lt_1, j_gt_1, j_le_1, j_ge_1, j_eq_1, j_lt_2, j_gt_2, j_le_2, j_ge_2, j_eq_2, j_lt_3, j_gt_3, j_le_3, j_ge_3, j_eq_3, j_lt_4, j_gt_4, j_le_4, j_ge_4, j_eq_4, j_lt_5, j_gt_5, j_le_5, j_ge_5, j_eq_5, j_lt_6, j_gt_6, j_le_6, j_ge_6, j_eq_6, j_lt_8, j_gt_8, j_le_8, j_ge_8, j_eq_8, j_lt_12, j_gt_12, j_le_12, j_ge_12, j_eq_12, j_lt_209, j_gt_209, j_le_209, j_ge_209, j_eq_209, j_lt_255, j_gt_255, j_le_255, j_ge_255, j_eq_255, j_lt_1000000000, j_gt_1000000000, j_le_1000000000, j_ge_1000000000, j_eq_1000000000, km_begs C0 W hs, i_le, h1, b_or, sg_X7_place_0, n_m1, i_add, i_mul, t1, km_tb C0 W hA0 hf hs hb1 h2]
    cases hr : R (set ||| 2 ^ s) (11 * s + b) with
    | none =>
      rw [if_pos (show encM none = -1 from rfl)]
      refine ih (b + 1) _ _ (by omega) fun s' b' r' a1 a2 a3 a4 => ?_
      have := bgn_11 W a1.1
      by_cases e : 11 * s' + b' < 11 * s + b
      · exact hN s' b' r' a1 a2 e a4
      · have x1 : s' = s := by omega
        have x2 : b' = b := by omega
        subst x1; subst x2
        rw [hr] at a4; cases a4
    | some r =>
      have hrb := t2 r hr
      rw [if_neg (show ¬ encM (some r) = -1 by rw [show encM (some r) = Int32.ofNat r from rfl, n_m1 (by omega)]; exact id)]
      by_cases hw2 : tbF P A f s b + tkN P s b + r = w
      · refine Or.inr ⟨b, r, .int (Int32.ofNat (s + 1)), .int (Int32.ofNat (b + 1)), .int (Int32.ofNat r), .int (Int32.ofNat (tbF P A f s b)), hb1, hr, hw2.symm, hN, ?_⟩
        have F2 : FrP σ (up2 (up2 σ 281 i (Int32.ofNat s)) 282 i (Int32.ofNat b)) := FrP_trans (FrP_up (by omega)) (FrP_up (by omega))
        have C2 := FrP_ShM F2 C0
        simp (disch := omega) only [Option.bind_some, as_I, as_R, as_V, ct_t, ct_f, if_true, if_false, Bool.true_and, Bool.and_true, Bool.or_true, Bool.true_or, gi_270_0, gi_270_10, gi_270_11, gi_270_12, gi_270_13, gi_270_14, gi_270_15, gi_270_21, gi_270_22, gi_270_23, gi_270_34, gi_270_35, gi_270_36, pi_270_0, pi_270_10, pi_270_11, pi_270_12, pi_270_13, pi_270_14, pi_270_15, pi_270_21, pi_270_22, pi_270_23, pi_270_34, pi_270_35, pi_270_36, gr_270_1, gr_270_2, gr_270_3, gr_270_4, gr_270_5, gr_270_6, gr_270_7, gr_270_8, gr_270_9, gr_270_16, gr_270_17, gr_270_18, gr_270_19, gr_270_20, gr_270_24, gr_270_25, gr_270_26, gr_270_27, gr_270_28, gr_270_29, gr_270_30, gr_270_31, gr_270_32, gr_270_33, ld_271, ld_272, ld_273, ld_274, ld_275, ld_276, ld_277, ld_278, ld_279, ld_280, ld_281, ld_282, ld_283, ld_284, ld_285, ld_286, ld_287, ld_288, ld_289, ld_290, ld_291, ld_292, ld_293, ld_294, sv_271, sv_272, sv_273, sv_274, sv_275, sv_276, sv_277, sv_278, sv_279, sv_280, sv_281, sv_282, sv_283, sv_284, sv_285, sv_286, sv_287, sv_288, sv_289, sv_290, sv_291, sv_292, sv_293, sv_294, is_270, ia_0, ia_1, is_m0, is_m1, im_8, ml_8, im_11, ml_11, im_12, ml_12, im_88, ml_88, im_89, ml_89, j_lt_0, j_gt_0, j_le_0, j_ge_0, j_eq_0, j_lt_1, j_gt_1, j_le_1, j_ge_1, j_eq_1, j_lt_2, j_gt_2, j_le_2, j_ge_2, j_eq_2, j_lt_3, j_gt_3, j_le_3, j_ge_3, j_eq_3, j_lt_4, j_gt_4, j_le_4, j_ge_4, j_eq_4, j_lt_5, j_gt_5, j_le_5, j_ge_5, j_eq_5, j_lt_6, j_gt_6, j_le_6, j_ge_6, j_eq_6, j_lt_8, j_gt_8, j_le_8, j_ge_8, j_eq_8, j_lt_12, j_gt_12, j_le_12, j_ge_12, j_eq_12, j_lt_209, j_gt_209, j_le_209, j_ge_209, j_eq_209, j_lt_255, j_gt_255, j_le_255, j_ge_255, j_eq_255, j_lt_1000000000, j_gt_1000000000, j_le_1000000000, j_ge_1000000000, j_eq_1000000000, km_ticks C0 W hs hb1 h2, show encM (some r) = Int32.ofNat r from rfl, i_add, i_eq, hw2, hI, up2_n, km_ticks C2 W hs hb1 h2]
        have C3 : ShM P (fnd σ i s b (tkN P s b) (tbF P A f s b)) := FrP_ShM (FrP_trans F2 (FrP_trans (FrP_up (by omega)) (FrP_trans (FrP_up (by omega)) (FrP_up (by omega))))) C0
        show dX tb (d + 7) 114 213 _ [] (c, t, hp g (SH fl tg) (fnd σ i s b (tkN P s b) (tbF P A f s b))) = _
        rw [sg_X7_plans_213]
        simp (disch := omega) only [Option.bind_some, as_I, as_R, as_V, ct_t, ct_f, if_true, if_false, Bool.true_and, Bool.and_true, Bool.or_true, Bool.true_or, gi_270_0, gi_270_10, gi_270_11, gi_270_12, gi_270_13, gi_270_14, gi_270_15, gi_270_21, gi_270_22, gi_270_23, gi_270_34, gi_270_35, gi_270_36, pi_270_0, pi_270_10, pi_270_11, pi_270_12, pi_270_13, pi_270_14, pi_270_15, pi_270_21, pi_270_22, pi_270_23, pi_270_34, pi_270_35, pi_270_36, gr_270_1, gr_270_2, gr_270_3, gr_270_4, gr_270_5, gr_270_6, gr_270_7, gr_270_8, gr_270_9, gr_270_16, gr_270_17, gr_270_18, gr_270_19, gr_270_20, gr_270_24, gr_270_25, gr_270_26, gr_270_27, gr_270_28, gr_270_29, gr_270_30, gr_270_31, gr_270_32, gr_270_33, ld_271, ld_272, ld_273, ld_274, ld_275, ld_276, ld_277, ld_278, ld_279, ld_280, ld_281, ld_282, ld_283, ld_284, ld_285, ld_286, ld_287, ld_288, ld_289, ld_290, ld_291, ld_292, ld_293, ld_294, sv_271, sv_272, sv_273, sv_274, sv_275, sv_276, sv_277, sv_278, sv_279, sv_280, sv_281, sv_282, sv_283, sv_284, sv_285, sv_286, sv_287, sv_288, sv_289, sv_290, sv_291, sv_292, sv_293, sv_294, is_270, ia_0, ia_1, is_m0, is_m1, im_8, ml_8, im_11, ml_11, im_12, ml_12, im_88, ml_88, im_89, ml_89, j_lt_0, j_gt_0, j_le_0, j_ge_0, j_eq_0, j_lt_1, j_gt_1, j_le_1, j_ge_1, j_eq_1, j_lt_2, j_gt_2, j_le_2, j_ge_2, j_eq_2, j_lt_3, j_gt_3, j_le_3, j_ge_3, j_eq_3, j_lt_4, j_gt_4, j_le_4, j_ge_4, j_eq_4, j_lt_5, j_gt_5, j_le_5, j_ge_5, j_eq_5, j_lt_6, j_gt_6, j_le_6, j_ge_6, j_eq_6, j_lt_8, j_gt_8, j_le_8, j_ge_8, j_eq_8, j_lt_12, j_gt_12, j_le_12, j_ge_12, j_eq_12, j_lt_209, j_gt_209, j_le_209, j_ge_209, j_eq_209, j_lt_255, j_gt_255, j_le_255, j_ge_255, j_eq_255, j_lt_1000000000, j_gt_1000000000, j_le_1000000000, j_ge_1000000000, j_eq_1000000000, km_begs C3 W hs, show ((1 : Int32) = 0) = False from eq_false (by decide), km_f182 C3 W]
        split <;> rfl
      · simp (disch := omega) only [Option.bind_some, as_I, as_R, as_V, ct_t, ct_f, if_true, if_false, Bool.true_and, Bool.and_true, Bool.or_true, Bool.true_or, gi_270_0, gi_270_10, gi_270_11, gi_270_12, gi_270_13, gi_270_14, gi_270_15, gi_270_21, gi_270_22, gi_270_23, gi_270_34, gi_270_35, gi_270_36, pi_270_0, pi_270_10, pi_270_11, pi_270_12, pi_270_13, pi_270_14, pi_270_15, pi_270_21, pi_270_22, pi_270_23, pi_270_34, pi_270_35, pi_270_36, gr_270_1, gr_270_2, gr_270_3, gr_270_4, gr_270_5, gr_270_6, gr_270_7, gr_270_8, gr_270_9, gr_270_16, gr_270_17, gr_270_18, gr_270_19, gr_270_20, gr_270_24, gr_270_25, gr_270_26, gr_270_27, gr_270_28, gr_270_29, gr_270_30, gr_270_31, gr_270_32, gr_270_33, ld_271, ld_272, ld_273, ld_274, ld_275, ld_276, ld_277, ld_278, ld_279, ld_280, ld_281, ld_282, ld_283, ld_284, ld_285, ld_286, ld_287, ld_288, ld_289, ld_290, ld_291, ld_292, ld_293, ld_294, sv_271, sv_272, sv_273, sv_274, sv_275, sv_276, sv_277, sv_278, sv_279, sv_280, sv_281, sv_282, sv_283, sv_284, sv_285, sv_286, sv_287, sv_288, sv_289, sv_290, sv_291, sv_292, sv_293, sv_294, is_270, ia_0, ia_1, is_m0, is_m1, im_8, ml_8, im_11, ml_11, im_12, ml_12, im_88, ml_88, im_89, ml_89, j_lt_0, j_gt_0, j_le_0, j_ge_0, j_eq_0, j_lt_1, j_gt_1, j_le_1, j_ge_1, j_eq_1, j_lt_2, j_gt_2, j_le_2, j_ge_2, j_eq_2, j_lt_3, j_gt_3, j_le_3, j_ge_3, j_eq_3, j_lt_4, j_gt_4, j_le_4, j_ge_4, j_eq_4, j_lt_5, j_gt_5, j_le_5, j_ge_5, j_eq_5, j_lt_6, j_gt_6, j_le_6, j_ge_6, j_eq_6, j_lt_8, j_gt_8, j_le_8, j_ge_8, j_eq_8, j_lt_12, j_gt_12, j_le_12, j_ge_12, j_eq_12, j_lt_209, j_gt_209, j_le_209, j_ge_209, j_eq_209, j_lt_255, j_gt_255, j_le_255, j_ge_255, j_eq_255, j_lt_1000000000, j_gt_1000000000, j_le_1000000000, j_ge_1000000000, j_eq_1000000000, km_ticks C0 W hs hb1 h2, show encM (some r) = Int32.ofNat r from rfl, i_add, i_eq, hw2]
        refine ih (b + 1) _ _ (by omega) fun s' b' r' a1 a2 a3 a4 => ?_
        have := bgn_11 W a1.1
        by_cases e : 11 * s' + b' < 11 * s + b
        · exact hN s' b' r' a1 a2 e a4
        · have x1 : s' = s := by omega
          have x2 : b' = b := by omega
          subst x1; subst x2
          rw [hr] at a4; injection a4 with a4; subst a4
          exact hw2
theorem km_fS (C0 : ShM P σ) (W : Wf P) (hA0 : ArM A σ) (hall : ∀ s, all.testBit s = true → s < pM P ∧ 2 ≤ pN P s) (ha : all < 256) (hS : set < 256) (hsub : sub set all) {fr fb : Int32} (hf : frm P f fr fb) (T : InvA P A all R σ) {i w : Nat} (hi : i < 8) (hI : σ 270 21 = Int32.ofNat i) (hw : w ≤ 60000 * (256 - set)) (hne : set ≠ all) (hB : IsB P A all R set f (some w)) : ∀ q s (l8 l9 l10 : Value), s + q = pM P → NoF P A all R set f w (11 * s) →
    ∃ s0 b0 r l7' l8' l9' l10', cand P all set s0 ∧ b0 < bgn P s0 ∧ R (set ||| 2 ^ s0) (11 * s0 + b0) = some r ∧ w = tbF P A f s0 b0 + tkN P s0 b0 + r ∧ NoF P A all R set f w (11 * s0 + b0) ∧ dX tb (d + 7) 114 182 [.ref 270, .int (Int32.ofNat all), .int (Int32.ofNat set), .int fr, .int fb, .int (Int32.ofNat w), .int 0, .int (Int32.ofNat s), l8, l9, l10] [] (c, t, hp g (SH fl tg) σ) = dX tb (d + 7) 114 171 [.ref 270, .int (Int32.ofNat all), .int (Int32.ofNat (set ||| 2 ^ s0)), .int (Int32.ofNat s0), .int (Int32.ofNat b0), .int (Int32.ofNat r), .int 1, l7', l8', l9', l10'] [] (c, t, hp g (SH fl tg) (fnd σ i s0 b0 (tkN P s0 b0) (tbF P A f s0 b0))) := by
  have hm := W.1
  intro q
  induction q with
  | zero =>
    intro s l8 l9 l10 h hN
    obtain ⟨s', b', r', a1, a2, a3, a4⟩ := (hB.2 hne).1 w rfl
    have := bgn_11 W a1.1
    have := a1.1
    exact absurd a4.symm (hN s' b' r' a1 a2 (by omega) a3)
  | succ q ih =>
    intro s l8 l9 l10 h hN
    have hs : s < pM P := by omega
    have h1 : ¬ pM P ≤ s := by omega
    rw [sg_X7_plans_182]
    simp (disch := omega) only [Option.bind_some, as_I, as_R, as_V, ct_t, ct_f, if_true, if_false, Bool.true_and, Bool.and_true, Bool.or_true, Bool.true_or, gi_270_0, gi_270_10, gi_270_11, gi_270_12, gi_270_13, gi_270_14, gi_270_15, gi_270_21, gi_270_22, gi_270_23, gi_270_34, gi_270_35, gi_270_36, pi_270_0, pi_270_10, pi_270_11, pi_270_12, pi_270_13, pi_270_14, pi_270_15, pi_270_21, pi_270_22, pi_270_23, pi_270_34, pi_270_35, pi_270_36, gr_270_1, gr_270_2, gr_270_3, gr_270_4, gr_270_5, gr_270_6, gr_270_7, gr_270_8, gr_270_9, gr_270_16, gr_270_17, gr_270_18, gr_270_19, gr_270_20, gr_270_24, gr_270_25, gr_270_26, gr_270_27, gr_270_28, gr_270_29, gr_270_30, gr_270_31, gr_270_32, gr_270_33, ld_271, ld_272, ld_273, ld_274, ld_275, ld_276, ld_277, ld_278, ld_279, ld_280, ld_281, ld_282, ld_283, ld_284, ld_285, ld_286, ld_287, ld_288, ld_289, ld_290, ld_291, ld_292, ld_293, ld_294, sv_271, sv_272, sv_273, sv_274, sv_275, sv_276, sv_277, sv_278, sv_279, sv_280, sv_281, sv_282, sv_283, sv_284, sv_285, sv_286, sv_287, sv_288, sv_289, sv_290, sv_291, sv_292, sv_293, sv_294, is_270, ia_0, ia_1, is_m0, is_m1, im_8, ml_8, im_11, ml_11, im_12, ml_12, im_88, ml_88, im_89, ml_89, j_lt_0, j_gt_0, j_le_0, j_ge_0, j_eq_0, j_lt_1, j_gt_1, j_le_1, j_ge_1, j_eq_1, j_lt_2, j_gt_2, j_le_2, j_ge_2, j_eq_2, j_lt_3, j_gt_3, j_le_3, j_ge_3, j_eq_3, j_lt_4, j_gt_4, j_le_4, j_ge_4, j_eq_4, j_lt_5, j_gt_5, j_le_5, j_ge_5, j_eq_5, j_lt_6, j_gt_6, j_le_6, j_ge_6, j_eq_6, j_lt_8, j_gt_8, j_le_8, j_ge_8, j_eq_8, j_lt_12, j_gt_12, j_le_12, j_ge_12, j_eq_12, j_lt_209, j_gt_209, j_le_209, j_ge_209, j_eq_209, j_lt_255, j_gt_255, j_le_255, j_ge_255, j_eq_255, j_lt_1000000000, j_gt_1000000000, j_le_1000000000, j_ge_1000000000, j_eq_1000000000, C0.1, i_le, h1, km_may C0 W ha hS hs, bI_0]
    by_cases hc : cand P all set s
    · rw [dcd_t hc, if_neg (by decide)]
      rcases km_f213 (tb := tb) (d := d) (c := c) (t := t) (g := g) (fl := fl) (tg := tg) C0 W hA0 hall hS hsub hf T hi hI hw hc (l6 := .null) (bgn P s) 0 l9 l10 (by omega) hN with ⟨l9', l10', e1, e2⟩ | ⟨b0, r, l7', l8', l9', l10', e1, e2, e3, e4, e5⟩
      · obtain ⟨s0, b0, r, l7', l82, l92, l102, f1, f2, f3, f4, f5, f6⟩ := ih (s + 1) (.int (Int32.ofNat (bgn P s))) l9' l10' (by omega) e2
        exact ⟨s0, b0, r, l7', l82, l92, l102, f1, f2, f3, f4, f5, e1.trans f6⟩
      · exact ⟨s, b0, r, l7', l8', l9', l10', hc, e1, e2, e3, e4, e5⟩
    · rw [dcd_f hc, if_pos rfl]
      exact ih (s + 1) l8 l9 l10 (by omega) fun s' b' r' a1 a2 a3 a4 => by
        have := bgn_11 W a1.1
        by_cases e : s' = s
        · subst e; exact absurd a1 hc
        · exact hN s' b' r' a1 a2 (by omega) a4
theorem km_fW (C0 : ShM P σ) (W : Wf P) (hA0 : ArM A σ) (hall : ∀ s, all.testBit s = true → s < pM P ∧ 2 ≤ pN P s) (ha : all < 256) : ∀ n i (os ob : Nat → Nat) (τ : dSg) (w : Nat) (fr fb : Int32) (l6 l7 l8 l9 l10 : Value), 256 ≤ n + pS os i → pS os i < 256 → sub (pS os i) all → pc8 (pS os i) = i → frm P (pF os ob i) fr fb → FrP σ τ → InvA P A all R τ → τ 270 21 = Int32.ofNat i → IsB P A all R (pS os i) (pF os ob i) (some w) → w ≤ 60000 * (256 - pS os i) → OrM P A os ob i τ → (∀ j, j < i → IsF P A all R (pS os j) (pF os ob j) (os j) (ob j)) →
    ∃ k os' ob' τ', dX tb (d + 7) 114 171 [.ref 270, .int (Int32.ofNat all), .int (Int32.ofNat (pS os i)), .int fr, .int fb, .int (Int32.ofNat w), l6, l7, l8, l9, l10] [] (c, t, hp g (SH fl tg) τ) = some (some (.int 1), (c, t, hp g (SH fl tg) (τ'))) ∧ FrP σ τ' ∧ τ' 270 22 = τ 270 22 ∧ k ≤ 8 ∧ τ' 270 21 = Int32.ofNat k ∧ OrM P A os' ob' k τ' ∧ pS os' k = all ∧ ∀ j, j < k → IsF P A all R (pS os' j) (pF os' ob' j) (os' j) (ob' j) := by
  have hm := W.1
  intro n
  induction n with
  | zero => intro i os ob τ w fr fb l6 l7 l8 l9 l10 h1 h2; omega
  | succ n ih =>
    intro i os ob τ w fr fb l6 l7 l8 l9 l10 h1 hS hsub hpc hf hF T hI hB hw hO hP
    have C := FrP_ShM hF C0
    have hA := FrP_ArM hF hA0
    by_cases hq : pS os i = all
    · refine ⟨i, os, ob, τ, ?_, hF, rfl, by have := pc8_le (pS os i); omega, hI, hO, hq, hP⟩
      rw [sg_X7_plans_171, hq, if_pos rfl]
    · obtain ⟨s0, b0, r, l7', l8', l9', l10', e1, e2, e3, e4, e5, e6⟩ := km_fS (tb := tb) (d := d) (c := c) (t := t) (g := g) (fl := fl) (tg := tg) C W hA hall ha hS hsub hf T (i := i) (w := w) (by
          obtain ⟨s', b', r', a1, a2, a3, a4⟩ := (hB.2 hq).1 w rfl
          have q1 := pc8_or hS (Nat.lt_of_lt_of_le a1.1 hm) a1.2.2.1
          have q2 := pc8_le (pS os i ||| 2 ^ s')
          omega) hI hw hq hB (pM P) 0 l8 l9 l10 (by omega) (fun s b r a1 a2 a3 => by omega)
      have hs8 : s0 < 8 := Nat.lt_of_lt_of_le e1.1 hm
      have hi8 : i < 8 := by
        have q1 := pc8_or hS hs8 e1.2.2.1
        have q2 := pc8_le (pS os i ||| 2 ^ s0)
        omega
      have o1 : ∀ j, j < i → os j = (fun j => if j = i then s0 else os j) j := fun j hj => (if_neg (by omega)).symm
      have o2 : ∀ j, j < i → ob j = (fun j => if j = i then b0 else ob j) j := fun j hj => (if_neg (by omega)).symm
      have oi1 : (fun j => if j = i then s0 else os j) i = s0 := if_pos rfl
      have oi2 : (fun j => if j = i then b0 else ob j) i = b0 := if_pos rfl
      generalize (fun j => if j = i then s0 else os j) = os2 at o1 oi1
      generalize (fun j => if j = i then b0 else ob j) = ob2 at o2 oi2
      have pe : ∀ j, j ≤ i → pS os j = pS os2 j := fun j hj => pS_congr fun q hq => o1 q (by omega)
      have fe : ∀ j, j ≤ i → pF os ob j = pF os2 ob2 j := fun j hj => pF_congr fun q hq => ⟨o1 q (by omega), o2 q (by omega)⟩
      have pS1 : pS os2 (i + 1) = pS os i ||| 2 ^ s0 := by show pS os2 i ||| 2 ^ os2 i = _; rw [← pe i (Nat.le_refl _), oi1]
      have pF1 : pF os2 ob2 (i + 1) = 11 * s0 + b0 := by show 11 * os2 i + ob2 i = _; rw [oi1, oi2]
      have hS' := or_lt hS hs8
      have hsub' := cand_sub e1 hsub
      have ent := T (pS os i ||| 2 ^ s0) s0 b0 hS' hsub' (cand_tb P _ s0) e2
      have hF1 : FrP τ (fnd τ i s0 b0 (tkN P s0 b0) (tbF P A (pF os ob i) s0 b0)) := FrP_trans (FrP_up (by omega)) (FrP_trans (FrP_up (by omega)) (FrP_trans (FrP_up (by omega)) (FrP_trans (FrP_up (by omega)) (FrP_up (by omega)))))
      have h280 : (fnd τ i s0 b0 (tkN P s0 b0) (tbF P A (pF os ob i) s0 b0)) 280 = τ 280 := by
        unfold fnd
        rw [up2_row _ _ (by decide), up2_row _ _ (by decide), up2_row _ _ (by decide), up2_row _ _ (by decide), up2_row _ _ (by decide)]
      obtain ⟨k, os', ob', τ', g1, g2, g3, g4⟩ := ih (i + 1) os2 ob2 (fnd τ i s0 b0 (tkN P s0 b0) (tbF P A (pF os ob i) s0 b0)) r (Int32.ofNat s0) (Int32.ofNat b0) (.int 1) l7' l8' l9' l10' (by rw [pS1]; have := or_gt e1.2.2.1; omega) (by rw [pS1]; exact hS') (by rw [pS1]; exact hsub') (by rw [pS1, pc8_or hS hs8 e1.2.2.1, hpc]) (by rw [pF1]; exact frm_slot W e1.1 e2 (hall s0 e1.2.1).2) (FrP_trans hF hF1) (fun set' s b a1 a2 a3 a4 => by
          have := T set' s b a1 a2 a3 a4
          unfold EnT at this ⊢
          rw [h280]; exact this) (by unfold fnd; rw [up2_s]) (by rw [pS1, pF1]; have := ent.2.1; rw [e3] at this; exact this) (by rw [pS1]; exact ent.2.2 r e3) (fun j hj => by
          unfold fnd
          by_cases hji : j = i
          · subst hji
            rw [oi1, oi2, ← fe j (Nat.le_refl _)]
            simp (disch := omega) only [up2_s, up2_n, and_self]
          · simp (disch := omega) only [up2_n]
            rw [← o1 j (by omega), ← o2 j (by omega), ← fe j (by omega)]
            exact hO j (by omega)) (fun j hj => by
          by_cases hji : j = i
          · subst hji
            rw [oi1, oi2, ← fe j (Nat.le_refl _), ← pe j (Nat.le_refl _)]
            refine ⟨e1, e2, r, e3, e4 ▸ hB, fun s' b' r' a1 a2 a3 a4 => ?_⟩
            have n1 := e5 s' b' r' a1 a2 a3 a4
            obtain ⟨w', n2, n3⟩ := (hB.2 hq).2 s' b' r' a1 a2 a4
            injection n2 with n2
            omega
          · rw [← o1 j (by omega), ← o2 j (by omega), ← fe j (by omega), ← pe j (by omega)]
            exact hP j (by omega))
      refine ⟨k, os', ob', τ', ?_, g2, ?_, g4⟩
      · rw [sg_X7_plans_171, if_neg (by rw [i_eq (by omega) (by omega)]; exact hq)]
        rw [pS1] at g1
        exact e6.trans g1
      · rw [g3]; unfold fnd; simp (disch := omega) only [up2_n]
end MFL
