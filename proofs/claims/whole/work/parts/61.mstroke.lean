/-! stroke, price, clear on the reference's side; price and clear on the class's -/
section MSR
variable {tb : dT} {d c t : Nat} {g : Nat → Option dE} {fl : Nat → Bool} {tg : Nat} {σ : dSg} {P : dP} {A : dA} {T w : Nat} {e : Nat → Option Nat} {n j : Int32}
theorem mq_strL {m : Nat} (hm : m < 8) (h10 : σ 270 10 = Int32.ofNat m) {l1 l2 : Int32} : ∀ q k (τ : dSg), k + q = 8 → (∀ a, a ≠ 279 → τ a = σ a) → ∃ τ', dX tb (d + 1) 97 105 [.ref 270, .int l1, .int l2, .int (Int32.ofNat k)] [] (c, t, hp g (SH fl tg) τ) = dX tb (d + 1) 97 105 [.ref 270, .int l1, .int l2, .int (Int32.ofNat 8)] [] (c, t, hp g (SH fl tg) (τ')) ∧ (∀ a, a ≠ 279 → τ' a = σ a) ∧ (∀ i, k ≤ i → i < 8 → τ' 279 (8 * m + i) = 0 ∧ τ' 279 (8 * i + m) = 0) ∧ (∀ x, τ 279 x = 0 → τ' 279 x = 0) ∧ ∀ x, (∀ i, i < 8 → x ≠ 8 * m + i ∧ x ≠ 8 * i + m) → τ' 279 x = τ 279 x := by
  intro q
  induction q with
  | zero =>
    intro k τ hq hF
    obtain rfl : k = 8 := by omega
    exact ⟨τ, rfl, hF, fun i a b => by omega, fun _ h => h, fun _ _ => rfl⟩
  | succ q ih =>
    intro k τ hq hF
    have h1 : ¬ 8 ≤ k := by omega
    obtain ⟨τ', y1, y2, y3, y5, y4⟩ := ih (k + 1) (up2 (up2 τ 279 (8 * m + k) 0) 279 (8 * k + m) 0) (by omega) (fun a ha => by rw [up2_row _ _ ha, up2_row _ _ ha]; exact hF a ha)
    have keep : ∀ x, τ 279 x = 0 ∨ x = 8 * m + k ∨ x = 8 * k + m → (up2 (up2 τ 279 (8 * m + k) 0) 279 (8 * k + m) 0) 279 x = 0 := fun x hx => by
      by_cases a1 : x = 8 * k + m
      · subst a1; exact up2_s _ _ _ _
      · rw [up2_n _ _ (Or.inr a1)]
        by_cases a2 : x = 8 * m + k
        · subst a2; exact up2_s _ _ _ _
        · rw [up2_n _ _ (Or.inr a2)]
          rcases hx with hx | hx | hx
          · exact hx
          · exact absurd hx a2
          · exact absurd hx a1
    refine ⟨τ', ?_, y2, fun i a1 a2 => ?_, fun x hx => y5 x (keep x (Or.inl hx)), fun x hx => ?_⟩
    · have e10 : τ 270 10 = Int32.ofNat m := by rw [hF 270 (by omega)]; exact h10
      rw [sg_X7_stroke_105]
      simp (disch := omega) only [bq_s, aq_I, aq_R, aq_V, cq_t, cq_f, if_true, if_false, Bool.true_and, Bool.and_true, Bool.or_true, Bool.true_or, gi_270_0, gi_270_10, gi_270_11, gi_270_12, gi_270_13, gi_270_14, gi_270_15, gi_270_21, gi_270_22, gi_270_23, gi_270_34, gi_270_35, gi_270_36, pi_270_0, pi_270_10, pi_270_11, pi_270_12, pi_270_13, pi_270_14, pi_270_15, pi_270_21, pi_270_22, pi_270_23, pi_270_34, pi_270_35, pi_270_36, gr_270_1, gr_270_2, gr_270_3, gr_270_4, gr_270_5, gr_270_6, gr_270_7, gr_270_8, gr_270_9, gr_270_16, gr_270_17, gr_270_18, gr_270_19, gr_270_20, gr_270_24, gr_270_25, gr_270_26, gr_270_27, gr_270_28, gr_270_29, gr_270_30, gr_270_31, gr_270_32, gr_270_33, ld_271, ld_272, ld_273, ld_274, ld_275, ld_276, ld_277, ld_278, ld_279, ld_280, ld_281, ld_282, ld_283, ld_284, ld_285, ld_286, ld_287, ld_288, ld_289, ld_290, ld_291, ld_292, ld_293, ld_294, sv_271, sv_272, sv_273, sv_274, sv_275, sv_276, sv_277, sv_278, sv_279, sv_280, sv_281, sv_282, sv_283, sv_284, sv_285, sv_286, sv_287, sv_288, sv_289, sv_290, sv_291, sv_292, sv_293, sv_294, is_270, ia_0, ia_1, is_m0, is_m1, im_8, ml_8, im_11, ml_11, im_12, ml_12, im_88, ml_88, im_89, ml_89, j_lt_0, j_gt_0, j_le_0, j_ge_0, j_eq_0, j_lt_1, j_gt_1, j_le_1, j_ge_1, j_eq_1, j_lt_2, j_gt_2, j_le_2, j_ge_2, j_eq_2, j_lt_3, j_gt_3, j_le_3, j_ge_3, j_eq_3, j_lt_4, j_gt_4, j_le_4, j_ge_4, j_eq_4, j_lt_5, j_gt_5, j_le_5, j_ge_5, j_eq_5, j_lt_6, j_gt_6, j_le_6, j_ge_6, j_eq_6, j_lt_8, j_gt_8, j_le_8, j_ge_8, j_eq_8, j_lt_12, j_gt_12, j_le_12, j_ge_12, j_eq_12, j_lt_209, j_gt_209, j_le_209, j_ge_209, j_eq_209, j_lt_255, j_gt_255, j_le_255, j_ge_255, j_eq_255, j_lt_1000000000, j_gt_1000000000, j_le_1000000000, j_ge_1000000000, j_eq_1000000000, h1, e10, i_add, up2_row]
      exact y1
    · by_cases hi : i = k
      · subst hi
        exact ⟨y5 _ (keep _ (Or.inr (Or.inl rfl))), y5 _ (keep _ (Or.inr (Or.inr rfl)))⟩
      · exact y3 i (by omega) a2
    · rw [y4 x hx, up2_n _ _ (Or.inr (hx k (by omega)).2), up2_n _ _ (Or.inr (hx k (by omega)).1)]
theorem mq_stroke (W : Wf P) (H : MN P A T w e n j σ) (x y : Int32) : (okSt P x y = false → dX tb (d + 2) 97 0 [.ref 270, .int x, .int y, .null] [] (c, t, hp g (SH fl tg) σ) = some (some (.int (-1)), (c, t, hp g (SH fl tg) (up2 σ 270 0 0)))) ∧ (okSt P x y = true → ∃ τ, dX tb (d + 2) 97 0 [.ref 270, .int x, .int y, .null] [] (c, t, hp g (SH fl tg) σ) = some (some (.int (Int32.ofNat (pM P))), (c, t, hp g (SH fl tg) τ)) ∧ MN (strP P (tN x) (tN y)) A T w (fun v => if v = pM P then none else e v) n j τ ∧ ∀ a, a < 270 ∨ 295 ≤ a → τ a = σ a) := by
  have hm := W.1
  obtain ⟨C, hA, h23, h36, hL, hE, h14, h15⟩ := H
  have C1 := C.1
  unfold okSt
  constructor
  · intro hq
    rw [sg_X7_stroke_0]
    simp (disch := omega) only [bq_s, aq_I, aq_R, aq_V, cq_t, cq_f, if_true, if_false, Bool.true_and, Bool.and_true, Bool.or_true, Bool.true_or, gi_270_0, gi_270_10, gi_270_11, gi_270_12, gi_270_13, gi_270_14, gi_270_15, gi_270_21, gi_270_22, gi_270_23, gi_270_34, gi_270_35, gi_270_36, pi_270_0, pi_270_10, pi_270_11, pi_270_12, pi_270_13, pi_270_14, pi_270_15, pi_270_21, pi_270_22, pi_270_23, pi_270_34, pi_270_35, pi_270_36, gr_270_1, gr_270_2, gr_270_3, gr_270_4, gr_270_5, gr_270_6, gr_270_7, gr_270_8, gr_270_9, gr_270_16, gr_270_17, gr_270_18, gr_270_19, gr_270_20, gr_270_24, gr_270_25, gr_270_26, gr_270_27, gr_270_28, gr_270_29, gr_270_30, gr_270_31, gr_270_32, gr_270_33, ld_271, ld_272, ld_273, ld_274, ld_275, ld_276, ld_277, ld_278, ld_279, ld_280, ld_281, ld_282, ld_283, ld_284, ld_285, ld_286, ld_287, ld_288, ld_289, ld_290, ld_291, ld_292, ld_293, ld_294, sv_271, sv_272, sv_273, sv_274, sv_275, sv_276, sv_277, sv_278, sv_279, sv_280, sv_281, sv_282, sv_283, sv_284, sv_285, sv_286, sv_287, sv_288, sv_289, sv_290, sv_291, sv_292, sv_293, sv_294, is_270, ia_0, ia_1, is_m0, is_m1, im_8, ml_8, im_11, ml_11, im_12, ml_12, im_88, ml_88, im_89, ml_89, j_lt_0, j_gt_0, j_le_0, j_ge_0, j_eq_0, j_lt_1, j_gt_1, j_le_1, j_ge_1, j_eq_1, j_lt_2, j_gt_2, j_le_2, j_ge_2, j_eq_2, j_lt_3, j_gt_3, j_le_3, j_ge_3, j_eq_3, j_lt_4, j_gt_4, j_le_4, j_ge_4, j_eq_4, j_lt_5, j_gt_5, j_le_5, j_ge_5, j_eq_5, j_lt_6, j_gt_6, j_le_6, j_ge_6, j_eq_6, j_lt_8, j_gt_8, j_le_8, j_ge_8, j_eq_8, j_lt_12, j_gt_12, j_le_12, j_ge_12, j_eq_12, j_lt_209, j_gt_209, j_le_209, j_ge_209, j_eq_209, j_lt_255, j_gt_255, j_le_255, j_ge_255, j_eq_255, j_lt_1000000000, j_gt_1000000000, j_le_1000000000, j_ge_1000000000, j_eq_1000000000, up2_n, h23, C1, mw_3, mw_1000, bI_0]
    by_cases q1 : pM P < 8
    · rw [if_neg (by omega)]
      rw [decide_eq_true q1, Bool.true_and] at hq
      cases q2 : inR 4 x
      · rw [if_pos rfl]
      · rw [if_neg (by decide)]
        rw [q2, Bool.true_and] at hq
        rw [hq, if_pos rfl]
    · rw [if_pos (by omega)]
  · intro hq
    rw [Bool.and_eq_true, Bool.and_eq_true, decide_eq_true_eq] at hq
    obtain ⟨q1, q2, q3⟩ := hq
    obtain ⟨p, hp3, rfl, ep⟩ := inR_ex (by omega) q2
    obtain ⟨u, hu, rfl, eu⟩ := inR_ex (by omega) q3
    rw [ep, eu]
    have q8 : ¬ pM P = 8 := by omega
    obtain ⟨τ, y1, y2, y3, y5, y4⟩ := mq_strL (tb := tb) (d := d + 1) (c := c) (t := t) (g := g) (fl := fl) (tg := tg) (σ := up2 (up2 (up2 (up2 (up2 (up2 (up2 σ 270 0 0) 274 (pM P) (Int32.ofNat p)) 275 (pM P) (Int32.ofNat u)) 273 (pM P) 0) 277 (pM P) 1) 278 (pM P) 0) 294 (pM P) (-1)) (m := pM P) q1 (by simp (disch := omega) only [up2_n, up2_row]; exact C1) (l1 := Int32.ofNat p) (l2 := Int32.ofNat u) 8 0 _ (by omega) (fun _ _ => rfl)
    have e10 : τ 270 10 = Int32.ofNat (pM P) := by rw [y2 270 (by omega)]; simp (disch := omega) only [up2_n, up2_row]; exact C1
    have e270 : ∀ k, k ≠ 0 → τ 270 k = σ 270 k := fun k hk => by rw [y2 270 (by omega)]; simp (disch := omega) only [up2_n, up2_row]
    refine ⟨up2 τ 270 10 (Int32.ofNat (pM P + 1)), ?_, ⟨⟨?_, ?_, ?_, ?_⟩, ?_, ?_, ?_, ?_, ?_, ?_, ?_⟩, ?_⟩
    · rw [sg_X7_stroke_0]
      simp (disch := omega) only [bq_s, aq_I, aq_R, aq_V, cq_t, cq_f, if_true, if_false, Bool.true_and, Bool.and_true, Bool.or_true, Bool.true_or, gi_270_0, gi_270_10, gi_270_11, gi_270_12, gi_270_13, gi_270_14, gi_270_15, gi_270_21, gi_270_22, gi_270_23, gi_270_34, gi_270_35, gi_270_36, pi_270_0, pi_270_10, pi_270_11, pi_270_12, pi_270_13, pi_270_14, pi_270_15, pi_270_21, pi_270_22, pi_270_23, pi_270_34, pi_270_35, pi_270_36, gr_270_1, gr_270_2, gr_270_3, gr_270_4, gr_270_5, gr_270_6, gr_270_7, gr_270_8, gr_270_9, gr_270_16, gr_270_17, gr_270_18, gr_270_19, gr_270_20, gr_270_24, gr_270_25, gr_270_26, gr_270_27, gr_270_28, gr_270_29, gr_270_30, gr_270_31, gr_270_32, gr_270_33, ld_271, ld_272, ld_273, ld_274, ld_275, ld_276, ld_277, ld_278, ld_279, ld_280, ld_281, ld_282, ld_283, ld_284, ld_285, ld_286, ld_287, ld_288, ld_289, ld_290, ld_291, ld_292, ld_293, ld_294, sv_271, sv_272, sv_273, sv_274, sv_275, sv_276, sv_277, sv_278, sv_279, sv_280, sv_281, sv_282, sv_283, sv_284, sv_285, sv_286, sv_287, sv_288, sv_289, sv_290, sv_291, sv_292, sv_293, sv_294, is_270, ia_0, ia_1, is_m0, is_m1, im_8, ml_8, im_11, ml_11, im_12, ml_12, im_88, ml_88, im_89, ml_89, j_lt_0, j_gt_0, j_le_0, j_ge_0, j_eq_0, j_lt_1, j_gt_1, j_le_1, j_ge_1, j_eq_1, j_lt_2, j_gt_2, j_le_2, j_ge_2, j_eq_2, j_lt_3, j_gt_3, j_le_3, j_ge_3, j_eq_3, j_lt_4, j_gt_4, j_le_4, j_ge_4, j_eq_4, j_lt_5, j_gt_5, j_le_5, j_ge_5, j_eq_5, j_lt_6, j_gt_6, j_le_6, j_ge_6, j_eq_6, j_lt_8, j_gt_8, j_le_8, j_ge_8, j_eq_8, j_lt_12, j_gt_12, j_le_12, j_ge_12, j_eq_12, j_lt_209, j_gt_209, j_le_209, j_ge_209, j_eq_209, j_lt_255, j_gt_255, j_le_255, j_ge_255, j_eq_255, j_lt_1000000000, j_gt_1000000000, j_le_1000000000, j_ge_1000000000, j_eq_1000000000, up2_n, h23, C1, mw_3, mw_1000, bI_0, q2, q3, q8, Bool.true_eq_false, up2_row]
      refine y1.trans ?_
      rw [sg_X7_stroke_105]
      simp (disch := omega) only [bq_s, aq_I, aq_R, aq_V, cq_t, cq_f, if_true, if_false, Bool.true_and, Bool.and_true, Bool.or_true, Bool.true_or, gi_270_0, gi_270_10, gi_270_11, gi_270_12, gi_270_13, gi_270_14, gi_270_15, gi_270_21, gi_270_22, gi_270_23, gi_270_34, gi_270_35, gi_270_36, pi_270_0, pi_270_10, pi_270_11, pi_270_12, pi_270_13, pi_270_14, pi_270_15, pi_270_21, pi_270_22, pi_270_23, pi_270_34, pi_270_35, pi_270_36, gr_270_1, gr_270_2, gr_270_3, gr_270_4, gr_270_5, gr_270_6, gr_270_7, gr_270_8, gr_270_9, gr_270_16, gr_270_17, gr_270_18, gr_270_19, gr_270_20, gr_270_24, gr_270_25, gr_270_26, gr_270_27, gr_270_28, gr_270_29, gr_270_30, gr_270_31, gr_270_32, gr_270_33, ld_271, ld_272, ld_273, ld_274, ld_275, ld_276, ld_277, ld_278, ld_279, ld_280, ld_281, ld_282, ld_283, ld_284, ld_285, ld_286, ld_287, ld_288, ld_289, ld_290, ld_291, ld_292, ld_293, ld_294, sv_271, sv_272, sv_273, sv_274, sv_275, sv_276, sv_277, sv_278, sv_279, sv_280, sv_281, sv_282, sv_283, sv_284, sv_285, sv_286, sv_287, sv_288, sv_289, sv_290, sv_291, sv_292, sv_293, sv_294, is_270, ia_0, ia_1, is_m0, is_m1, im_8, ml_8, im_11, ml_11, im_12, ml_12, im_88, ml_88, im_89, ml_89, j_lt_0, j_gt_0, j_le_0, j_ge_0, j_eq_0, j_lt_1, j_gt_1, j_le_1, j_ge_1, j_eq_1, j_lt_2, j_gt_2, j_le_2, j_ge_2, j_eq_2, j_lt_3, j_gt_3, j_le_3, j_ge_3, j_eq_3, j_lt_4, j_gt_4, j_le_4, j_ge_4, j_eq_4, j_lt_5, j_gt_5, j_le_5, j_ge_5, j_eq_5, j_lt_6, j_gt_6, j_le_6, j_ge_6, j_eq_6, j_lt_8, j_gt_8, j_le_8, j_ge_8, j_eq_8, j_lt_12, j_gt_12, j_le_12, j_ge_12, j_eq_12, j_lt_209, j_gt_209, j_le_209, j_ge_209, j_eq_209, j_lt_255, j_gt_255, j_le_255, j_ge_255, j_eq_255, j_lt_1000000000, j_gt_1000000000, j_le_1000000000, j_ge_1000000000, j_eq_1000000000, e10, Nat.le_refl, up2_s, Nat.add_sub_cancel]
    · rw [up2_s]; rfl
    · intro k hk; rw [up2_row _ _ (by omega), y2 276 (by omega)]; simp (disch := omega) only [up2_row]; exact C.2.1 k hk
    · intro v hv
      have hv' : v < pM P + 1 := hv
      unfold StM
      simp (disch := omega) only [up2_row]
      rw [y2 273 (by omega), y2 274 (by omega), y2 275 (by omega), y2 277 (by omega), y2 278 (by omega), y2 271 (by omega), y2 272 (by omega)]
      rw [strP_pen, strP_wet, strP_N, strP_cut, strP_lf]
      by_cases h : v = pM P
      · subst h
        simp (disch := omega) only [up2_n, up2_s, up2_row]
        refine ⟨by rw [if_pos trivial]; rfl, by rw [if_pos trivial], by rw [if_pos trivial], by rw [if_pos trivial]; rfl, by rw [if_pos trivial]; rfl, fun k hk => ?_⟩
        rw [if_pos trivial] at hk; omega
      · obtain ⟨b1, b2, b3, b4, b5, b6⟩ := C.2.2.1 v (by omega)
        simp (disch := omega) only [up2_n, up2_row]
        rw [if_neg h, if_neg h, if_neg h, if_neg h, if_neg h]
        exact ⟨b1, b2, b3, b4, b5, b6⟩
    · intro s o hs ho
      have hs' : s < pM P + 1 := hs
      have ho' : o < pM P + 1 := ho
      rw [up2_row _ _ (by omega)]
      show τ 279 (8 * s + o) = bI (pOv P s o)
      have ov : ¬ (s < pM P ∧ o < pM P) → pOv P s o = false := fun z => by
        cases q : pOv P s o
        · rfl
        · have := W.2.2.2.2.2.2.2 s o q; exact absurd ⟨this.1, this.2.1⟩ z
      by_cases h1 : s = pM P
      · rw [ov (by omega), h1]; exact (y3 o (by omega) (by omega)).1
      · by_cases h2 : o = pM P
        · rw [ov (by omega), h2]; exact (y3 s (by omega) (by omega)).2
        · rw [y4 _ (fun i hi => by omega)]
          simp (disch := omega) only [up2_row]
          exact C.2.2.2 s o (by omega) (by omega)
    · unfold ArM
      rw [up2_n _ _ (by omega), up2_n _ _ (by omega), up2_n _ _ (by omega), e270 11 (by decide), e270 12 (by decide), e270 13 (by decide)]; exact hA
    · rw [up2_n _ _ (by omega), e270 23 (by decide)]; exact h23
    · rw [up2_n _ _ (by omega), e270 36 (by decide)]; exact h36
    · obtain ⟨l, l1, l2⟩ := hL
      refine ⟨l, PhM_congr (fun a a1 a2 => ?_) (by rw [up2_n _ _ (by omega), e270 34 (by decide)]) (by rw [up2_n _ _ (by omega), e270 35 (by decide)]) l1, l2⟩
      rw [up2_row _ _ (by omega), y2 a (by omega)]; simp (disch := omega) only [up2_row]
    · intro v hv
      have hv' : v < pM P + 1 := hv
      rw [up2_row _ _ (by omega), y2 294 (by omega)]
      show _ = encE (if v = pM P then none else e v)
      by_cases h : v = pM P
      · subst h; rw [up2_s, if_pos rfl]; rfl
      · rw [if_neg h]; simp (disch := omega) only [up2_n, up2_row]; exact hE v (by omega)
    · rw [up2_n _ _ (by omega), e270 14 (by decide)]; exact h14
    · rw [up2_n _ _ (by omega), e270 15 (by decide)]; exact h15
    · intro a ha; rw [up2_row _ _ (by omega), y2 a (by omega)]; simp (disch := omega) only [up2_row]
/-! clear -/
def clrP (P : dP) : dP := (0, P.2.1, P.2.2.1, P.2.2.2.1, P.2.2.2.2.1, P.2.2.2.2.2.1, P.2.2.2.2.2.2.1, P.2.2.2.2.2.2.2.1, fun _ _ => false, P.2.2.2.2.2.2.2.2.2)
theorem clrP_Wf (W : Wf P) : Wf (clrP P) := ⟨Nat.zero_le _, fun s hs => absurd hs (Nat.not_lt_zero s), W.2.2.1, W.2.2.2.1, W.2.2.2.2.1, W.2.2.2.2.2.1, W.2.2.2.2.2.2.1, fun s o h => by cases h⟩
theorem ovm_clr (v : Nat) : ∀ o, ovm (clrP P) v o = 0 := by
  intro o
  induction o with
  | zero => rfl
  | succ o ih => show ovm (clrP P) v o + 0 = 0; rw [ih]
theorem kq_wipe : ∀ q k (τ : dSg), k + q = 8 → (∀ a, a ≠ 3 → τ a = σ a) → ∃ τ', dX tb d 49 7 [.ref 1, .int (Int32.ofNat k)] [] (c, t, hp g (SH fl tg) τ) = some (none, (c, t, hp g (SH fl tg) (τ'))) ∧ (∀ a, a ≠ 3 → τ' a = σ a) ∧ (∀ i, k ≤ i → i < 8 → τ' 3 i = 0) ∧ ∀ i, i < k → τ' 3 i = τ 3 i := by
  intro q
  induction q with
  | zero =>
    intro k τ hq hF
    have h1 : 8 ≤ k := by have hq' : k = 8 := hq
                          rw [hq']; exact Nat.le_refl 8
    refine ⟨τ, ?_, hF, fun i a b => by omega, fun _ _ => rfl⟩
    rw [sg_X4_wipe_7]
    simp (disch := omega) only [bq_s, aq_I, aq_R, aq_V, cq_t, cq_f, if_true, if_false, Bool.true_and, Bool.and_true, Bool.or_true, Bool.true_or, ia_0, ia_1, is_m0, is_m1, im_8, ml_8, im_11, ml_11, im_12, ml_12, im_88, ml_88, im_89, ml_89, j_lt_0, j_gt_0, j_le_0, j_ge_0, j_eq_0, j_lt_1, j_gt_1, j_le_1, j_ge_1, j_eq_1, j_lt_2, j_gt_2, j_le_2, j_ge_2, j_eq_2, j_lt_3, j_gt_3, j_le_3, j_ge_3, j_eq_3, j_lt_4, j_gt_4, j_le_4, j_ge_4, j_eq_4, j_lt_5, j_gt_5, j_le_5, j_ge_5, j_eq_5, j_lt_6, j_gt_6, j_le_6, j_ge_6, j_eq_6, j_lt_8, j_gt_8, j_le_8, j_ge_8, j_eq_8, j_lt_12, j_gt_12, j_le_12, j_ge_12, j_eq_12, j_lt_209, j_gt_209, j_le_209, j_ge_209, j_eq_209, j_lt_255, j_gt_255, j_le_255, j_ge_255, j_eq_255, j_lt_1000000000, j_gt_1000000000, j_le_1000000000, j_ge_1000000000, j_eq_1000000000, h1]
  | succ q ih =>
    intro k τ hq hF
    have h1 : ¬ 8 ≤ k := by omega
    obtain ⟨τ', y1, y2, y3, y4⟩ := ih (k + 1) (up2 τ 3 k 0) (by omega) (fun a ha => by rw [up2_row _ _ ha]; exact hF a ha)
    refine ⟨τ', ?_, y2, fun i a1 a2 => ?_, fun i hi => by rw [y4 i (by omega), up2_n _ _ (by omega)]⟩
    · rw [sg_X4_wipe_7]
      simp (disch := omega) only [bq_s, aq_I, aq_R, aq_V, cq_t, cq_f, if_true, if_false, Bool.true_and, Bool.and_true, Bool.or_true, Bool.true_or, gi_1_3, gi_s, pi_1_3, pi_s, gr_0_0, gr_0_1, gr_0_2, gr_0_3, gr_1_0, gr_1_1, gr_1_2, gr_s_7, gr_s_8, gr_s_9, gr_s_10, ld_3, ld_4, ld_x, ld_y, ld_u, ld_v, sv_3, sv_4, sv_x, sv_y, sv_u, sv_v, is_0, is_1, is_s, lr_2, ia_0, ia_1, is_m0, is_m1, im_8, ml_8, im_11, ml_11, im_12, ml_12, im_88, ml_88, im_89, ml_89, j_lt_0, j_gt_0, j_le_0, j_ge_0, j_eq_0, j_lt_1, j_gt_1, j_le_1, j_ge_1, j_eq_1, j_lt_2, j_gt_2, j_le_2, j_ge_2, j_eq_2, j_lt_3, j_gt_3, j_le_3, j_ge_3, j_eq_3, j_lt_4, j_gt_4, j_le_4, j_ge_4, j_eq_4, j_lt_5, j_gt_5, j_le_5, j_ge_5, j_eq_5, j_lt_6, j_gt_6, j_le_6, j_ge_6, j_eq_6, j_lt_8, j_gt_8, j_le_8, j_ge_8, j_eq_8, j_lt_12, j_gt_12, j_le_12, j_ge_12, j_eq_12, j_lt_209, j_gt_209, j_le_209, j_ge_209, j_eq_209, j_lt_255, j_gt_255, j_le_255, j_ge_255, j_eq_255, j_lt_1000000000, j_gt_1000000000, j_le_1000000000, j_ge_1000000000, j_eq_1000000000, h1]
      exact y1
    · by_cases hi : i = k
      · subst hi; rw [y4 i (by omega), up2_s]
      · exact y3 i (by omega) a2
theorem kq_clear (W : Wf P) (H : CN P A T w e n j fl tg c σ) : ∃ τ, dX tb (d + 2) 75 0 [.ref 0] [] (c, t, hp g (SH fl tg) σ) = some (some (.int 1), (c, t, hp g (SH fl tg) τ)) ∧ CN (clrP P) (0, 0, -1) T w e n j fl tg c τ ∧ ∀ a, 270 ≤ a → τ a = σ a := by
  obtain ⟨C, L, Hh, h4, h5, h6, h7, h8, h9, h10, h11, h12⟩ := H
  obtain ⟨τ, y1, y2, y3, -⟩ := kq_wipe (tb := tb) (d := d + 1) (c := c) (t := t) (g := g) (fl := fl) (tg := tg) (σ := up2 (up2 σ 46 10 0) 1 3 0) 8 0 _ (by omega) (fun _ _ => rfl)
  have y1' : dX tb (d + 1) 49 7 [.ref 1, .int 0] [] (c, t, hp g (SH fl tg) (up2 (up2 σ 46 10 0) 1 3 0)) = some (none, (c, t, hp g (SH fl tg) τ)) := y1
  refine ⟨up2 (up2 (up2 (up2 τ 45 0 0) 45 1 0) 45 2 (-1)) 45 3 0, ?_, ⟨⟨?_, ?_, fun v hv => absurd hv (Nat.not_lt_zero v), ?_⟩, fun v hv => absurd hv (Nat.not_lt_zero v), ⟨?_, ?_, ?_, ?_⟩, ?_, ?_, ?_, ?_, fun v hv => absurd hv (Nat.not_lt_zero v), ?_, ?_, ?_, h12⟩, ?_⟩
  · rw [sg_X6_clear_0]
    simp (disch := omega) only [bq_s, aq_I, aq_R, aq_V, cq_t, cq_f, if_true, if_false, Bool.true_and, Bool.and_true, Bool.or_true, Bool.true_or, gi_1_3, gi_s, pi_1_3, pi_s, gr_0_0, gr_0_1, gr_0_2, gr_0_3, gr_1_0, gr_1_1, gr_1_2, gr_s_7, gr_s_8, gr_s_9, gr_s_10, ld_3, ld_4, ld_x, ld_y, ld_u, ld_v, sv_3, sv_4, sv_x, sv_y, sv_u, sv_v, is_0, is_1, is_s, lr_2, gi_45_0, gi_45_1, gi_45_2, gi_45_3, gi_47_0, gi_47_1, gi_47_2, gi_47_3, gi_46_8, gi_46_9, gi_46_10, gi_46_15, gi_46_16, pi_45_0, pi_45_1, pi_45_2, pi_45_3, pi_47_0, pi_47_1, pi_47_2, pi_47_3, pi_46_8, pi_46_9, pi_46_10, pi_46_15, pi_46_16, gr_46_0, gr_46_1, gr_46_2, gr_46_3, gr_46_4, gr_46_5, gr_46_6, gr_46_7, gr_46_11, gr_46_12, gr_46_13, gr_46_14, ld_50, ld_51, ld_52, ld_53, ld_54, ld_55, ld_56, ld_t, ld_b, sv_50, sv_51, sv_52, sv_53, sv_54, sv_55, sv_56, sv_t, sv_b, is_45, is_47, is_46, gi_59_0, gi_59_1, gi_59_2, gi_59_3, gi_57_3, gi_57_4, gi_57_6, gi_57_8, gi_57_9, gi_57_10, gi_57_11, gi_57_12, gi_57_13, gi_57_14, gi_l, pi_59_0, pi_59_1, pi_59_2, pi_59_3, pi_57_3, pi_57_4, pi_57_6, pi_57_8, pi_57_9, pi_57_10, pi_57_11, pi_57_12, pi_57_13, pi_57_14, pi_l, gr_57_0, gr_57_1, gr_57_2, gr_57_5, gr_57_7, ld_60, sv_60, is_59, is_57, is_l, lr_58, h4, sg_X2_forget_0, sg_X4_wipe_0, y1', sg_X0_goHome_0]
  · simp (disch := omega) only [up2_row]; rw [y2 1 (by omega), up2_s]; rfl
  · intro k hk; simp (disch := omega) only [up2_row]; rw [y2 4 (by omega)]; simp (disch := omega) only [up2_row]; exact C.2.1 k hk
  · intro v hv; simp (disch := omega) only [up2_row]; rw [y3 v (by omega) hv, ovm_clr]; rfl
  · simp (disch := omega) only [up2_n, up2_s]; rfl
  · simp (disch := omega) only [up2_n, up2_s]; rfl
  · simp (disch := omega) only [up2_n, up2_s]
  · simp (disch := omega) only [up2_s]; rfl
  · simp (disch := omega) only [up2_row]; rw [y2 57 (by omega)]; simp (disch := omega) only [up2_row]; exact h4
  · simp (disch := omega) only [up2_row]; rw [y2 57 (by omega)]; simp (disch := omega) only [up2_row]; exact h5
  · simp (disch := omega) only [up2_row]; rw [y2 57 (by omega)]; simp (disch := omega) only [up2_row]; exact h6
  · simp (disch := omega) only [up2_row]; rw [y2 57 (by omega)]; simp (disch := omega) only [up2_row]; exact h7
  · simp (disch := omega) only [up2_row]; rw [y2 57 (by omega)]; simp (disch := omega) only [up2_row]; exact h9
  · simp (disch := omega) only [up2_row]; rw [y2 57 (by omega)]; simp (disch := omega) only [up2_row]; exact h10
  · left; simp (disch := omega) only [up2_row]; rw [y2 46 (by omega)]; simp (disch := omega) only [up2_row, up2_s]
  · intro a ha; simp (disch := omega) only [up2_row]; rw [y2 a (by omega)]; simp (disch := omega) only [up2_row]
theorem mq_clear (H : MN P A T w e n j σ) : ∃ τ, dX tb d 101 0 [.ref 270] [] (c, t, hp g (SH fl tg) σ) = some (some (.int 1), (c, t, hp g (SH fl tg) τ)) ∧ MN (clrP P) (0, 0, -1) T w e n j τ ∧ ∀ a, a < 270 ∨ 295 ≤ a → τ a = σ a := by
  obtain ⟨C, hA, h23, h36, ⟨l, l1, l2⟩, hE, h14, h15⟩ := H
  refine ⟨up2 (up2 (up2 (up2 (up2 σ 270 0 0) 270 10 0) 270 11 0) 270 12 0) 270 13 (-1), ?_, ⟨⟨?_, ?_, fun v hv => absurd hv (Nat.not_lt_zero v), fun s o hs => absurd hs (Nat.not_lt_zero s)⟩, ⟨?_, ?_, ?_, by decide, by decide⟩, ?_, ?_, ⟨l, PhM_congr (fun a a1 a2 => ?_) ?_ ?_ l1, l2⟩, fun v hv => absurd hv (Nat.not_lt_zero v), ?_, ?_⟩, ?_⟩
  · rw [sg_X7_clear_0]
    simp (disch := omega) only [bq_s, aq_I, aq_R, aq_V, cq_t, cq_f, if_true, if_false, Bool.true_and, Bool.and_true, Bool.or_true, Bool.true_or, gi_270_0, gi_270_10, gi_270_11, gi_270_12, gi_270_13, gi_270_14, gi_270_15, gi_270_21, gi_270_22, gi_270_23, gi_270_34, gi_270_35, gi_270_36, pi_270_0, pi_270_10, pi_270_11, pi_270_12, pi_270_13, pi_270_14, pi_270_15, pi_270_21, pi_270_22, pi_270_23, pi_270_34, pi_270_35, pi_270_36, gr_270_1, gr_270_2, gr_270_3, gr_270_4, gr_270_5, gr_270_6, gr_270_7, gr_270_8, gr_270_9, gr_270_16, gr_270_17, gr_270_18, gr_270_19, gr_270_20, gr_270_24, gr_270_25, gr_270_26, gr_270_27, gr_270_28, gr_270_29, gr_270_30, gr_270_31, gr_270_32, gr_270_33, ld_271, ld_272, ld_273, ld_274, ld_275, ld_276, ld_277, ld_278, ld_279, ld_280, ld_281, ld_282, ld_283, ld_284, ld_285, ld_286, ld_287, ld_288, ld_289, ld_290, ld_291, ld_292, ld_293, ld_294, sv_271, sv_272, sv_273, sv_274, sv_275, sv_276, sv_277, sv_278, sv_279, sv_280, sv_281, sv_282, sv_283, sv_284, sv_285, sv_286, sv_287, sv_288, sv_289, sv_290, sv_291, sv_292, sv_293, sv_294, is_270, up2_n, h23]
  · simp (disch := omega) only [up2_n, up2_s]; rfl
  · intro k hk; simp (disch := omega) only [up2_row]; exact C.2.1 k hk
  · simp (disch := omega) only [up2_n, up2_s]; rfl
  · simp (disch := omega) only [up2_n, up2_s]; rfl
  · simp (disch := omega) only [up2_s]
  · simp (disch := omega) only [up2_n]; exact h23
  · simp (disch := omega) only [up2_n]; exact h36
  · simp (disch := omega) only [up2_row]
  · simp (disch := omega) only [up2_n]
  · simp (disch := omega) only [up2_n]
  · simp (disch := omega) only [up2_n]; exact h14
  · simp (disch := omega) only [up2_n]; exact h15
  · intro a ha; simp (disch := omega) only [up2_row]
end MSR
