/-! THE REFERENCE LAYS ITS PHASES, third part: all of them -/
section ML3
variable {tb : dT} {d c t : Nat} {g : Nat → Option dE} {fl : Nat → Bool} {tg : Nat} {σ : dSg} {P : dP} {A : dA} {os ob : Nat → Nat}
theorem km_ly131 (C0 : ShM P σ) (W : Wf P) {s b x y : Nat} {pen : Int32} {dwn : Bool} (hs : s < pM P) (hb : b < bgn P s) (h2 : 2 ≤ pN P s) (hx : x ≤ 500) (hy : y ≤ 500) {l : List dF} (hl : l.length ≤ 300) (hP : PhM l σ) {l5 : Int32} {l10 l11 : Value} : ∃ τ', dX tb (d + 5) 123 131 [.ref 270, .int (Int32.ofNat x), .int (Int32.ofNat y), .int pen, .int (bI dwn), .int l5, .int (Int32.ofNat s), .int (Int32.ofNat b), .int (Int32.ofNat (dXn P s b 0)), .int (Int32.ofNat (dYn P s b 0)), l10, l11] [] (c, t, hp g (SH fl tg) σ) = dX tb (d + 5) 123 256 [.ref 270, .int (Int32.ofNat x), .int (Int32.ofNat y), .int pen, .int (bI dwn), .int l5, .int (Int32.ofNat s), .int (Int32.ofNat b), .int (Int32.ofNat (dXn P s b 0)), .int (Int32.ofNat (dYn P s b 0)), .int (τ' 270 35), .int 0] [] (c, t, hp g (SH fl tg) (τ')) ∧ FrL σ τ' ∧ τ' 294 = σ 294 ∧ PhM (l ++ ((bif dwn then [(0, pPr P 2, s, b, 0, x, y, x, y, pen)] else []) ++ (bif decide (pen = Int32.ofNat (pPen P s)) then [] else [(1, pPr P 3, s, b, 0, x, y, x, y, pen)]) ++ [(2, pPr P 1 * wayN x y (dXn P s b 0) (dYn P s b 0), s, b, 0, x, y, dXn P s b 0, dYn P s b 0, Int32.ofNat (pPen P s))] ++ [(3, pPr P 2, s, b, 0, dXn P s b 0, dYn P s b 0, dXn P s b 0, dYn P s b 0, Int32.ofNat (pPen P s))])) τ' := by
  have hm := W.1
  have X0 := dXn_le (b := b) (k := 0) W hs (by omega)
  have Y0 := dYn_le (b := b) (k := 0) W hs (by omega)
  have es := (encS_lt (show s < 8 by omega)).symm
  have h183 : ∀ (τ : dSg) (m : List dF), FrL σ τ → τ 294 = σ 294 → m.length ≤ 310 → PhM m τ → ∃ τ', dX tb (d + 5) 123 183 [.ref 270, .int (Int32.ofNat x), .int (Int32.ofNat y), .int pen, .int (bI dwn), .int l5, .int (Int32.ofNat s), .int (Int32.ofNat b), .int (Int32.ofNat (dXn P s b 0)), .int (Int32.ofNat (dYn P s b 0)), l10, l11] [] (c, t, hp g (SH fl tg) τ) = dX tb (d + 5) 123 256 [.ref 270, .int (Int32.ofNat x), .int (Int32.ofNat y), .int pen, .int (bI dwn), .int l5, .int (Int32.ofNat s), .int (Int32.ofNat b), .int (Int32.ofNat (dXn P s b 0)), .int (Int32.ofNat (dYn P s b 0)), .int (τ' 270 35), .int 0] [] (c, t, hp g (SH fl tg) (τ')) ∧ FrL σ τ' ∧ τ' 294 = σ 294 ∧ PhM (m ++ [(2, pPr P 1 * wayN x y (dXn P s b 0) (dYn P s b 0), s, b, 0, x, y, dXn P s b 0, dYn P s b 0, Int32.ofNat (pPen P s))] ++ [(3, pPr P 2, s, b, 0, dXn P s b 0, dYn P s b 0, dXn P s b 0, dYn P s b 0, Int32.ofNat (pPen P s))]) τ' := by
    intro τ m u1 u2 u3 u4
    have D := FrL_ShM u1 C0
    obtain ⟨τ1, g1, g2, g3, g4⟩ := km_phase (tb := tb) (d := d + 4) (c := c) (t := t) (g := g) (fl := fl) (tg := tg) u4 (by omega) (2, pPr P 1 * wayN x y (dXn P s b 0) (dYn P s b 0), s, b, 0, x, y, dXn P s b 0, dYn P s b 0, Int32.ofNat (pPen P s)) (l1 := 2) (l2 := Int32.ofNat (pPr P 1 * wayN x y (dXn P s b 0) (dYn P s b 0))) (l3 := Int32.ofNat s) (l4 := Int32.ofNat x) (l5 := Int32.ofNat y) (l6 := Int32.ofNat (dXn P s b 0)) (l7 := Int32.ofNat (dYn P s b 0)) (l8 := Int32.ofNat (pPen P s)) rfl rfl es rfl rfl rfl rfl rfl
    have D1 := FrL_ShM (FrL_trans u1 g3) C0
    obtain ⟨τ2, k1, k2, k3, k4⟩ := km_phase (tb := tb) (d := d + 4) (c := c) (t := t) (g := g) (fl := fl) (tg := tg) g2 (by rw [List.length_append, List.length_singleton]; omega) (3, pPr P 2, s, b, 0, dXn P s b 0, dYn P s b 0, dXn P s b 0, dYn P s b 0, Int32.ofNat (pPen P s)) (l1 := 3) (l2 := Int32.ofNat (pPr P 2)) (l3 := Int32.ofNat s) (l4 := Int32.ofNat (dXn P s b 0)) (l5 := Int32.ofNat (dYn P s b 0)) (l6 := Int32.ofNat (dXn P s b 0)) (l7 := Int32.ofNat (dYn P s b 0)) (l8 := Int32.ofNat (pPen P s)) rfl rfl es rfl rfl rfl rfl rfl
    refine ⟨τ2, ?_, FrL_trans u1 (FrL_trans g3 k3), by rw [k4, g4, u2], k2⟩
    rw [sg_X7_lay_183]
    simp (disch := omega) only [bq_s, aq_I, aq_R, aq_V, cq_t, cq_f, if_true, if_false, Bool.true_and, Bool.and_true, Bool.or_true, Bool.true_or, gi_270_0, gi_270_10, gi_270_11, gi_270_12, gi_270_13, gi_270_14, gi_270_15, gi_270_21, gi_270_22, gi_270_23, gi_270_34, gi_270_35, gi_270_36, pi_270_0, pi_270_10, pi_270_11, pi_270_12, pi_270_13, pi_270_14, pi_270_15, pi_270_21, pi_270_22, pi_270_23, pi_270_34, pi_270_35, pi_270_36, gr_270_1, gr_270_2, gr_270_3, gr_270_4, gr_270_5, gr_270_6, gr_270_7, gr_270_8, gr_270_9, gr_270_16, gr_270_17, gr_270_18, gr_270_19, gr_270_20, gr_270_24, gr_270_25, gr_270_26, gr_270_27, gr_270_28, gr_270_29, gr_270_30, gr_270_31, gr_270_32, gr_270_33, ld_271, ld_272, ld_273, ld_274, ld_275, ld_276, ld_277, ld_278, ld_279, ld_280, ld_281, ld_282, ld_283, ld_284, ld_285, ld_286, ld_287, ld_288, ld_289, ld_290, ld_291, ld_292, ld_293, ld_294, sv_271, sv_272, sv_273, sv_274, sv_275, sv_276, sv_277, sv_278, sv_279, sv_280, sv_281, sv_282, sv_283, sv_284, sv_285, sv_286, sv_287, sv_288, sv_289, sv_290, sv_291, sv_292, sv_293, sv_294, is_270, lp_0, lp_1, lp_2, lp_3, lp_4, lq_0, lq_1, lq_2, lq_3, lq_4, lx_0, ly_0, D.2.1 1 (by decide), sg_X7_way_0, i_way hx hy X0 Y0, i_mul, (D.2.2.1 s hs).2.1, g1, D1.2.1 2 (by decide), (D1.2.2.1 s hs).2.1, k1]
  have h154 : ∀ (τ : dSg) (m : List dF), FrL σ τ → τ 294 = σ 294 → m.length ≤ 305 → PhM m τ → ∃ τ', dX tb (d + 5) 123 154 [.ref 270, .int (Int32.ofNat x), .int (Int32.ofNat y), .int pen, .int (bI dwn), .int l5, .int (Int32.ofNat s), .int (Int32.ofNat b), .int (Int32.ofNat (dXn P s b 0)), .int (Int32.ofNat (dYn P s b 0)), l10, l11] [] (c, t, hp g (SH fl tg) τ) = dX tb (d + 5) 123 256 [.ref 270, .int (Int32.ofNat x), .int (Int32.ofNat y), .int pen, .int (bI dwn), .int l5, .int (Int32.ofNat s), .int (Int32.ofNat b), .int (Int32.ofNat (dXn P s b 0)), .int (Int32.ofNat (dYn P s b 0)), .int (τ' 270 35), .int 0] [] (c, t, hp g (SH fl tg) (τ')) ∧ FrL σ τ' ∧ τ' 294 = σ 294 ∧ PhM (m ++ (bif decide (pen = Int32.ofNat (pPen P s)) then [] else [(1, pPr P 3, s, b, 0, x, y, x, y, pen)]) ++ [(2, pPr P 1 * wayN x y (dXn P s b 0) (dYn P s b 0), s, b, 0, x, y, dXn P s b 0, dYn P s b 0, Int32.ofNat (pPen P s))] ++ [(3, pPr P 2, s, b, 0, dXn P s b 0, dYn P s b 0, dXn P s b 0, dYn P s b 0, Int32.ofNat (pPen P s))]) τ' := by
    intro τ m u1 u2 u3 u4
    have D := FrL_ShM u1 C0
    rw [sg_X7_lay_154]
    simp (disch := omega) only [bq_s, aq_I, aq_R, aq_V, cq_t, cq_f, if_true, if_false, Bool.true_and, Bool.and_true, Bool.or_true, Bool.true_or, gi_270_0, gi_270_10, gi_270_11, gi_270_12, gi_270_13, gi_270_14, gi_270_15, gi_270_21, gi_270_22, gi_270_23, gi_270_34, gi_270_35, gi_270_36, pi_270_0, pi_270_10, pi_270_11, pi_270_12, pi_270_13, pi_270_14, pi_270_15, pi_270_21, pi_270_22, pi_270_23, pi_270_34, pi_270_35, pi_270_36, gr_270_1, gr_270_2, gr_270_3, gr_270_4, gr_270_5, gr_270_6, gr_270_7, gr_270_8, gr_270_9, gr_270_16, gr_270_17, gr_270_18, gr_270_19, gr_270_20, gr_270_24, gr_270_25, gr_270_26, gr_270_27, gr_270_28, gr_270_29, gr_270_30, gr_270_31, gr_270_32, gr_270_33, ld_271, ld_272, ld_273, ld_274, ld_275, ld_276, ld_277, ld_278, ld_279, ld_280, ld_281, ld_282, ld_283, ld_284, ld_285, ld_286, ld_287, ld_288, ld_289, ld_290, ld_291, ld_292, ld_293, ld_294, sv_271, sv_272, sv_273, sv_274, sv_275, sv_276, sv_277, sv_278, sv_279, sv_280, sv_281, sv_282, sv_283, sv_284, sv_285, sv_286, sv_287, sv_288, sv_289, sv_290, sv_291, sv_292, sv_293, sv_294, is_270, lp_0, lp_1, lp_2, lp_3, lp_4, lq_0, lq_1, lq_2, lq_3, lq_4, lx_0, ly_0, (D.2.2.1 s hs).2.1, D.2.1 3 (by decide)]
    by_cases q : pen = Int32.ofNat (pPen P s)
    · rw [if_pos q, decide_eq_true q]
      have := h183 τ m u1 u2 (by omega) u4
      rw [cond_true, List.append_nil]
      exact this
    · rw [if_neg q, decide_eq_false q]
      obtain ⟨τ1, g1, g2, g3, g4⟩ := km_phase (tb := tb) (d := d + 4) (c := c) (t := t) (g := g) (fl := fl) (tg := tg) u4 (by omega) (1, pPr P 3, s, b, 0, x, y, x, y, pen) (l1 := 1) (l2 := Int32.ofNat (pPr P 3)) (l3 := Int32.ofNat s) (l4 := Int32.ofNat x) (l5 := Int32.ofNat y) (l6 := Int32.ofNat x) (l7 := Int32.ofNat y) (l8 := pen) rfl rfl es rfl rfl rfl rfl rfl
      simp only [bq_s, aq_I, aq_R, aq_V, cq_t, cq_f, if_true, if_false, Bool.true_and, Bool.and_true, Bool.or_true, Bool.true_or, gi_270_0, gi_270_10, gi_270_11, gi_270_12, gi_270_13, gi_270_14, gi_270_15, gi_270_21, gi_270_22, gi_270_23, gi_270_34, gi_270_35, gi_270_36, pi_270_0, pi_270_10, pi_270_11, pi_270_12, pi_270_13, pi_270_14, pi_270_15, pi_270_21, pi_270_22, pi_270_23, pi_270_34, pi_270_35, pi_270_36, gr_270_1, gr_270_2, gr_270_3, gr_270_4, gr_270_5, gr_270_6, gr_270_7, gr_270_8, gr_270_9, gr_270_16, gr_270_17, gr_270_18, gr_270_19, gr_270_20, gr_270_24, gr_270_25, gr_270_26, gr_270_27, gr_270_28, gr_270_29, gr_270_30, gr_270_31, gr_270_32, gr_270_33, ld_271, ld_272, ld_273, ld_274, ld_275, ld_276, ld_277, ld_278, ld_279, ld_280, ld_281, ld_282, ld_283, ld_284, ld_285, ld_286, ld_287, ld_288, ld_289, ld_290, ld_291, ld_292, ld_293, ld_294, sv_271, sv_272, sv_273, sv_274, sv_275, sv_276, sv_277, sv_278, sv_279, sv_280, sv_281, sv_282, sv_283, sv_284, sv_285, sv_286, sv_287, sv_288, sv_289, sv_290, sv_291, sv_292, sv_293, sv_294, is_270, g1]
      exact h183 τ1 _ (FrL_trans u1 g3) (by rw [g4, u2]) (by rw [List.length_append, List.length_singleton]; omega) g2
  rw [sg_X7_lay_131]
  simp (disch := omega) only [bq_s, aq_I, aq_R, aq_V, cq_t, cq_f, if_true, if_false, Bool.true_and, Bool.and_true, Bool.or_true, Bool.true_or, gi_270_0, gi_270_10, gi_270_11, gi_270_12, gi_270_13, gi_270_14, gi_270_15, gi_270_21, gi_270_22, gi_270_23, gi_270_34, gi_270_35, gi_270_36, pi_270_0, pi_270_10, pi_270_11, pi_270_12, pi_270_13, pi_270_14, pi_270_15, pi_270_21, pi_270_22, pi_270_23, pi_270_34, pi_270_35, pi_270_36, gr_270_1, gr_270_2, gr_270_3, gr_270_4, gr_270_5, gr_270_6, gr_270_7, gr_270_8, gr_270_9, gr_270_16, gr_270_17, gr_270_18, gr_270_19, gr_270_20, gr_270_24, gr_270_25, gr_270_26, gr_270_27, gr_270_28, gr_270_29, gr_270_30, gr_270_31, gr_270_32, gr_270_33, ld_271, ld_272, ld_273, ld_274, ld_275, ld_276, ld_277, ld_278, ld_279, ld_280, ld_281, ld_282, ld_283, ld_284, ld_285, ld_286, ld_287, ld_288, ld_289, ld_290, ld_291, ld_292, ld_293, ld_294, sv_271, sv_272, sv_273, sv_274, sv_275, sv_276, sv_277, sv_278, sv_279, sv_280, sv_281, sv_282, sv_283, sv_284, sv_285, sv_286, sv_287, sv_288, sv_289, sv_290, sv_291, sv_292, sv_293, sv_294, is_270, lp_0, lp_1, lp_2, lp_3, lp_4, lq_0, lq_1, lq_2, lq_3, lq_4, lx_0, ly_0, bI_0, C0.2.1 2 (by decide)]
  cases dwn
  · rw [if_pos rfl]
    have := h154 σ l (FrL_refl σ) rfl (by omega) hP
    rw [cond_false, List.nil_append, ← List.append_assoc, ← List.append_assoc]
    exact this
  · rw [if_neg (by decide)]
    obtain ⟨τ1, g1, g2, g3, g4⟩ := km_phase (tb := tb) (d := d + 4) (c := c) (t := t) (g := g) (fl := fl) (tg := tg) hP (by omega) (0, pPr P 2, s, b, 0, x, y, x, y, pen) (l1 := 0) (l2 := Int32.ofNat (pPr P 2)) (l3 := Int32.ofNat s) (l4 := Int32.ofNat x) (l5 := Int32.ofNat y) (l6 := Int32.ofNat x) (l7 := Int32.ofNat y) (l8 := pen) rfl rfl es rfl rfl rfl rfl rfl
    simp only [bq_s, aq_I, aq_R, aq_V, cq_t, cq_f, if_true, if_false, Bool.true_and, Bool.and_true, Bool.or_true, Bool.true_or, gi_270_0, gi_270_10, gi_270_11, gi_270_12, gi_270_13, gi_270_14, gi_270_15, gi_270_21, gi_270_22, gi_270_23, gi_270_34, gi_270_35, gi_270_36, pi_270_0, pi_270_10, pi_270_11, pi_270_12, pi_270_13, pi_270_14, pi_270_15, pi_270_21, pi_270_22, pi_270_23, pi_270_34, pi_270_35, pi_270_36, gr_270_1, gr_270_2, gr_270_3, gr_270_4, gr_270_5, gr_270_6, gr_270_7, gr_270_8, gr_270_9, gr_270_16, gr_270_17, gr_270_18, gr_270_19, gr_270_20, gr_270_24, gr_270_25, gr_270_26, gr_270_27, gr_270_28, gr_270_29, gr_270_30, gr_270_31, gr_270_32, gr_270_33, ld_271, ld_272, ld_273, ld_274, ld_275, ld_276, ld_277, ld_278, ld_279, ld_280, ld_281, ld_282, ld_283, ld_284, ld_285, ld_286, ld_287, ld_288, ld_289, ld_290, ld_291, ld_292, ld_293, ld_294, sv_271, sv_272, sv_273, sv_274, sv_275, sv_276, sv_277, sv_278, sv_279, sv_280, sv_281, sv_282, sv_283, sv_284, sv_285, sv_286, sv_287, sv_288, sv_289, sv_290, sv_291, sv_292, sv_293, sv_294, is_270, g1]
    have := h154 τ1 _ g3 g4 (by rw [List.length_append, List.length_singleton]; omega) g2
    rw [← List.append_assoc, ← List.append_assoc, ← List.append_assoc]
    exact this
theorem km_ly54 (C0 : ShM P σ) (W : Wf P) {i k s b x y : Nat} {pen : Int32} {dwn : Bool} (hi : i < k) (hk : k ≤ 8) (h21 : σ 270 21 = Int32.ofNat k) (h281 : σ 281 i = Int32.ofNat s) (h282 : σ 282 i = Int32.ofNat b) (hs : s < pM P) (hb : b < bgn P s) (h2 : 2 ≤ pN P s) (hx : x ≤ 500) (hy : y ≤ 500) {l : List dF} (hl : l.length ≤ 300) (hP : PhM l σ) {l6 l7 l8 l9 l10 l11 : Value} : ∃ τ', dX tb (d + 5) 123 54 [.ref 270, .int (Int32.ofNat x), .int (Int32.ofNat y), .int pen, .int (bI dwn), .int (Int32.ofNat i), l6, l7, l8, l9, l10, l11] [] (c, t, hp g (SH fl tg) σ) = dX tb (d + 5) 123 256 [.ref 270, .int (Int32.ofNat x), .int (Int32.ofNat y), .int pen, .int (bI dwn), .int (Int32.ofNat i), .int (Int32.ofNat s), .int (Int32.ofNat b), .int (Int32.ofNat (dXn P s b 0)), .int (Int32.ofNat (dYn P s b 0)), .int (τ' 270 35), .int 0] [] (c, t, hp g (SH fl tg) (τ')) ∧ FrL σ τ' ∧ τ' 294 = σ 294 ∧ PhM (l ++ bgP P s b x y pen dwn) τ' := by
  have hm := W.1
  have h1 : ¬ k ≤ i := by omega
  have X0 := dXn_le (b := b) (k := 0) W hs (by omega)
  have Y0 := dYn_le (b := b) (k := 0) W hs (by omega)
  have m := fun (l10 l11 : Value) => km_ly131 (tb := tb) (d := d) (c := c) (t := t) (g := g) (fl := fl) (tg := tg) C0 W hs hb h2 hx hy hl hP (pen := pen) (dwn := dwn) (l5 := Int32.ofNat i) (l10 := l10) (l11 := l11)
  rw [sg_X7_lay_54]
  simp (disch := omega) only [bq_s, aq_I, aq_R, aq_V, cq_t, cq_f, if_true, if_false, Bool.true_and, Bool.and_true, Bool.or_true, Bool.true_or, gi_270_0, gi_270_10, gi_270_11, gi_270_12, gi_270_13, gi_270_14, gi_270_15, gi_270_21, gi_270_22, gi_270_23, gi_270_34, gi_270_35, gi_270_36, pi_270_0, pi_270_10, pi_270_11, pi_270_12, pi_270_13, pi_270_14, pi_270_15, pi_270_21, pi_270_22, pi_270_23, pi_270_34, pi_270_35, pi_270_36, gr_270_1, gr_270_2, gr_270_3, gr_270_4, gr_270_5, gr_270_6, gr_270_7, gr_270_8, gr_270_9, gr_270_16, gr_270_17, gr_270_18, gr_270_19, gr_270_20, gr_270_24, gr_270_25, gr_270_26, gr_270_27, gr_270_28, gr_270_29, gr_270_30, gr_270_31, gr_270_32, gr_270_33, ld_271, ld_272, ld_273, ld_274, ld_275, ld_276, ld_277, ld_278, ld_279, ld_280, ld_281, ld_282, ld_283, ld_284, ld_285, ld_286, ld_287, ld_288, ld_289, ld_290, ld_291, ld_292, ld_293, ld_294, sv_271, sv_272, sv_273, sv_274, sv_275, sv_276, sv_277, sv_278, sv_279, sv_280, sv_281, sv_282, sv_283, sv_284, sv_285, sv_286, sv_287, sv_288, sv_289, sv_290, sv_291, sv_292, sv_293, sv_294, is_270, h21, i_le, h1, h281, h282, km_dx0 C0 W hs hb, km_dy0 C0 W hs hb, bI_0, i_eq, (C0.2.2.1 s hs).2.1]
  unfold bgP
  cases dwn
  · rw [if_pos rfl]
    exact m l10 l11
  · rw [if_neg (by decide)]
    by_cases q1 : x = dXn P s b 0
    · rw [if_pos q1, decide_eq_true q1]
      by_cases q2 : y = dYn P s b 0
      · rw [if_pos q2, decide_eq_true q2]
        by_cases q3 : pen = Int32.ofNat (pPen P s)
        · rw [if_pos q3, decide_eq_true q3]
          refine ⟨σ, rfl, FrL_refl σ, rfl, ?_⟩
          rw [show (bif true && (true && (true && true)) then ([] : List dF) else _) = [] from rfl, List.append_nil]
          exact hP
        · rw [if_neg q3, decide_eq_false q3]
          have := m l10 l11
          rw [decide_eq_false q3] at this
          exact this
      · rw [if_neg q2, decide_eq_false q2]
        rw [Bool.and_false, Bool.and_false, Bool.and_false, cond_false]
        exact m l10 l11
    · rw [if_neg q1, decide_eq_false q1]
      rw [Bool.false_and, Bool.and_false, Bool.and_false, cond_false]
      exact m l10 l11
def eoU (os en : Nat → Nat) : Nat → Nat → Option Nat
  | 0 => fun _ => none
  | i + 1 => fun v => if v = os i then some (en i) else eoU os en i v
theorem eoU_some {en : Nat → Nat} {i v e : Nat} (h : eoU os en i v = some e) : ∃ j, j < i ∧ os j = v ∧ e = en j := by
  induction i with
  | zero => cases h
  | succ i ih =>
    rw [show eoU os en (i + 1) v = if v = os i then some (en i) else eoU os en i v from rfl] at h
    split at h
    · rename_i q
      injection h with h
      exact ⟨i, by omega, q.symm, h.symm⟩
    · obtain ⟨j, j1, j2⟩ := ih h
      exact ⟨j, by omega, j2⟩
theorem eoU_at {en : Nat → Nat} {k i : Nat} (hO : OkO P os ob k) (hik : i ≤ k) : ∀ j, j < i → eoU os en i (os j) = some (en j) := by
  induction i with
  | zero => intro j hj; omega
  | succ i ih =>
    intro j hj
    rw [show eoU os en (i + 1) (os j) = if os j = os i then some (en i) else eoU os en i (os j) from rfl]
    by_cases q : os j = os i
    · rw [if_pos q, hO.2.2 j i (by omega) (by omega) q]
    · rw [if_neg q]
      exact ih (by omega) j (by
        by_cases e : j = i
        · subst e; exact absurd rfl q
        · omega)
noncomputable def enZ (P : dP) (A : dA) (os ob : Nat → Nat) (j : Nat) : Nat := tot (phE P A os ob (j + 1)).1
theorem rdU_congr {en en' : Nat → Nat} {s i : Nat} (h : ∀ j, j < i → en j = en' j) : rdU P os en s i = rdU P os en' s i := by
  induction i with
  | zero => rfl
  | succ i ih =>
    show max (rdU P os en s i) (bif dcd (tch P s (os i)) then en i + pWet P (os i) else 0) = max (rdU P os en' s i) (bif dcd (tch P s (os i)) then en' i + pWet P (os i) else 0)
    rw [ih fun j hj => h j (by omega), h i (by omega)]
theorem blk_eq (i : Nat) : blk P A os ob (phE P A os ob i).2 i (tot (phE P A os ob i).1) = bg1 P A os ob i ++ [wtP P (os i) (ob i) (rdU P os (enZ P A os ob) (os i) i - (tot (phE P A os ob i).1 + tot (bg1 P A os ob i)))] ++ pcP P (os i) (ob i) (pN P (os i) - 1) := by
  unfold blk
  rw [rdU_congr (en' := enZ P A os ob) fun j hj => phE_en i j hj]
theorem km_lyM (C0 : ShM P σ) (W : Wf P) {k : Nat} (hO : OkO P os ob k) (h21 : σ 270 21 = Int32.ofNat k) (hor : ∀ i, i < k → σ 281 i = Int32.ofNat (os i) ∧ σ 282 i = Int32.ofNat (ob i)) (hx : A.1 ≤ 500) (hy : A.2.1 ≤ 500) : ∀ q i (τ : dSg) (l6 l7 l8 l9 l10 l11 : Value), i + q = k → FrL σ τ → PhM (phE P A os ob i).1 τ → EnM P (eoU os (enZ P A os ob) i) τ → ∃ τ', dX tb (d + 5) 123 54 [.ref 270, .int (Int32.ofNat (pvX P A os ob i)), .int (Int32.ofNat (pvY P A os ob i)), .int (pvP P A os i), .int (bI (Nat.blt 0 i)), .int (Int32.ofNat i), l6, l7, l8, l9, l10, l11] [] (c, t, hp g (SH fl tg) τ) = some (none, (c, t, hp g (SH fl tg) (τ'))) ∧ FrL σ τ' ∧ PhM (phZ P A os ob k) τ' ∧ EnM P (eoU os (enZ P A os ob) k) τ' := by
  have hm := W.1
  have hk8 := hO.1
  intro q
  induction q with
  | zero =>
    intro i τ l6 l7 l8 l9 l10 l11 h hF hP hE
    obtain rfl : i = k := by omega
    have C := FrL_ShM hF C0
    have hl := (phE_le (A := A) W hO hx hy i (Nat.le_refl _)).2
    have h21' : τ 270 21 = Int32.ofNat i := by rw [hF.2 21 (by decide) (by decide)]; exact h21
    obtain ⟨τ1, g1, g2, g3, g4⟩ := km_phase (tb := tb) (d := d + 4) (c := c) (t := t) (g := g) (fl := fl) (tg := tg) hP (by omega) (ltP P A os ob i) (l1 := 0) (l2 := Int32.ofNat (pPr P 2)) (l3 := -1) (l4 := Int32.ofNat (pvX P A os ob i)) (l5 := Int32.ofNat (pvY P A os ob i)) (l6 := Int32.ofNat (pvX P A os ob i)) (l7 := Int32.ofNat (pvY P A os ob i)) (l8 := pvP P A os i) rfl rfl rfl rfl rfl rfl rfl rfl
    refine ⟨τ1, ?_, FrL_trans hF g3, g2, fun s hs => by rw [g4]; exact hE s hs⟩
    rw [sg_X7_lay_54]
    simp (disch := omega) only [bq_s, aq_I, aq_R, aq_V, cq_t, cq_f, if_true, if_false, Bool.true_and, Bool.and_true, Bool.or_true, Bool.true_or, gi_270_0, gi_270_10, gi_270_11, gi_270_12, gi_270_13, gi_270_14, gi_270_15, gi_270_21, gi_270_22, gi_270_23, gi_270_34, gi_270_35, gi_270_36, pi_270_0, pi_270_10, pi_270_11, pi_270_12, pi_270_13, pi_270_14, pi_270_15, pi_270_21, pi_270_22, pi_270_23, pi_270_34, pi_270_35, pi_270_36, gr_270_1, gr_270_2, gr_270_3, gr_270_4, gr_270_5, gr_270_6, gr_270_7, gr_270_8, gr_270_9, gr_270_16, gr_270_17, gr_270_18, gr_270_19, gr_270_20, gr_270_24, gr_270_25, gr_270_26, gr_270_27, gr_270_28, gr_270_29, gr_270_30, gr_270_31, gr_270_32, gr_270_33, ld_271, ld_272, ld_273, ld_274, ld_275, ld_276, ld_277, ld_278, ld_279, ld_280, ld_281, ld_282, ld_283, ld_284, ld_285, ld_286, ld_287, ld_288, ld_289, ld_290, ld_291, ld_292, ld_293, ld_294, sv_271, sv_272, sv_273, sv_274, sv_275, sv_276, sv_277, sv_278, sv_279, sv_280, sv_281, sv_282, sv_283, sv_284, sv_285, sv_286, sv_287, sv_288, sv_289, sv_290, sv_291, sv_292, sv_293, sv_294, is_270, lp_0, lp_1, lp_2, lp_3, lp_4, lq_0, lq_1, lq_2, lq_3, lq_4, lx_0, ly_0, h21', i_le, Nat.le_refl, C.2.1 2 (by decide), g1]
  | succ q ih =>
    intro i τ l6 l7 l8 l9 l10 l11 h hF hP hE
    have hik : i < k := by omega
    obtain ⟨hs, hb, h2⟩ := hO.2.1 i hik
    have hn := (W.2.1 _ hs).1
    have C := FrL_ShM hF C0
    have hl := phE_le (A := A) W hO hx hy i (by omega)
    have hl1 := phE_le (A := A) W hO hx hy (i + 1) (by omega)
    have pv := pv_le (A := A) W hO hx hy (show i ≤ k by omega)
    have hbg := bgP_le (b := ob i) (pen := pvP P A os i) (dwn := Nat.blt 0 i) W hs h2 pv.1 pv.2
    have h21' : τ 270 21 = Int32.ofNat k := by rw [hF.2 21 (by decide) (by decide)]; exact h21
    obtain ⟨τ1, a1, a2, a3, a4⟩ := km_ly54 (tb := tb) (d := d) (c := c) (t := t) (g := g) (fl := fl) (tg := tg) C W hik hk8 h21' (by rw [hF.1 281 (by omega)]; exact (hor i hik).1) (by rw [hF.1 282 (by omega)]; exact (hor i hik).2) hs hb h2 pv.1 pv.2 (by omega) hP (pen := pvP P A os i) (dwn := Nat.blt 0 i) (l6 := l6) (l7 := l7) (l8 := l8) (l9 := l9) (l10 := l10) (l11 := l11)
    have F1 := FrL_trans hF a2
    have C1 := FrL_ShM F1 C0
    have E1 : EnM P (eoU os (enZ P A os ob) i) τ1 := fun s hs => by rw [a3]; exact hE s hs
    have enb : ∀ j, j < k → enZ P A os ob j ≤ 57286 * 8 := fun j hj => by
      have := (phE_le (A := A) W hO hx hy (j + 1) (by omega)).1
      unfold enZ
      omega
    have hW : tot ((phE P A os ob i).1 ++ bg1 P A os ob i) ≤ 1000000 := by rw [tot_app]; unfold bg1; omega
    have b1 := km_ly256 (tb := tb) (d := d) (c := c) (t := t) (g := g) (fl := fl) (tg := tg) C1 W hs E1 hW (fun v e he => by obtain ⟨j, j1, j2, j3⟩ := eoU_some he; have := enb j (by omega); omega) (l1 := Int32.ofNat (pvX P A os ob i)) (l2 := Int32.ofNat (pvY P A os ob i)) (l3 := pvP P A os i) (l4 := bI (Nat.blt 0 i)) (l5 := Int32.ofNat i) (l7 := Int32.ofNat (ob i)) (l8 := Int32.ofNat (dXn P (os i) (ob i) 0)) (l9 := Int32.ofNat (dYn P (os i) (ob i) 0)) (pM P) 0 (by omega)
    rw [tlU_rd (en := enZ P A os ob) (i := i) (fun j hj => ⟨eoU_at hO (by omega) j hj, (hO.2.1 j (by omega)).1⟩) (fun v e he => by obtain ⟨j, j1, j2, j3⟩ := eoU_some he; exact ⟨j, j1, j2⟩)] at b1
    have hrd : rdU P os (enZ P A os ob) (os i) i ≤ 1000000 := rdU_le fun j hj => by
      have := enb j (by omega)
      have := (W.2.1 _ (hO.2.1 j (by omega)).1).2.2.1
      omega
    have ewt : fL (wtP P (os i) (ob i) (rdU P os (enZ P A os ob) (os i) i - (tot (phE P A os ob i).1 + tot (bg1 P A os ob i)))) = max (tot ((phE P A os ob i).1 ++ bg1 P A os ob i)) (rdU P os (enZ P A os ob) (os i) i) - tot ((phE P A os ob i).1 ++ bg1 P A os ob i) := by
      show rdU P os (enZ P A os ob) (os i) i - (tot (phE P A os ob i).1 + tot (bg1 P A os ob i)) = _
      rw [tot_app]
      omega
    obtain ⟨τ2, g1, g2, g3, g4⟩ := km_phase (tb := tb) (d := d + 4) (c := c) (t := t) (g := g) (fl := fl) (tg := tg) a4 (by rw [List.length_append]; omega) (wtP P (os i) (ob i) (rdU P os (enZ P A os ob) (os i) i - (tot (phE P A os ob i).1 + tot (bg1 P A os ob i)))) (l1 := 4) (l2 := Int32.ofNat (max (tot ((phE P A os ob i).1 ++ bg1 P A os ob i)) (rdU P os (enZ P A os ob) (os i) i)) - Int32.ofNat (tot ((phE P A os ob i).1 ++ bg1 P A os ob i))) (l3 := Int32.ofNat (os i)) (l4 := Int32.ofNat (dXn P (os i) (ob i) 0)) (l5 := Int32.ofNat (dYn P (os i) (ob i) 0)) (l6 := Int32.ofNat (dXn P (os i) (ob i) 0)) (l7 := Int32.ofNat (dYn P (os i) (ob i) 0)) (l8 := Int32.ofNat (pPen P (os i))) rfl (by rw [ewt, i_sub (Nat.le_max_left _ _)]) (encS_lt (by omega)).symm rfl rfl rfl rfl rfl
    have F2 := FrL_trans F1 g3
    have C2 := FrL_ShM F2 C0
    have eq0 : (phE P A os ob i).1 ++ bgP P (os i) (ob i) (pvX P A os ob i) (pvY P A os ob i) (pvP P A os i) (Nat.blt 0 i) = (phE P A os ob i).1 ++ bg1 P A os ob i := rfl
    rw [eq0] at g2 a4
    obtain ⟨τ3, k1, k2, k3, k4⟩ := km_ly347 (tb := tb) (d := d) (c := c) (t := t) (g := g) (fl := fl) (tg := tg) C2 W hs hb h2 (l0 := (phE P A os ob i).1 ++ bg1 P A os ob i ++ [wtP P (os i) (ob i) (rdU P os (enZ P A os ob) (os i) i - (tot (phE P A os ob i).1 + tot (bg1 P A os ob i)))]) (by rw [List.length_append, List.length_append, List.length_singleton]; unfold bg1; omega) (l1 := Int32.ofNat (pvX P A os ob i)) (l2 := Int32.ofNat (pvY P A os ob i)) (l3 := pvP P A os i) (l4 := bI (Nat.blt 0 i)) (l5 := Int32.ofNat i) (l8 := Int32.ofNat (dXn P (os i) (ob i) 0)) (l9 := Int32.ofNat (dYn P (os i) (ob i) 0)) (l10 := Int32.ofNat (max (tot ((phE P A os ob i).1 ++ bg1 P A os ob i)) (rdU P os (enZ P A os ob) (os i) i))) (pN P (os i) - 1) 0 τ2 (by omega) (FrL_refl τ2) rfl (by rw [show pcP P (os i) (ob i) 0 = [] from rfl, List.append_nil]; exact g2)
    have F3 := FrL_trans F2 k2
    have C3 := FrL_ShM F3 C0
    have eql : (phE P A os ob i).1 ++ bg1 P A os ob i ++ [wtP P (os i) (ob i) (rdU P os (enZ P A os ob) (os i) i - (tot (phE P A os ob i).1 + tot (bg1 P A os ob i)))] ++ pcP P (os i) (ob i) (pN P (os i) - 1) = (phE P A os ob (i + 1)).1 := by
      rw [phE_app, blk_eq, ← List.append_assoc, ← List.append_assoc]
    rw [eql] at k4
    have hP4 : PhM (phE P A os ob (i + 1)).1 (up2 τ3 294 (os i) (τ3 270 35)) := PhM_congr (fun a _ _ => up2_row _ _ (by omega)) (up2_n _ _ (by omega)) (up2_n _ _ (by omega)) k4
    have F4 : FrL σ (up2 τ3 294 (os i) (τ3 270 35)) := FrL_trans F3 (FrL_up (by omega))
    have C4 := FrL_ShM F4 C0
    obtain ⟨τ', r1, r2⟩ := ih (i + 1) (up2 τ3 294 (os i) (τ3 270 35)) (.int (Int32.ofNat (os i))) (.int (Int32.ofNat (ob i))) (.int (Int32.ofNat (dXn P (os i) (ob i) 0))) (.int (Int32.ofNat (dYn P (os i) (ob i) 0))) (.int (Int32.ofNat (max (tot ((phE P A os ob i).1 ++ bg1 P A os ob i)) (rdU P os (enZ P A os ob) (os i) i)))) (.int (Int32.ofNat (pN P (os i) - 1))) (by omega) F4 hP4 (fun s hs' => by
      rw [show eoU os (enZ P A os ob) (i + 1) s = if s = os i then some (enZ P A os ob i) else eoU os (enZ P A os ob) i s from rfl]
      by_cases e : s = os i
      · rw [if_pos e, e, up2_s, k4.2.1]; rfl
      · rw [if_neg e, up2_n _ _ (Or.inr e), k3, g4, a3]; exact hE s hs')
    refine ⟨τ', ?_, r2⟩
    rw [a1, a4.2.1]
    refine (Eq.trans ?_ (b1.trans ?_))
    · rfl
    · rw [sg_X7_lay_256]
      simp (disch := omega) only [bq_s, aq_I, aq_R, aq_V, cq_t, cq_f, if_true, if_false, Bool.true_and, Bool.and_true, Bool.or_true, Bool.true_or, gi_270_0, gi_270_10, gi_270_11, gi_270_12, gi_270_13, gi_270_14, gi_270_15, gi_270_21, gi_270_22, gi_270_23, gi_270_34, gi_270_35, gi_270_36, pi_270_0, pi_270_10, pi_270_11, pi_270_12, pi_270_13, pi_270_14, pi_270_15, pi_270_21, pi_270_22, pi_270_23, pi_270_34, pi_270_35, pi_270_36, gr_270_1, gr_270_2, gr_270_3, gr_270_4, gr_270_5, gr_270_6, gr_270_7, gr_270_8, gr_270_9, gr_270_16, gr_270_17, gr_270_18, gr_270_19, gr_270_20, gr_270_24, gr_270_25, gr_270_26, gr_270_27, gr_270_28, gr_270_29, gr_270_30, gr_270_31, gr_270_32, gr_270_33, ld_271, ld_272, ld_273, ld_274, ld_275, ld_276, ld_277, ld_278, ld_279, ld_280, ld_281, ld_282, ld_283, ld_284, ld_285, ld_286, ld_287, ld_288, ld_289, ld_290, ld_291, ld_292, ld_293, ld_294, sv_271, sv_272, sv_273, sv_274, sv_275, sv_276, sv_277, sv_278, sv_279, sv_280, sv_281, sv_282, sv_283, sv_284, sv_285, sv_286, sv_287, sv_288, sv_289, sv_290, sv_291, sv_292, sv_293, sv_294, is_270, C1.1, i_le, Nat.le_refl, (C1.2.2.1 _ hs).2.1, a4.2.1, g1]
      refine k1.trans ?_
      rw [sg_X7_lay_347]
      have hnn : pN P (os i) ≤ pN P (os i) - 1 + 1 := by omega
      have e347 := (C3.2.2.1 _ hs).1
      have e348 := (C4.2.2.1 _ hs).1
      have e349 := (C4.2.2.1 _ hs).2.1
      simp (disch := omega) only [bq_s, aq_I, aq_R, aq_V, cq_t, cq_f, if_true, if_false, Bool.true_and, Bool.and_true, Bool.or_true, Bool.true_or, gi_270_0, gi_270_10, gi_270_11, gi_270_12, gi_270_13, gi_270_14, gi_270_15, gi_270_21, gi_270_22, gi_270_23, gi_270_34, gi_270_35, gi_270_36, pi_270_0, pi_270_10, pi_270_11, pi_270_12, pi_270_13, pi_270_14, pi_270_15, pi_270_21, pi_270_22, pi_270_23, pi_270_34, pi_270_35, pi_270_36, gr_270_1, gr_270_2, gr_270_3, gr_270_4, gr_270_5, gr_270_6, gr_270_7, gr_270_8, gr_270_9, gr_270_16, gr_270_17, gr_270_18, gr_270_19, gr_270_20, gr_270_24, gr_270_25, gr_270_26, gr_270_27, gr_270_28, gr_270_29, gr_270_30, gr_270_31, gr_270_32, gr_270_33, ld_271, ld_272, ld_273, ld_274, ld_275, ld_276, ld_277, ld_278, ld_279, ld_280, ld_281, ld_282, ld_283, ld_284, ld_285, ld_286, ld_287, ld_288, ld_289, ld_290, ld_291, ld_292, ld_293, ld_294, sv_271, sv_272, sv_273, sv_274, sv_275, sv_276, sv_277, sv_278, sv_279, sv_280, sv_281, sv_282, sv_283, sv_284, sv_285, sv_286, sv_287, sv_288, sv_289, sv_290, sv_291, sv_292, sv_293, sv_294, is_270, ia_0, ia_1, is_m0, is_m1, im_8, ml_8, im_11, ml_11, im_12, ml_12, im_88, ml_88, im_89, ml_89, j_lt_0, j_gt_0, j_le_0, j_ge_0, j_eq_0, j_lt_1, j_gt_1, j_le_1, j_ge_1, j_eq_1, j_lt_2, j_gt_2, j_le_2, j_ge_2, j_eq_2, j_lt_3, j_gt_3, j_le_3, j_ge_3, j_eq_3, j_lt_4, j_gt_4, j_le_4, j_ge_4, j_eq_4, j_lt_5, j_gt_5, j_le_5, j_ge_5, j_eq_5, j_lt_6, j_gt_6, j_le_6, j_ge_6, j_eq_6, j_lt_8, j_gt_8, j_le_8, j_ge_8, j_eq_8, j_lt_12, j_gt_12, j_le_12, j_ge_12, j_eq_12, j_lt_209, j_gt_209, j_le_209, j_ge_209, j_eq_209, j_lt_255, j_gt_255, j_le_255, j_ge_255, j_eq_255, j_lt_1000000000, j_gt_1000000000, j_le_1000000000, j_ge_1000000000, j_eq_1000000000, e347, i_le, hnn, e348, e349, km_dx C4 W hs hb, km_dy C4 W hs hb]
      exact r1
theorem km_lyR (W : Wf P) : ∀ q s (τ : dSg) (l2 l3 l4 l5 l6 l7 l8 l9 l10 l11 : Value), s + q = pM P → τ 270 10 = Int32.ofNat (pM P) → ∃ τ', dX tb (d + 5) 123 12 [.ref 270, .int (Int32.ofNat s), l2, l3, l4, l5, l6, l7, l8, l9, l10, l11] [] (c, t, hp g (SH fl tg) τ) = dX tb (d + 5) 123 54 [.ref 270, .int (τ' 270 11), .int (τ' 270 12), .int (τ' 270 13), .int 0, .int 0, l6, l7, l8, l9, l10, l11] [] (c, t, hp g (SH fl tg) (τ')) ∧ (∀ a, a ≠ 294 → τ' a = τ a) ∧ (∀ v, s ≤ v → v < pM P → τ' 294 v = -1) ∧ ∀ v, v < s → τ' 294 v = τ 294 v := by
  have hm := W.1
  intro q
  induction q with
  | zero =>
    intro s τ l2 l3 l4 l5 l6 l7 l8 l9 l10 l11 h h10
    have h1 : pM P ≤ s := by omega
    refine ⟨τ, ?_, fun _ _ => rfl, fun v a b => by omega, fun _ _ => rfl⟩
    rw [sg_X7_lay_12]
    simp (disch := omega) only [bq_s, aq_I, aq_R, aq_V, cq_t, cq_f, if_true, if_false, Bool.true_and, Bool.and_true, Bool.or_true, Bool.true_or, gi_270_0, gi_270_10, gi_270_11, gi_270_12, gi_270_13, gi_270_14, gi_270_15, gi_270_21, gi_270_22, gi_270_23, gi_270_34, gi_270_35, gi_270_36, pi_270_0, pi_270_10, pi_270_11, pi_270_12, pi_270_13, pi_270_14, pi_270_15, pi_270_21, pi_270_22, pi_270_23, pi_270_34, pi_270_35, pi_270_36, gr_270_1, gr_270_2, gr_270_3, gr_270_4, gr_270_5, gr_270_6, gr_270_7, gr_270_8, gr_270_9, gr_270_16, gr_270_17, gr_270_18, gr_270_19, gr_270_20, gr_270_24, gr_270_25, gr_270_26, gr_270_27, gr_270_28, gr_270_29, gr_270_30, gr_270_31, gr_270_32, gr_270_33, ld_271, ld_272, ld_273, ld_274, ld_275, ld_276, ld_277, ld_278, ld_279, ld_280, ld_281, ld_282, ld_283, ld_284, ld_285, ld_286, ld_287, ld_288, ld_289, ld_290, ld_291, ld_292, ld_293, ld_294, sv_271, sv_272, sv_273, sv_274, sv_275, sv_276, sv_277, sv_278, sv_279, sv_280, sv_281, sv_282, sv_283, sv_284, sv_285, sv_286, sv_287, sv_288, sv_289, sv_290, sv_291, sv_292, sv_293, sv_294, is_270, h10, i_le, h1]
  | succ q ih =>
    intro s τ l2 l3 l4 l5 l6 l7 l8 l9 l10 l11 h h10
    have h1 : ¬ pM P ≤ s := by omega
    obtain ⟨τ', e1, e2, e3, e4⟩ := ih (s + 1) (up2 τ 294 s (-1)) l2 l3 l4 l5 l6 l7 l8 l9 l10 l11 (by omega) (by rw [up2_n _ _ (by omega)]; exact h10)
    refine ⟨τ', ?_, fun a ha => by rw [e2 a ha, up2_row _ _ ha], fun v a b => ?_, fun v hv => by rw [e4 v (by omega), up2_n _ _ (by omega)]⟩
    · rw [sg_X7_lay_12]
      simp (disch := omega) only [bq_s, aq_I, aq_R, aq_V, cq_t, cq_f, if_true, if_false, Bool.true_and, Bool.and_true, Bool.or_true, Bool.true_or, gi_270_0, gi_270_10, gi_270_11, gi_270_12, gi_270_13, gi_270_14, gi_270_15, gi_270_21, gi_270_22, gi_270_23, gi_270_34, gi_270_35, gi_270_36, pi_270_0, pi_270_10, pi_270_11, pi_270_12, pi_270_13, pi_270_14, pi_270_15, pi_270_21, pi_270_22, pi_270_23, pi_270_34, pi_270_35, pi_270_36, gr_270_1, gr_270_2, gr_270_3, gr_270_4, gr_270_5, gr_270_6, gr_270_7, gr_270_8, gr_270_9, gr_270_16, gr_270_17, gr_270_18, gr_270_19, gr_270_20, gr_270_24, gr_270_25, gr_270_26, gr_270_27, gr_270_28, gr_270_29, gr_270_30, gr_270_31, gr_270_32, gr_270_33, ld_271, ld_272, ld_273, ld_274, ld_275, ld_276, ld_277, ld_278, ld_279, ld_280, ld_281, ld_282, ld_283, ld_284, ld_285, ld_286, ld_287, ld_288, ld_289, ld_290, ld_291, ld_292, ld_293, ld_294, sv_271, sv_272, sv_273, sv_274, sv_275, sv_276, sv_277, sv_278, sv_279, sv_280, sv_281, sv_282, sv_283, sv_284, sv_285, sv_286, sv_287, sv_288, sv_289, sv_290, sv_291, sv_292, sv_293, sv_294, is_270, ia_0, ia_1, is_m0, is_m1, im_8, ml_8, im_11, ml_11, im_12, ml_12, im_88, ml_88, im_89, ml_89, j_lt_0, j_gt_0, j_le_0, j_ge_0, j_eq_0, j_lt_1, j_gt_1, j_le_1, j_ge_1, j_eq_1, j_lt_2, j_gt_2, j_le_2, j_ge_2, j_eq_2, j_lt_3, j_gt_3, j_le_3, j_ge_3, j_eq_3, j_lt_4, j_gt_4, j_le_4, j_ge_4, j_eq_4, j_lt_5, j_gt_5, j_le_5, j_ge_5, j_eq_5, j_lt_6, j_gt_6, j_le_6, j_ge_6, j_eq_6, j_lt_8, j_gt_8, j_le_8, j_ge_8, j_eq_8, j_lt_12, j_gt_12, j_le_12, j_ge_12, j_eq_12, j_lt_209, j_gt_209, j_le_209, j_ge_209, j_eq_209, j_lt_255, j_gt_255, j_le_255, j_ge_255, j_eq_255, j_lt_1000000000, j_gt_1000000000, j_le_1000000000, j_ge_1000000000, j_eq_1000000000, h10, i_le, h1]
      exact e1
    · by_cases e : v = s
      · subst e; rw [e4 v (by omega), up2_s]
      · exact e3 v (by omega) b
theorem km_lay (C0 : ShM P σ) (W : Wf P) (hA : ArM A σ) {k : Nat} (hO : OkO P os ob k) (h21 : σ 270 21 = Int32.ofNat k) (hor : ∀ i, i < k → σ 281 i = Int32.ofNat (os i) ∧ σ 282 i = Int32.ofNat (ob i)) : ∃ τ', dX tb (d + 5) 123 0 [.ref 270, .null, .null, .null, .null, .null, .null, .null, .null, .null, .null, .null] [] (c, t, hp g (SH fl tg) σ) = some (none, (c, t, hp g (SH fl tg) (τ'))) ∧ FrL σ τ' ∧ PhM (phZ P A os ob k) τ' ∧ EnM P (eoU os (enZ P A os ob) k) τ' := by
  have F0 : FrL σ (up2 (up2 σ 270 34 0) 270 35 0) := FrL_trans (FrL_up (by omega)) (FrL_up (by omega))
  obtain ⟨τ1, a1, a2, a3, a4⟩ := km_lyR (tb := tb) (d := d) (c := c) (t := t) (g := g) (fl := fl) (tg := tg) W (pM P) 0 (up2 (up2 σ 270 34 0) 270 35 0) .null .null .null .null .null .null .null .null .null .null (by omega) (by simp (disch := omega) only [up2_n]; exact C0.1)
  have F1 : FrL (up2 (up2 σ 270 34 0) 270 35 0) τ1 := ⟨fun a ha => a2 a (by omega), fun j _ _ => by rw [a2 270 (by omega)]⟩
  have F := FrL_trans F0 F1
  obtain ⟨q1, q2, q3, q4, q5⟩ := hA
  obtain ⟨τ', b1, b2, b3⟩ := km_lyM (tb := tb) (d := d) (c := c) (t := t) (g := g) (fl := fl) (tg := tg) (A := A) C0 W hO h21 hor q4 q5 k 0 τ1 .null .null .null .null .null .null (by omega) F ⟨by rw [a2 270 (by omega), up2_n _ _ (by omega), up2_s]; rfl, by rw [a2 270 (by omega), up2_s]; rfl, fun p f hp => by cases hp⟩ (fun s hs => by rw [a3 s (by omega) hs]; rfl)
  refine ⟨τ', ?_, b2, b3⟩
  rw [sg_X7_lay_0]
  simp only [bq_s, aq_I, aq_R, aq_V, cq_t, cq_f, if_true, if_false, Bool.true_and, Bool.and_true, Bool.or_true, Bool.true_or, gi_270_0, gi_270_10, gi_270_11, gi_270_12, gi_270_13, gi_270_14, gi_270_15, gi_270_21, gi_270_22, gi_270_23, gi_270_34, gi_270_35, gi_270_36, pi_270_0, pi_270_10, pi_270_11, pi_270_12, pi_270_13, pi_270_14, pi_270_15, pi_270_21, pi_270_22, pi_270_23, pi_270_34, pi_270_35, pi_270_36, gr_270_1, gr_270_2, gr_270_3, gr_270_4, gr_270_5, gr_270_6, gr_270_7, gr_270_8, gr_270_9, gr_270_16, gr_270_17, gr_270_18, gr_270_19, gr_270_20, gr_270_24, gr_270_25, gr_270_26, gr_270_27, gr_270_28, gr_270_29, gr_270_30, gr_270_31, gr_270_32, gr_270_33, ld_271, ld_272, ld_273, ld_274, ld_275, ld_276, ld_277, ld_278, ld_279, ld_280, ld_281, ld_282, ld_283, ld_284, ld_285, ld_286, ld_287, ld_288, ld_289, ld_290, ld_291, ld_292, ld_293, ld_294, sv_271, sv_272, sv_273, sv_274, sv_275, sv_276, sv_277, sv_278, sv_279, sv_280, sv_281, sv_282, sv_283, sv_284, sv_285, sv_286, sv_287, sv_288, sv_289, sv_290, sv_291, sv_292, sv_293, sv_294, is_270]
  refine a1.trans ?_
  rw [a2 270 (by omega)]
  simp (disch := omega) only [up2_n]
  rw [q1, q2, q3]
  exact b1
end ML3
