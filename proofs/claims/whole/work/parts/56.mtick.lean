/-! THE REFERENCE AT A TICK -/
section MTK
variable {tb : dT} {d c t : Nat} {g : Nat → Option dE} {fl : Nat → Bool} {tg : Nat} {σ : dSg} {P : dP} {A : dA}
theorem get_pre {pre post : List dF} {f : dF} : (pre ++ f :: post)[pre.length]? = some f := by
  rw [List.getElem?_append_right (Nat.le_refl _), Nat.sub_self]; rfl
theorem take_pre {pre post : List dF} {f : dF} : (pre ++ f :: post).take pre.length = pre := List.take_left
theorem km_atL {l : List dF} {T : Nat} {pre post : List dF} {f : dF} (h : PhM l σ) (hl : l.length ≤ 209) (h36 : σ 270 36 = Int32.ofNat T) (hT : T ≤ 1000000) (ht : tot l ≤ 1000000) (he : l = pre ++ f :: post) (h1 : tot pre ≤ T) (h2 : T < tot pre + fL f) : ∀ q p, p + q = pre.length → dX tb d 125 2 [.ref 270, .int (Int32.ofNat p)] [] (c, t, hp g (SH fl tg) σ) = some (some (.int (Int32.ofNat pre.length)), (c, t, hp g (SH fl tg) σ)) := by
  obtain ⟨e1, e2, e3⟩ := h
  have hlen : pre.length < l.length := by rw [he, List.length_append, List.length_cons]; omega
  intro q
  induction q with
  | zero =>
    intro p hq
    obtain rfl : p = pre.length := by omega
    obtain ⟨g0, g1, g2, -⟩ := e3 pre.length f (by rw [he]; exact get_pre)
    rw [he, take_pre] at g1
    have hn : ¬ l.length ≤ pre.length := by omega
    have hb : fL f ≤ 1000000 := by rw [he, tot_app] at ht; have : tot (f :: post) = fL f + tot post := rfl; omega
    rw [sg_X7_atHand_2]
    simp (disch := omega) only [bq_s, aq_I, aq_R, aq_V, cq_t, cq_f, if_true, if_false, Bool.true_and, Bool.and_true, Bool.or_true, Bool.true_or, gi_270_0, gi_270_10, gi_270_11, gi_270_12, gi_270_13, gi_270_14, gi_270_15, gi_270_21, gi_270_22, gi_270_23, gi_270_34, gi_270_35, gi_270_36, pi_270_0, pi_270_10, pi_270_11, pi_270_12, pi_270_13, pi_270_14, pi_270_15, pi_270_21, pi_270_22, pi_270_23, pi_270_34, pi_270_35, pi_270_36, gr_270_1, gr_270_2, gr_270_3, gr_270_4, gr_270_5, gr_270_6, gr_270_7, gr_270_8, gr_270_9, gr_270_16, gr_270_17, gr_270_18, gr_270_19, gr_270_20, gr_270_24, gr_270_25, gr_270_26, gr_270_27, gr_270_28, gr_270_29, gr_270_30, gr_270_31, gr_270_32, gr_270_33, ld_271, ld_272, ld_273, ld_274, ld_275, ld_276, ld_277, ld_278, ld_279, ld_280, ld_281, ld_282, ld_283, ld_284, ld_285, ld_286, ld_287, ld_288, ld_289, ld_290, ld_291, ld_292, ld_293, ld_294, sv_271, sv_272, sv_273, sv_274, sv_275, sv_276, sv_277, sv_278, sv_279, sv_280, sv_281, sv_282, sv_283, sv_284, sv_285, sv_286, sv_287, sv_288, sv_289, sv_290, sv_291, sv_292, sv_293, sv_294, is_270, e1, i_le, hn, g1, g2, h36, i_add, i_lt, h2]
  | succ q ih =>
    intro p hq
    have hpp : p < pre.length := by omega
    obtain ⟨f', hf'⟩ : ∃ f', pre[p]? = some f' := ⟨pre[p]'hpp, List.getElem?_eq_getElem hpp⟩
    have hl' : l[p]? = some f' := by rw [he, List.getElem?_append_left hpp]; exact hf'
    obtain ⟨g0, g1, g2, -⟩ := e3 p f' hl'
    have et : l.take p = pre.take p := by rw [he, List.take_append_of_le_length (by omega)]
    rw [et] at g1
    have hsum : tot (pre.take p) + fL f' ≤ tot pre := by
      have := tot_take pre (p + 1)
      rw [take_get hf', tot_app, tot_one] at this
      exact this
    have hn : ¬ l.length ≤ p := by omega
    have hn2 : ¬ T < tot (pre.take p) + fL f' := by omega
    rw [sg_X7_atHand_2]
    simp (disch := omega) only [bq_s, aq_I, aq_R, aq_V, cq_t, cq_f, if_true, if_false, Bool.true_and, Bool.and_true, Bool.or_true, Bool.true_or, gi_270_0, gi_270_10, gi_270_11, gi_270_12, gi_270_13, gi_270_14, gi_270_15, gi_270_21, gi_270_22, gi_270_23, gi_270_34, gi_270_35, gi_270_36, pi_270_0, pi_270_10, pi_270_11, pi_270_12, pi_270_13, pi_270_14, pi_270_15, pi_270_21, pi_270_22, pi_270_23, pi_270_34, pi_270_35, pi_270_36, gr_270_1, gr_270_2, gr_270_3, gr_270_4, gr_270_5, gr_270_6, gr_270_7, gr_270_8, gr_270_9, gr_270_16, gr_270_17, gr_270_18, gr_270_19, gr_270_20, gr_270_24, gr_270_25, gr_270_26, gr_270_27, gr_270_28, gr_270_29, gr_270_30, gr_270_31, gr_270_32, gr_270_33, ld_271, ld_272, ld_273, ld_274, ld_275, ld_276, ld_277, ld_278, ld_279, ld_280, ld_281, ld_282, ld_283, ld_284, ld_285, ld_286, ld_287, ld_288, ld_289, ld_290, ld_291, ld_292, ld_293, ld_294, sv_271, sv_272, sv_273, sv_274, sv_275, sv_276, sv_277, sv_278, sv_279, sv_280, sv_281, sv_282, sv_283, sv_284, sv_285, sv_286, sv_287, sv_288, sv_289, sv_290, sv_291, sv_292, sv_293, sv_294, is_270, e1, i_le, hn, g1, g2, h36, i_add, i_lt, hn2, ia_1]
    exact ih (p + 1) (by omega)
theorem km_at {l : List dF} {T : Nat} {pre post : List dF} {f : dF} (h : PhM l σ) (hl : l.length ≤ 209) (h36 : σ 270 36 = Int32.ofNat T) (hT : T ≤ 1000000) (ht : tot l ≤ 1000000) (he : l = pre ++ f :: post) (h1 : tot pre ≤ T) (h2 : T < tot pre + fL f) : dX tb d 125 0 [.ref 270, .null] [] (c, t, hp g (SH fl tg) σ) = some (some (.int (Int32.ofNat pre.length)), (c, t, hp g (SH fl tg) σ)) := by
  rw [sg_X7_atHand_0]
  exact km_atL h hl h36 hT ht he h1 h2 pre.length 0 (by omega)
theorem i_mn {T w a : Nat} (hT : T ≤ 1000000) (hw : w ≤ 1000000) (ha : a ≤ 1000000) : (if Int32.ofNat T - Int32.ofNat w < Int32.ofNat a then Int32.ofNat T - Int32.ofNat w else Int32.ofNat a) = if w ≤ T then Int32.ofNat (min a (T - w)) else Int32.ofInt ((T : Int) - w) := by
  by_cases q : w ≤ T
  · rw [if_pos q, i_sub q, i_min (by omega) (by omega)]
  · rw [if_neg q, i_sI, ← Int32.ofInt_eq_ofNat, if_pos (by rw [z_lt (by omega) (by omega)]; omega)]
theorem km_uin (C : ShM P σ) (W : Wf P) {l : List dF} {T p : Nat} {f : dF} (h : PhM l σ) (hl : l.length ≤ 209) (h36 : σ 270 36 = Int32.ofNat T) (hT : T ≤ 1000000) (ht : tot l ≤ 1000000) (hf : l[p]? = some f) (hk : fK f ≤ 6) : dX tb (d + 1) 126 0 [.ref 270, .int (Int32.ofNat p), .null] [] (c, t, hp g (SH fl tg) σ) = some (some (.int (Int32.ofNat (min (fL f) (T - tot (l.take p)) / (if fK f = 5 then pPr P 0 else pPr P 1)))), (c, t, hp g (SH fl tg) σ)) := by
  obtain ⟨e1, e2, e3⟩ := h
  obtain ⟨g0, g1, g2, -⟩ := e3 p f hf
  have hpl : p < 209 := by
    obtain ⟨q, -⟩ := List.getElem?_eq_some_iff.mp hf
    omega
  have hw := tot_take l p
  have hfl : fL f ≤ 1000000 := by
    have := tot_take l (p + 1)
    rw [take_get hf, tot_app, tot_one] at this
    omega
  have c0 := C.2.1 0 (by decide)
  have c1 := C.2.1 1 (by decide)
  have w0 := W.2.2.1
  have w1 := W.2.2.2.1
  rw [sg_X7_unitsIn_0]
  simp (disch := omega) only [bq_s, aq_I, aq_R, aq_V, cq_t, cq_f, if_true, if_false, Bool.true_and, Bool.and_true, Bool.or_true, Bool.true_or, gi_270_0, gi_270_10, gi_270_11, gi_270_12, gi_270_13, gi_270_14, gi_270_15, gi_270_21, gi_270_22, gi_270_23, gi_270_34, gi_270_35, gi_270_36, pi_270_0, pi_270_10, pi_270_11, pi_270_12, pi_270_13, pi_270_14, pi_270_15, pi_270_21, pi_270_22, pi_270_23, pi_270_34, pi_270_35, pi_270_36, gr_270_1, gr_270_2, gr_270_3, gr_270_4, gr_270_5, gr_270_6, gr_270_7, gr_270_8, gr_270_9, gr_270_16, gr_270_17, gr_270_18, gr_270_19, gr_270_20, gr_270_24, gr_270_25, gr_270_26, gr_270_27, gr_270_28, gr_270_29, gr_270_30, gr_270_31, gr_270_32, gr_270_33, ld_271, ld_272, ld_273, ld_274, ld_275, ld_276, ld_277, ld_278, ld_279, ld_280, ld_281, ld_282, ld_283, ld_284, ld_285, ld_286, ld_287, ld_288, ld_289, ld_290, ld_291, ld_292, ld_293, ld_294, sv_271, sv_272, sv_273, sv_274, sv_275, sv_276, sv_277, sv_278, sv_279, sv_280, sv_281, sv_282, sv_283, sv_284, sv_285, sv_286, sv_287, sv_288, sv_289, sv_290, sv_291, sv_292, sv_293, sv_294, is_270, g0, g1, g2, h36, i_mn]
  by_cases q : tot (l.take p) ≤ T
  · rw [if_pos q]
    by_cases q2 : 0 < min (fL f) (T - tot (l.take p))
    · rw [if_pos (by rw [j_gt_0 (by omega)]; exact q2)]
      by_cases q3 : fK f = 5
      · simp (disch := omega) only [bq_s, aq_I, aq_R, aq_V, cq_t, cq_f, if_true, if_false, Bool.true_and, Bool.and_true, Bool.or_true, Bool.true_or, gi_270_0, gi_270_10, gi_270_11, gi_270_12, gi_270_13, gi_270_14, gi_270_15, gi_270_21, gi_270_22, gi_270_23, gi_270_34, gi_270_35, gi_270_36, pi_270_0, pi_270_10, pi_270_11, pi_270_12, pi_270_13, pi_270_14, pi_270_15, pi_270_21, pi_270_22, pi_270_23, pi_270_34, pi_270_35, pi_270_36, gr_270_1, gr_270_2, gr_270_3, gr_270_4, gr_270_5, gr_270_6, gr_270_7, gr_270_8, gr_270_9, gr_270_16, gr_270_17, gr_270_18, gr_270_19, gr_270_20, gr_270_24, gr_270_25, gr_270_26, gr_270_27, gr_270_28, gr_270_29, gr_270_30, gr_270_31, gr_270_32, gr_270_33, ld_271, ld_272, ld_273, ld_274, ld_275, ld_276, ld_277, ld_278, ld_279, ld_280, ld_281, ld_282, ld_283, ld_284, ld_285, ld_286, ld_287, ld_288, ld_289, ld_290, ld_291, ld_292, ld_293, ld_294, sv_271, sv_272, sv_273, sv_274, sv_275, sv_276, sv_277, sv_278, sv_279, sv_280, sv_281, sv_282, sv_283, sv_284, sv_285, sv_286, sv_287, sv_288, sv_289, sv_290, sv_291, sv_292, sv_293, sv_294, is_270, lp_0, lp_1, lp_2, lp_3, lp_4, lq_0, lq_1, lq_2, lq_3, lq_4, lx_0, ly_0, j_eq_5, j_eq_0, q3, c0, c1, show ¬ pPr P 0 = 0 by omega]
        rw [← Int32.ofNat_div (by omega) (by omega)]
      · simp (disch := omega) only [bq_s, aq_I, aq_R, aq_V, cq_t, cq_f, if_true, if_false, Bool.true_and, Bool.and_true, Bool.or_true, Bool.true_or, gi_270_0, gi_270_10, gi_270_11, gi_270_12, gi_270_13, gi_270_14, gi_270_15, gi_270_21, gi_270_22, gi_270_23, gi_270_34, gi_270_35, gi_270_36, pi_270_0, pi_270_10, pi_270_11, pi_270_12, pi_270_13, pi_270_14, pi_270_15, pi_270_21, pi_270_22, pi_270_23, pi_270_34, pi_270_35, pi_270_36, gr_270_1, gr_270_2, gr_270_3, gr_270_4, gr_270_5, gr_270_6, gr_270_7, gr_270_8, gr_270_9, gr_270_16, gr_270_17, gr_270_18, gr_270_19, gr_270_20, gr_270_24, gr_270_25, gr_270_26, gr_270_27, gr_270_28, gr_270_29, gr_270_30, gr_270_31, gr_270_32, gr_270_33, ld_271, ld_272, ld_273, ld_274, ld_275, ld_276, ld_277, ld_278, ld_279, ld_280, ld_281, ld_282, ld_283, ld_284, ld_285, ld_286, ld_287, ld_288, ld_289, ld_290, ld_291, ld_292, ld_293, ld_294, sv_271, sv_272, sv_273, sv_274, sv_275, sv_276, sv_277, sv_278, sv_279, sv_280, sv_281, sv_282, sv_283, sv_284, sv_285, sv_286, sv_287, sv_288, sv_289, sv_290, sv_291, sv_292, sv_293, sv_294, is_270, lp_0, lp_1, lp_2, lp_3, lp_4, lq_0, lq_1, lq_2, lq_3, lq_4, lx_0, ly_0, j_eq_5, j_eq_0, q3, c0, c1, show ¬ pPr P 1 = 0 by omega]
        rw [← Int32.ofNat_div (by omega) (by omega)]
    · rw [if_neg (by rw [j_gt_0 (by omega)]; exact q2), show min (fL f) (T - tot (l.take p)) = 0 by omega, Nat.zero_div]; rfl
  · rw [if_neg q, if_neg (by rw [z_0, z_lt (by omega) (by omega)]; omega), show T - tot (l.take p) = 0 by omega, Nat.min_zero, Nat.zero_div]; rfl
theorem okF_way {z : dZ} {f : dF} (h : okF P z f) : wayN (fX f) (fY f) (gX f) (gY f) = fW f := by
  unfold fW
  by_cases q : fK f = 2 ∨ fK f = 5
  · rw [if_pos q]
  · rw [if_neg q]
    obtain ⟨a, b⟩ := h.2.2.2.2.2.2.2.1 (by omega) (by omega)
    rw [a, b]
    exact way_0.mpr ⟨rfl, rfl⟩
theorem km_wh (C : ShM P σ) (W : Wf P) {l : List dF} {T p : Nat} {f : dF} {z : dZ} (h : PhM l σ) (hl : l.length ≤ 209) (h36 : σ 270 36 = Int32.ofNat T) (hT : T ≤ 1000000) (ht : tot l ≤ 1000000) (hf : l[p]? = some f) (ho : okF P z f) (h1 : tot (l.take p) ≤ T) (h2 : T < tot (l.take p) + fL f) : dX tb (d + 2) 127 0 [.ref 270, .int (Int32.ofNat p), .int 0, .null, .null, .null] [] (c, t, hp g (SH fl tg) σ) = some (some (.int (whI (fX f) (gX f) (fW f) ((T - tot (l.take p)) / fU P f))), (c, t, hp g (SH fl tg) σ)) ∧ dX tb (d + 2) 127 0 [.ref 270, .int (Int32.ofNat p), .int 1, .null, .null, .null] [] (c, t, hp g (SH fl tg) σ) = some (some (.int (whI (fY f) (gY f) (fW f) ((T - tot (l.take p)) / fU P f))), (c, t, hp g (SH fl tg) σ)) := by
  have hpl : p < 209 := by
    obtain ⟨q, -⟩ := List.getElem?_eq_some_iff.mp hf
    omega
  obtain ⟨b1, b2, b3, b4⟩ := ho.2.2.2.2.2.2.2.2.2.2.2.2
  have hu := km_uin (tb := tb) (d := d) (c := c) (t := t) (g := g) (fl := fl) (tg := tg) C W h hl h36 hT ht hf ho.1
  rw [Nat.min_eq_right (by omega)] at hu
  obtain ⟨g0, g1, g2, g3, g4, g5, g6, g7, g8⟩ := h.2.2 p f hf
  have hW := fW_le ho
  have ew := okF_way ho
  have eu : fW f ≠ 0 → (if fK f = 5 then pPr P 0 else pPr P 1) = fU P f := by
    intro hn
    unfold fW at hn
    unfold fU
    by_cases q5 : fK f = 5
    · rw [if_pos q5, if_neg (by omega), if_pos q5]
    · by_cases q2 : fK f = 2
      · rw [if_neg q5, if_pos q2]
      · rw [if_neg (by omega)] at hn; exact absurd rfl hn
  constructor
  · rw [sg_X7_where_0]
    simp only [show ((0 : Int32) = 0) = True from eq_true rfl, if_true]
    simp (maxSteps := 1000000) (disch := omega) only [bq_s, aq_I, aq_R, aq_V, cq_t, cq_f, if_true, if_false, Bool.true_and, Bool.and_true, Bool.or_true, Bool.true_or, gi_270_0, gi_270_10, gi_270_11, gi_270_12, gi_270_13, gi_270_14, gi_270_15, gi_270_21, gi_270_22, gi_270_23, gi_270_34, gi_270_35, gi_270_36, pi_270_0, pi_270_10, pi_270_11, pi_270_12, pi_270_13, pi_270_14, pi_270_15, pi_270_21, pi_270_22, pi_270_23, pi_270_34, pi_270_35, pi_270_36, gr_270_1, gr_270_2, gr_270_3, gr_270_4, gr_270_5, gr_270_6, gr_270_7, gr_270_8, gr_270_9, gr_270_16, gr_270_17, gr_270_18, gr_270_19, gr_270_20, gr_270_24, gr_270_25, gr_270_26, gr_270_27, gr_270_28, gr_270_29, gr_270_30, gr_270_31, gr_270_32, gr_270_33, ld_271, ld_272, ld_273, ld_274, ld_275, ld_276, ld_277, ld_278, ld_279, ld_280, ld_281, ld_282, ld_283, ld_284, ld_285, ld_286, ld_287, ld_288, ld_289, ld_290, ld_291, ld_292, ld_293, ld_294, sv_271, sv_272, sv_273, sv_274, sv_275, sv_276, sv_277, sv_278, sv_279, sv_280, sv_281, sv_282, sv_283, sv_284, sv_285, sv_286, sv_287, sv_288, sv_289, sv_290, sv_291, sv_292, sv_293, sv_294, is_270, g4, g5, g6, g7, sg_X7_way_0, i_way b1 b2 b3 b4, ew, j_eq_0]
    unfold whI
    by_cases q : fW f = 0
    · rw [if_pos q, if_pos q]
    · rw [if_neg q, if_neg q]
      simp only [bq_s, aq_I, aq_R, aq_V, cq_t, cq_f, if_true, if_false, Bool.true_and, Bool.and_true, Bool.or_true, Bool.true_or, gi_270_0, gi_270_10, gi_270_11, gi_270_12, gi_270_13, gi_270_14, gi_270_15, gi_270_21, gi_270_22, gi_270_23, gi_270_34, gi_270_35, gi_270_36, pi_270_0, pi_270_10, pi_270_11, pi_270_12, pi_270_13, pi_270_14, pi_270_15, pi_270_21, pi_270_22, pi_270_23, pi_270_34, pi_270_35, pi_270_36, gr_270_1, gr_270_2, gr_270_3, gr_270_4, gr_270_5, gr_270_6, gr_270_7, gr_270_8, gr_270_9, gr_270_16, gr_270_17, gr_270_18, gr_270_19, gr_270_20, gr_270_24, gr_270_25, gr_270_26, gr_270_27, gr_270_28, gr_270_29, gr_270_30, gr_270_31, gr_270_32, gr_270_33, ld_271, ld_272, ld_273, ld_274, ld_275, ld_276, ld_277, ld_278, ld_279, ld_280, ld_281, ld_282, ld_283, ld_284, ld_285, ld_286, ld_287, ld_288, ld_289, ld_290, ld_291, ld_292, ld_293, ld_294, sv_271, sv_272, sv_273, sv_274, sv_275, sv_276, sv_277, sv_278, sv_279, sv_280, sv_281, sv_282, sv_283, sv_284, sv_285, sv_286, sv_287, sv_288, sv_289, sv_290, sv_291, sv_292, sv_293, sv_294, is_270, hu, q]
      rw [eu q]
  · rw [sg_X7_where_0]
    simp only [show ((1 : Int32) = 0) = False from eq_false (by decide), if_false]
    simp (maxSteps := 1000000) (disch := omega) only [bq_s, aq_I, aq_R, aq_V, cq_t, cq_f, if_true, if_false, Bool.true_and, Bool.and_true, Bool.or_true, Bool.true_or, gi_270_0, gi_270_10, gi_270_11, gi_270_12, gi_270_13, gi_270_14, gi_270_15, gi_270_21, gi_270_22, gi_270_23, gi_270_34, gi_270_35, gi_270_36, pi_270_0, pi_270_10, pi_270_11, pi_270_12, pi_270_13, pi_270_14, pi_270_15, pi_270_21, pi_270_22, pi_270_23, pi_270_34, pi_270_35, pi_270_36, gr_270_1, gr_270_2, gr_270_3, gr_270_4, gr_270_5, gr_270_6, gr_270_7, gr_270_8, gr_270_9, gr_270_16, gr_270_17, gr_270_18, gr_270_19, gr_270_20, gr_270_24, gr_270_25, gr_270_26, gr_270_27, gr_270_28, gr_270_29, gr_270_30, gr_270_31, gr_270_32, gr_270_33, ld_271, ld_272, ld_273, ld_274, ld_275, ld_276, ld_277, ld_278, ld_279, ld_280, ld_281, ld_282, ld_283, ld_284, ld_285, ld_286, ld_287, ld_288, ld_289, ld_290, ld_291, ld_292, ld_293, ld_294, sv_271, sv_272, sv_273, sv_274, sv_275, sv_276, sv_277, sv_278, sv_279, sv_280, sv_281, sv_282, sv_283, sv_284, sv_285, sv_286, sv_287, sv_288, sv_289, sv_290, sv_291, sv_292, sv_293, sv_294, is_270, g4, g5, g6, g7, sg_X7_way_0, i_way b1 b2 b3 b4, ew, j_eq_0]
    unfold whI
    by_cases q : fW f = 0
    · rw [if_pos q, if_pos q]
    · rw [if_neg q, if_neg q]
      simp only [bq_s, aq_I, aq_R, aq_V, cq_t, cq_f, if_true, if_false, Bool.true_and, Bool.and_true, Bool.or_true, Bool.true_or, gi_270_0, gi_270_10, gi_270_11, gi_270_12, gi_270_13, gi_270_14, gi_270_15, gi_270_21, gi_270_22, gi_270_23, gi_270_34, gi_270_35, gi_270_36, pi_270_0, pi_270_10, pi_270_11, pi_270_12, pi_270_13, pi_270_14, pi_270_15, pi_270_21, pi_270_22, pi_270_23, pi_270_34, pi_270_35, pi_270_36, gr_270_1, gr_270_2, gr_270_3, gr_270_4, gr_270_5, gr_270_6, gr_270_7, gr_270_8, gr_270_9, gr_270_16, gr_270_17, gr_270_18, gr_270_19, gr_270_20, gr_270_24, gr_270_25, gr_270_26, gr_270_27, gr_270_28, gr_270_29, gr_270_30, gr_270_31, gr_270_32, gr_270_33, ld_271, ld_272, ld_273, ld_274, ld_275, ld_276, ld_277, ld_278, ld_279, ld_280, ld_281, ld_282, ld_283, ld_284, ld_285, ld_286, ld_287, ld_288, ld_289, ld_290, ld_291, ld_292, ld_293, ld_294, sv_271, sv_272, sv_273, sv_274, sv_275, sv_276, sv_277, sv_278, sv_279, sv_280, sv_281, sv_282, sv_283, sv_284, sv_285, sv_286, sv_287, sv_288, sv_289, sv_290, sv_291, sv_292, sv_293, sv_294, is_270, hu, q]
      rw [eu q]
theorem encS_eq {u s : Nat} (hs : s < 8) (hu : u ≤ 8) : (encS u = Int32.ofNat s) = (u = s) := by
  by_cases q : u = 8
  · subst q
    rw [show encS 8 = -1 from rfl]
    refine propext ⟨fun z => ?_, fun z => by omega⟩
    have : (Int32.ofNat s = -1) := z.symm
    rw [n_m1 (by omega)] at this
    exact this.elim
  · rw [encS_ne q, i_eq (by omega) (by omega)]
theorem km_unL (C : ShM P σ) (W : Wf P) {l : List dF} {T s : Nat} (h : PhM l σ) (hl : l.length ≤ 209) (h36 : σ 270 36 = Int32.ofNat T) (hT : T ≤ 1000000) (ht : tot l ≤ 1000000) (hs : s < 8) (hk : ∀ f, f ∈ l → fK f ≤ 6 ∧ fS f ≤ 8) : ∀ q p a, p + q = l.length → dX tb (d + 2) 130 4 [.ref 270, .int (Int32.ofNat s), .int (Int32.ofNat a), .int (Int32.ofNat p)] [] (c, t, hp g (SH fl tg) σ) = some (some (.int (Int32.ofNat (a + unT P s T (tot (l.take p)) (l.drop p)))), (c, t, hp g (SH fl tg) σ)) := by
  obtain ⟨e1, e2, e3⟩ := h
  intro q
  induction q with
  | zero =>
    intro p a hq
    have hn : l.length ≤ p := by omega
    rw [sg_X7_unitsOf_4, List.drop_eq_nil_of_le hn]
    simp (disch := omega) only [bq_s, aq_I, aq_R, aq_V, cq_t, cq_f, if_true, if_false, Bool.true_and, Bool.and_true, Bool.or_true, Bool.true_or, gi_270_0, gi_270_10, gi_270_11, gi_270_12, gi_270_13, gi_270_14, gi_270_15, gi_270_21, gi_270_22, gi_270_23, gi_270_34, gi_270_35, gi_270_36, pi_270_0, pi_270_10, pi_270_11, pi_270_12, pi_270_13, pi_270_14, pi_270_15, pi_270_21, pi_270_22, pi_270_23, pi_270_34, pi_270_35, pi_270_36, gr_270_1, gr_270_2, gr_270_3, gr_270_4, gr_270_5, gr_270_6, gr_270_7, gr_270_8, gr_270_9, gr_270_16, gr_270_17, gr_270_18, gr_270_19, gr_270_20, gr_270_24, gr_270_25, gr_270_26, gr_270_27, gr_270_28, gr_270_29, gr_270_30, gr_270_31, gr_270_32, gr_270_33, ld_271, ld_272, ld_273, ld_274, ld_275, ld_276, ld_277, ld_278, ld_279, ld_280, ld_281, ld_282, ld_283, ld_284, ld_285, ld_286, ld_287, ld_288, ld_289, ld_290, ld_291, ld_292, ld_293, ld_294, sv_271, sv_272, sv_273, sv_274, sv_275, sv_276, sv_277, sv_278, sv_279, sv_280, sv_281, sv_282, sv_283, sv_284, sv_285, sv_286, sv_287, sv_288, sv_289, sv_290, sv_291, sv_292, sv_293, sv_294, is_270, e1, i_le, hn]
    rfl
  | succ q ih =>
    intro p a hq
    have hn : ¬ l.length ≤ p := by omega
    obtain ⟨f, hf⟩ : ∃ f, l[p]? = some f := ⟨l[p]'(by omega), List.getElem?_eq_getElem (by omega)⟩
    obtain ⟨g0, g1, g2, g3, -⟩ := e3 p f hf
    obtain ⟨hk6, hk8⟩ := hk f (List.mem_of_getElem? hf)
    have hu := km_uin (tb := tb) (d := d) (c := c) (t := t) (g := g) (fl := fl) (tg := tg) C W ⟨e1, e2, e3⟩ hl h36 hT ht hf hk6
    have nx := fun a => ih (p + 1) a (by omega)
    rw [take_get hf, tot_app, tot_one] at nx
    have ed : unT P s T (tot (l.take p)) (l.drop p) = (bif isD s f then min (fL f) (T - tot (l.take p)) / pPr P 0 else 0) + unT P s T (tot (l.take p) + fL f) (l.drop (p + 1)) := by rw [drop_get hf]; rfl
    rw [ed, sg_X7_unitsOf_4]
    simp (disch := omega) only [bq_s, aq_I, aq_R, aq_V, cq_t, cq_f, if_true, if_false, Bool.true_and, Bool.and_true, Bool.or_true, Bool.true_or, gi_270_0, gi_270_10, gi_270_11, gi_270_12, gi_270_13, gi_270_14, gi_270_15, gi_270_21, gi_270_22, gi_270_23, gi_270_34, gi_270_35, gi_270_36, pi_270_0, pi_270_10, pi_270_11, pi_270_12, pi_270_13, pi_270_14, pi_270_15, pi_270_21, pi_270_22, pi_270_23, pi_270_34, pi_270_35, pi_270_36, gr_270_1, gr_270_2, gr_270_3, gr_270_4, gr_270_5, gr_270_6, gr_270_7, gr_270_8, gr_270_9, gr_270_16, gr_270_17, gr_270_18, gr_270_19, gr_270_20, gr_270_24, gr_270_25, gr_270_26, gr_270_27, gr_270_28, gr_270_29, gr_270_30, gr_270_31, gr_270_32, gr_270_33, ld_271, ld_272, ld_273, ld_274, ld_275, ld_276, ld_277, ld_278, ld_279, ld_280, ld_281, ld_282, ld_283, ld_284, ld_285, ld_286, ld_287, ld_288, ld_289, ld_290, ld_291, ld_292, ld_293, ld_294, sv_271, sv_272, sv_273, sv_274, sv_275, sv_276, sv_277, sv_278, sv_279, sv_280, sv_281, sv_282, sv_283, sv_284, sv_285, sv_286, sv_287, sv_288, sv_289, sv_290, sv_291, sv_292, sv_293, sv_294, is_270, ia_0, ia_1, is_m0, is_m1, im_8, ml_8, im_11, ml_11, im_12, ml_12, im_88, ml_88, im_89, ml_89, j_lt_0, j_gt_0, j_le_0, j_ge_0, j_eq_0, j_lt_1, j_gt_1, j_le_1, j_ge_1, j_eq_1, j_lt_2, j_gt_2, j_le_2, j_ge_2, j_eq_2, j_lt_3, j_gt_3, j_le_3, j_ge_3, j_eq_3, j_lt_4, j_gt_4, j_le_4, j_ge_4, j_eq_4, j_lt_5, j_gt_5, j_le_5, j_ge_5, j_eq_5, j_lt_6, j_gt_6, j_le_6, j_ge_6, j_eq_6, j_lt_8, j_gt_8, j_le_8, j_ge_8, j_eq_8, j_lt_12, j_gt_12, j_le_12, j_ge_12, j_eq_12, j_lt_209, j_gt_209, j_le_209, j_ge_209, j_eq_209, j_lt_255, j_gt_255, j_le_255, j_ge_255, j_eq_255, j_lt_1000000000, j_gt_1000000000, j_le_1000000000, j_ge_1000000000, j_eq_1000000000, e1, i_le, hn, g3, g0, encS_eq, hu, i_add]
    by_cases q1 : fS f = s
    · rw [if_pos q1]
      by_cases q2 : fK f = 5
      · rw [if_pos q2, if_pos q2, isD_iff.mpr ⟨q2, q1⟩, cond_true, ← Nat.add_assoc]
        exact nx _
      · rw [if_neg q2, isD_f (fun w => q2 w.1), cond_false, Nat.zero_add]
        exact nx _
    · rw [if_neg q1, isD_f (fun w => q1 w.2), cond_false, Nat.zero_add]
      exact nx _
theorem km_un (C : ShM P σ) (W : Wf P) {l : List dF} {T s : Nat} (h : PhM l σ) (hl : l.length ≤ 209) (h36 : σ 270 36 = Int32.ofNat T) (hT : T ≤ 1000000) (ht : tot l ≤ 1000000) (hs : s < 8) (hk : ∀ f, f ∈ l → fK f ≤ 6 ∧ fS f ≤ 8) : dX tb (d + 2) 130 0 [.ref 270, .int (Int32.ofNat s), .null, .null] [] (c, t, hp g (SH fl tg) σ) = some (some (.int (Int32.ofNat (unT P s T 0 l))), (c, t, hp g (SH fl tg) σ)) := by
  rw [sg_X7_unitsOf_0]
  have := km_unL (tb := tb) (d := d) (c := c) (t := t) (g := g) (fl := fl) (tg := tg) C W h hl h36 hT ht hs hk l.length 0 0 (by omega)
  rw [Nat.zero_add] at this
  exact this
theorem km_wtL {l : List dF} {T : Nat} {l1 l2 : Int32} (h : PhM l σ) (hl : l.length ≤ 209) (h36 : σ 270 36 = Int32.ofNat T) (hT : T ≤ 1000000) (ht : tot l ≤ 1000000) (hk : ∀ f, f ∈ l → fK f ≤ 6) : ∀ q p a, p + q = l.length → dX tb (d + 1) 132 190 [.ref 270, .int l1, .int l2, .int (Int32.ofNat a), .int (Int32.ofNat p)] [] (c, t, hp g (SH fl tg) σ) = some (some (.int (Int32.ofNat (a + wtT T (tot (l.take p)) (l.drop p)))), (c, t, hp g (SH fl tg) σ)) := by
  obtain ⟨e1, e2, e3⟩ := h
  intro q
  induction q with
  | zero =>
    intro p a hq
    have hn : l.length ≤ p := by omega
    rw [sg_X7_arm_190, List.drop_eq_nil_of_le hn]
    simp (disch := omega) only [bq_s, aq_I, aq_R, aq_V, cq_t, cq_f, if_true, if_false, Bool.true_and, Bool.and_true, Bool.or_true, Bool.true_or, gi_270_0, gi_270_10, gi_270_11, gi_270_12, gi_270_13, gi_270_14, gi_270_15, gi_270_21, gi_270_22, gi_270_23, gi_270_34, gi_270_35, gi_270_36, pi_270_0, pi_270_10, pi_270_11, pi_270_12, pi_270_13, pi_270_14, pi_270_15, pi_270_21, pi_270_22, pi_270_23, pi_270_34, pi_270_35, pi_270_36, gr_270_1, gr_270_2, gr_270_3, gr_270_4, gr_270_5, gr_270_6, gr_270_7, gr_270_8, gr_270_9, gr_270_16, gr_270_17, gr_270_18, gr_270_19, gr_270_20, gr_270_24, gr_270_25, gr_270_26, gr_270_27, gr_270_28, gr_270_29, gr_270_30, gr_270_31, gr_270_32, gr_270_33, ld_271, ld_272, ld_273, ld_274, ld_275, ld_276, ld_277, ld_278, ld_279, ld_280, ld_281, ld_282, ld_283, ld_284, ld_285, ld_286, ld_287, ld_288, ld_289, ld_290, ld_291, ld_292, ld_293, ld_294, sv_271, sv_272, sv_273, sv_274, sv_275, sv_276, sv_277, sv_278, sv_279, sv_280, sv_281, sv_282, sv_283, sv_284, sv_285, sv_286, sv_287, sv_288, sv_289, sv_290, sv_291, sv_292, sv_293, sv_294, is_270, e1, i_le, hn]
    rfl
  | succ q ih =>
    intro p a hq
    have hn : ¬ l.length ≤ p := by omega
    obtain ⟨f, hf⟩ : ∃ f, l[p]? = some f := ⟨l[p]'(by omega), List.getElem?_eq_getElem (by omega)⟩
    obtain ⟨g0, g1, g2, g3, -⟩ := e3 p f hf
    have hk6 := hk f (List.mem_of_getElem? hf)
    have hw := tot_take l p
    have hfl : fL f ≤ 1000000 := by
      have := tot_take l (p + 1)
      rw [take_get hf, tot_app, tot_one] at this
      omega
    have nx := fun a => ih (p + 1) a (by omega)
    rw [take_get hf, tot_app, tot_one] at nx
    have ed : wtT T (tot (l.take p)) (l.drop p) = (if fK f = 4 then min (fL f) (T - tot (l.take p)) else 0) + wtT T (tot (l.take p) + fL f) (l.drop (p + 1)) := by rw [drop_get hf]; rfl
    rw [ed, sg_X7_arm_190]
    simp (disch := omega) only [bq_s, aq_I, aq_R, aq_V, cq_t, cq_f, if_true, if_false, Bool.true_and, Bool.and_true, Bool.or_true, Bool.true_or, gi_270_0, gi_270_10, gi_270_11, gi_270_12, gi_270_13, gi_270_14, gi_270_15, gi_270_21, gi_270_22, gi_270_23, gi_270_34, gi_270_35, gi_270_36, pi_270_0, pi_270_10, pi_270_11, pi_270_12, pi_270_13, pi_270_14, pi_270_15, pi_270_21, pi_270_22, pi_270_23, pi_270_34, pi_270_35, pi_270_36, gr_270_1, gr_270_2, gr_270_3, gr_270_4, gr_270_5, gr_270_6, gr_270_7, gr_270_8, gr_270_9, gr_270_16, gr_270_17, gr_270_18, gr_270_19, gr_270_20, gr_270_24, gr_270_25, gr_270_26, gr_270_27, gr_270_28, gr_270_29, gr_270_30, gr_270_31, gr_270_32, gr_270_33, ld_271, ld_272, ld_273, ld_274, ld_275, ld_276, ld_277, ld_278, ld_279, ld_280, ld_281, ld_282, ld_283, ld_284, ld_285, ld_286, ld_287, ld_288, ld_289, ld_290, ld_291, ld_292, ld_293, ld_294, sv_271, sv_272, sv_273, sv_274, sv_275, sv_276, sv_277, sv_278, sv_279, sv_280, sv_281, sv_282, sv_283, sv_284, sv_285, sv_286, sv_287, sv_288, sv_289, sv_290, sv_291, sv_292, sv_293, sv_294, is_270, ia_0, ia_1, is_m0, is_m1, im_8, ml_8, im_11, ml_11, im_12, ml_12, im_88, ml_88, im_89, ml_89, j_lt_0, j_gt_0, j_le_0, j_ge_0, j_eq_0, j_lt_1, j_gt_1, j_le_1, j_ge_1, j_eq_1, j_lt_2, j_gt_2, j_le_2, j_ge_2, j_eq_2, j_lt_3, j_gt_3, j_le_3, j_ge_3, j_eq_3, j_lt_4, j_gt_4, j_le_4, j_ge_4, j_eq_4, j_lt_5, j_gt_5, j_le_5, j_ge_5, j_eq_5, j_lt_6, j_gt_6, j_le_6, j_ge_6, j_eq_6, j_lt_8, j_gt_8, j_le_8, j_ge_8, j_eq_8, j_lt_12, j_gt_12, j_le_12, j_ge_12, j_eq_12, j_lt_209, j_gt_209, j_le_209, j_ge_209, j_eq_209, j_lt_255, j_gt_255, j_le_255, j_ge_255, j_eq_255, j_lt_1000000000, j_gt_1000000000, j_le_1000000000, j_ge_1000000000, j_eq_1000000000, e1, i_le, hn, g0, g1, g2, h36, i_mn]
    by_cases q1 : fK f = 4
    · rw [if_pos q1, if_pos q1]
      have em : (if 0 < (if tot (l.take p) ≤ T then Int32.ofNat (min (fL f) (T - tot (l.take p))) else Int32.ofInt ((T : Int) - tot (l.take p))) then (if tot (l.take p) ≤ T then Int32.ofNat (min (fL f) (T - tot (l.take p))) else Int32.ofInt ((T : Int) - tot (l.take p))) else 0) = Int32.ofNat (min (fL f) (T - tot (l.take p))) := by
        by_cases q : tot (l.take p) ≤ T
        · rw [if_pos q]
          by_cases q2 : 0 < min (fL f) (T - tot (l.take p))
          · rw [if_pos (by rw [j_gt_0 (by omega)]; exact q2)]
          · rw [if_neg (by rw [j_gt_0 (by omega)]; exact q2), show min (fL f) (T - tot (l.take p)) = 0 by omega]; rfl
        · rw [if_neg q, if_neg (by rw [z_0, z_lt (by omega) (by omega)]; omega), show T - tot (l.take p) = 0 by omega, Nat.min_zero]; rfl
      rw [em, i_add, ← Nat.add_assoc]
      exact nx _
    · rw [if_neg q1, if_neg q1, Nat.zero_add]
      exact nx _
end MTK
