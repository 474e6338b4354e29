/-! QUESTIONS THAT THE SHEET ALONE ANSWERS: ticks, touch, at; on both sides -/
section ASK
def inR (m : Nat) (x : Int32) : Bool := decide (0 ≤ x) && decide (x < Int32.ofNat m)
def tN (x : Int32) : Nat := x.toNatClampNeg
theorem inR_ex {m : Nat} {x : Int32} (hm : m ≤ 100000) (h : inR m x = true) : ∃ s, s < m ∧ x = Int32.ofNat s ∧ tN x = s := by
  unfold inR at h
  rw [Bool.and_eq_true, decide_eq_true_eq, decide_eq_true_eq] at h
  refine ⟨x.toNatClampNeg, ?_, (Int32.ofNat_toNatClampNeg x h.1).symm, rfl⟩
  have h2 := h.2
  rw [← Int32.ofNat_toNatClampNeg x h.1] at h2
  have h3 : x.toNatClampNeg < 2 ^ 31 := by
    have a := Int32.toInt_eq_toNatClampNeg h.1
    have b := Int32.toInt_lt x
    omega
  rw [i_lt h3 (by omega)] at h2
  exact h2
theorem inR_of {m s : Nat} (hm : m ≤ 100000) (hs : s < m) : inR m (Int32.ofNat s) = true ∧ tN (Int32.ofNat s) = s := by
  unfold inR tN
  have h2 : Int32.ofNat s < Int32.ofNat m := by rw [i_lt (by omega) (by omega)]; exact hs
  rw [decide_eq_true h2, decide_eq_true (Int32.zero_le_ofNat_of_lt (by omega)), Int32.toNatClampNeg_ofNat_of_lt (by omega)]
  exact ⟨rfl, rfl⟩
variable {tb : dT} {d c t : Nat} {g : Nat → Option dE} {fl : Nat → Bool} {tg : Nat} {σ : dSg} {P : dP}
theorem rng_m {m : Nat} (hm : m ≤ 100000) (x : Int32) (h : dH) : (if x < 0 then some (some (Value.int 0), h) else if Int32.ofNat m - 1 < x then some (some (Value.int 0), h) else some (some (Value.int 1), h)) = some (some (.int (bI (inR m x))), h) := by
  have e1 : (x < 0) = ¬ (0 ≤ x) := by rw [eq_iff_iff, Int32.not_le]
  have e2 : (Int32.ofNat m - 1 < x) = ¬ (x < Int32.ofNat m) := by
    rw [eq_iff_iff, Int32.not_lt, Int32.lt_iff_toInt_lt, Int32.le_iff_toInt_le, Int32.toInt_ofNat_of_lt (by omega)]
    rw [show Int32.ofNat m - 1 = Int32.ofInt ((m : Int) - 1) from i_sI m 1, z_toI (by omega)]
    omega
  unfold inR
  by_cases q1 : 0 ≤ x
  · rw [if_neg (by rw [e1]; exact fun z => z q1), decide_eq_true q1]
    by_cases q2 : x < Int32.ofNat m
    · rw [if_neg (by rw [e2]; exact fun z => z q2), decide_eq_true q2]; rfl
    · rw [if_pos (by rw [e2]; exact q2), decide_eq_false q2]; rfl
  · rw [if_pos (by rw [e1]; exact q1), decide_eq_false q1]; rfl
theorem kw_m {m : Nat} (hm : m ≤ 100000) (x : Int32) (h : dH) : dX tb d 87 0 [.int x, .int 0, .int (Int32.ofNat m - 1)] [] h = some (some (.int (bI (inR m x))), h) := by
  rw [sg_X6_within_0]; exact rng_m hm x h
theorem mw_m {m : Nat} (hm : m ≤ 100000) (x : Int32) (h : dH) : dX tb d 91 0 [.int x, .int 0, .int (Int32.ofNat m - 1)] [] h = some (some (.int (bI (inR m x))), h) := by
  rw [sg_X7_isIn_0]; exact rng_m hm x h
theorem kh_has (C : ShC P fl σ) (W : Wf P) (x : Int32) : dX tb (d + 1) 47 0 [.ref 1, .int x] [] (c, t, hp g (SH fl tg) σ) = some (some (.int (bI (inR (pM P) x))), (c, t, hp g (SH fl tg) σ)) := kc_has C W x
theorem mh_has (C : ShM P σ) (x : Int32) : dX tb d 92 0 [.ref 270, .int x] [] (c, t, hp g (SH fl tg) σ) = some (some (.int (bI (inR (pM P) x))), (c, t, hp g (SH fl tg) σ)) := km_isS C x
def ansTi (P : dP) (x y : Int32) : Int32 := bif inR (pM P) x && (decide (2 ≤ pN P (tN x)) && inR (bgn P (tN x)) y) then Int32.ofNat (tkN P (tN x) (tN y)) else -1
theorem kq_ticks (C : ShC P fl σ) (W : Wf P) (x y : Int32) : dX tb (d + 4) 78 0 [.ref 0, .int x, .int y, .null] [] (c, t, hp g (SH fl tg) σ) = some (some (.int (ansTi P x y)), (c, t, hp g (SH fl tg) σ)) := by
  have hm := W.1
  unfold ansTi
  rw [sg_X6_ticks_0]
  simp only [bq_s, aq_I, aq_R, aq_V, cq_t, cq_f, if_true, if_false, Bool.true_and, Bool.and_true, Bool.or_true, Bool.true_or, gi_1_3, gi_s, pi_1_3, pi_s, gr_0_0, gr_0_1, gr_0_2, gr_0_3, gr_1_0, gr_1_1, gr_1_2, gr_s_7, gr_s_8, gr_s_9, gr_s_10, ld_3, ld_4, ld_x, ld_y, ld_u, ld_v, sv_3, sv_4, sv_x, sv_y, sv_u, sv_v, is_0, is_1, is_s, lr_2, kh_has C W, bI_0]
  cases h1 : inR (pM P) x
  · rw [if_pos rfl]; rfl
  · rw [if_neg (by decide)]
    obtain ⟨s, hs, rfl, e⟩ := inR_ex (by omega) h1
    rw [e]
    have h11 := bgn_11 W hs
    simp (disch := omega) only [bq_s, aq_I, aq_R, aq_V, cq_t, cq_f, if_true, if_false, Bool.true_and, Bool.and_true, Bool.or_true, Bool.true_or, gi_1_3, gi_s, pi_1_3, pi_s, gr_0_0, gr_0_1, gr_0_2, gr_0_3, gr_1_0, gr_1_1, gr_1_2, gr_s_7, gr_s_8, gr_s_9, gr_s_10, ld_3, ld_4, ld_x, ld_y, ld_u, ld_v, sv_3, sv_4, sv_x, sv_y, sv_u, sv_v, is_0, is_1, is_s, lr_2, kc_begs C W hs]
    by_cases h2 : 2 ≤ pN P s
    · rw [if_pos h2, kw_m (by omega), decide_eq_true h2]
      simp only [bq_s, aq_I, aq_R, aq_V, cq_t, cq_f, if_true, if_false, Bool.true_and, Bool.and_true, Bool.or_true, Bool.true_or, gi_1_3, gi_s, pi_1_3, pi_s, gr_0_0, gr_0_1, gr_0_2, gr_0_3, gr_1_0, gr_1_1, gr_1_2, gr_s_7, gr_s_8, gr_s_9, gr_s_10, ld_3, ld_4, ld_x, ld_y, ld_u, ld_v, sv_3, sv_4, sv_x, sv_y, sv_u, sv_v, is_0, is_1, is_s, lr_2, bI_0]
      cases h3 : inR (bgn P s) y
      · rw [if_pos rfl]; rfl
      · rw [if_neg (by decide)]
        obtain ⟨b, hb, rfl, e2⟩ := inR_ex (by omega) h3
        rw [e2]
        simp (disch := omega) only [bq_s, aq_I, aq_R, aq_V, cq_t, cq_f, if_true, if_false, Bool.true_and, Bool.and_true, Bool.or_true, Bool.true_or, gi_1_3, gi_s, pi_1_3, pi_s, gr_0_0, gr_0_1, gr_0_2, gr_0_3, gr_1_0, gr_1_1, gr_1_2, gr_s_7, gr_s_8, gr_s_9, gr_s_10, ld_3, ld_4, ld_x, ld_y, ld_u, ld_v, sv_3, sv_4, sv_x, sv_y, sv_u, sv_v, is_0, is_1, is_s, lr_2, kc_ticks C W hs hb h2]
    · rw [if_neg h2, kw_m (by omega), decide_eq_false h2]
      simp only [bq_s, aq_I, aq_R, aq_V, cq_t, cq_f, if_true, if_false, Bool.true_and, Bool.and_true, Bool.or_true, Bool.true_or, gi_1_3, gi_s, pi_1_3, pi_s, gr_0_0, gr_0_1, gr_0_2, gr_0_3, gr_1_0, gr_1_1, gr_1_2, gr_s_7, gr_s_8, gr_s_9, gr_s_10, ld_3, ld_4, ld_x, ld_y, ld_u, ld_v, sv_3, sv_4, sv_x, sv_y, sv_u, sv_v, is_0, is_1, is_s, lr_2, bI_0]
      have h3 : inR 0 y = false := by
        cases h4 : inR 0 y
        · rfl
        · obtain ⟨b, hb, -⟩ := inR_ex (by omega) h4; omega
      rw [h3, if_pos rfl]; rfl
theorem mq_ticks (C0 : ShM P σ) (W : Wf P) (x y : Int32) : dX tb (d + 6) 108 0 [.ref 270, .int x, .int y] [] (c, t, hp g (SH fl tg) σ) = some (some (.int (ansTi P x y)), (c, t, hp g (SH fl tg) (up2 σ 270 0 0))) := by
  have hm := W.1
  have C : ShM P (up2 σ 270 0 0) := ShM_congr C0 (fun a _ _ => up2_row _ _ (by omega)) (up2_n _ _ (by omega))
  unfold ansTi
  rw [sg_X7_ticks_0]
  simp only [bq_s, aq_I, aq_R, aq_V, cq_t, cq_f, if_true, if_false, Bool.true_and, Bool.and_true, Bool.or_true, Bool.true_or, gi_270_0, gi_270_10, gi_270_11, gi_270_12, gi_270_13, gi_270_14, gi_270_15, gi_270_21, gi_270_22, gi_270_23, gi_270_34, gi_270_35, gi_270_36, pi_270_0, pi_270_10, pi_270_11, pi_270_12, pi_270_13, pi_270_14, pi_270_15, pi_270_21, pi_270_22, pi_270_23, pi_270_34, pi_270_35, pi_270_36, gr_270_1, gr_270_2, gr_270_3, gr_270_4, gr_270_5, gr_270_6, gr_270_7, gr_270_8, gr_270_9, gr_270_16, gr_270_17, gr_270_18, gr_270_19, gr_270_20, gr_270_24, gr_270_25, gr_270_26, gr_270_27, gr_270_28, gr_270_29, gr_270_30, gr_270_31, gr_270_32, gr_270_33, ld_271, ld_272, ld_273, ld_274, ld_275, ld_276, ld_277, ld_278, ld_279, ld_280, ld_281, ld_282, ld_283, ld_284, ld_285, ld_286, ld_287, ld_288, ld_289, ld_290, ld_291, ld_292, ld_293, ld_294, sv_271, sv_272, sv_273, sv_274, sv_275, sv_276, sv_277, sv_278, sv_279, sv_280, sv_281, sv_282, sv_283, sv_284, sv_285, sv_286, sv_287, sv_288, sv_289, sv_290, sv_291, sv_292, sv_293, sv_294, is_270, mh_has C, bI_0]
  cases h1 : inR (pM P) x
  · rw [if_pos rfl]; rfl
  · rw [if_neg (by decide)]
    obtain ⟨s, hs, rfl, e⟩ := inR_ex (by omega) h1
    rw [e]
    have h11 := bgn_11 W hs
    have hn := (W.2.1 s hs).1
    have e1 := (C.2.2.1 s hs).1
    simp (disch := omega) only [bq_s, aq_I, aq_R, aq_V, cq_t, cq_f, if_true, if_false, Bool.true_and, Bool.and_true, Bool.or_true, Bool.true_or, gi_270_0, gi_270_10, gi_270_11, gi_270_12, gi_270_13, gi_270_14, gi_270_15, gi_270_21, gi_270_22, gi_270_23, gi_270_34, gi_270_35, gi_270_36, pi_270_0, pi_270_10, pi_270_11, pi_270_12, pi_270_13, pi_270_14, pi_270_15, pi_270_21, pi_270_22, pi_270_23, pi_270_34, pi_270_35, pi_270_36, gr_270_1, gr_270_2, gr_270_3, gr_270_4, gr_270_5, gr_270_6, gr_270_7, gr_270_8, gr_270_9, gr_270_16, gr_270_17, gr_270_18, gr_270_19, gr_270_20, gr_270_24, gr_270_25, gr_270_26, gr_270_27, gr_270_28, gr_270_29, gr_270_30, gr_270_31, gr_270_32, gr_270_33, ld_271, ld_272, ld_273, ld_274, ld_275, ld_276, ld_277, ld_278, ld_279, ld_280, ld_281, ld_282, ld_283, ld_284, ld_285, ld_286, ld_287, ld_288, ld_289, ld_290, ld_291, ld_292, ld_293, ld_294, sv_271, sv_272, sv_273, sv_274, sv_275, sv_276, sv_277, sv_278, sv_279, sv_280, sv_281, sv_282, sv_283, sv_284, sv_285, sv_286, sv_287, sv_288, sv_289, sv_290, sv_291, sv_292, sv_293, sv_294, is_270, ia_0, ia_1, is_m0, is_m1, im_8, ml_8, im_11, ml_11, im_12, ml_12, im_88, ml_88, im_89, ml_89, j_lt_0, j_gt_0, j_le_0, j_ge_0, j_eq_0, j_lt_1, j_gt_1, j_le_1, j_ge_1, j_eq_1, j_lt_2, j_gt_2, j_le_2, j_ge_2, j_eq_2, j_lt_3, j_gt_3, j_le_3, j_ge_3, j_eq_3, j_lt_4, j_gt_4, j_le_4, j_ge_4, j_eq_4, j_lt_5, j_gt_5, j_le_5, j_ge_5, j_eq_5, j_lt_6, j_gt_6, j_le_6, j_ge_6, j_eq_6, j_lt_8, j_gt_8, j_le_8, j_ge_8, j_eq_8, j_lt_12, j_gt_12, j_le_12, j_ge_12, j_eq_12, j_lt_209, j_gt_209, j_le_209, j_ge_209, j_eq_209, j_lt_255, j_gt_255, j_le_255, j_ge_255, j_eq_255, j_lt_1000000000, j_gt_1000000000, j_le_1000000000, j_ge_1000000000, j_eq_1000000000, e1]
    by_cases h2 : 2 ≤ pN P s
    · rw [if_neg (by omega), decide_eq_true h2]
      simp (disch := omega) only [bq_s, aq_I, aq_R, aq_V, cq_t, cq_f, if_true, if_false, Bool.true_and, Bool.and_true, Bool.or_true, Bool.true_or, gi_270_0, gi_270_10, gi_270_11, gi_270_12, gi_270_13, gi_270_14, gi_270_15, gi_270_21, gi_270_22, gi_270_23, gi_270_34, gi_270_35, gi_270_36, pi_270_0, pi_270_10, pi_270_11, pi_270_12, pi_270_13, pi_270_14, pi_270_15, pi_270_21, pi_270_22, pi_270_23, pi_270_34, pi_270_35, pi_270_36, gr_270_1, gr_270_2, gr_270_3, gr_270_4, gr_270_5, gr_270_6, gr_270_7, gr_270_8, gr_270_9, gr_270_16, gr_270_17, gr_270_18, gr_270_19, gr_270_20, gr_270_24, gr_270_25, gr_270_26, gr_270_27, gr_270_28, gr_270_29, gr_270_30, gr_270_31, gr_270_32, gr_270_33, ld_271, ld_272, ld_273, ld_274, ld_275, ld_276, ld_277, ld_278, ld_279, ld_280, ld_281, ld_282, ld_283, ld_284, ld_285, ld_286, ld_287, ld_288, ld_289, ld_290, ld_291, ld_292, ld_293, ld_294, sv_271, sv_272, sv_273, sv_274, sv_275, sv_276, sv_277, sv_278, sv_279, sv_280, sv_281, sv_282, sv_283, sv_284, sv_285, sv_286, sv_287, sv_288, sv_289, sv_290, sv_291, sv_292, sv_293, sv_294, is_270, km_begs C W hs, mw_m, bI_0]
      cases h3 : inR (bgn P s) y
      · rw [if_pos rfl]; rfl
      · rw [if_neg (by decide)]
        obtain ⟨b, hb, rfl, e2⟩ := inR_ex (by omega) h3
        rw [e2]
        simp (disch := omega) only [bq_s, aq_I, aq_R, aq_V, cq_t, cq_f, if_true, if_false, Bool.true_and, Bool.and_true, Bool.or_true, Bool.true_or, gi_270_0, gi_270_10, gi_270_11, gi_270_12, gi_270_13, gi_270_14, gi_270_15, gi_270_21, gi_270_22, gi_270_23, gi_270_34, gi_270_35, gi_270_36, pi_270_0, pi_270_10, pi_270_11, pi_270_12, pi_270_13, pi_270_14, pi_270_15, pi_270_21, pi_270_22, pi_270_23, pi_270_34, pi_270_35, pi_270_36, gr_270_1, gr_270_2, gr_270_3, gr_270_4, gr_270_5, gr_270_6, gr_270_7, gr_270_8, gr_270_9, gr_270_16, gr_270_17, gr_270_18, gr_270_19, gr_270_20, gr_270_24, gr_270_25, gr_270_26, gr_270_27, gr_270_28, gr_270_29, gr_270_30, gr_270_31, gr_270_32, gr_270_33, ld_271, ld_272, ld_273, ld_274, ld_275, ld_276, ld_277, ld_278, ld_279, ld_280, ld_281, ld_282, ld_283, ld_284, ld_285, ld_286, ld_287, ld_288, ld_289, ld_290, ld_291, ld_292, ld_293, ld_294, sv_271, sv_272, sv_273, sv_274, sv_275, sv_276, sv_277, sv_278, sv_279, sv_280, sv_281, sv_282, sv_283, sv_284, sv_285, sv_286, sv_287, sv_288, sv_289, sv_290, sv_291, sv_292, sv_293, sv_294, is_270, km_ticks C W hs hb h2]
    · rw [if_pos (by omega), decide_eq_false h2]; rfl
noncomputable def ansTo (P : dP) (x y : Int32) : Int32 := bif inR (pM P) x && (inR (pM P) y && (decide (2 ≤ pN P (tN x)) && decide (2 ≤ pN P (tN y)))) then bI (dcd (tch P (tN x) (tN y))) else -1
theorem kq_touch (C : ShC P fl σ) (W : Wf P) (x y : Int32) : dX tb (d + 3) 79 0 [.ref 0, .int x, .int y, .null, .null] [] (c, t, hp g (SH fl tg) σ) = some (some (.int (ansTo P x y)), (c, t, hp g (SH fl tg) σ)) := by
  have hm := W.1
  unfold ansTo
  rw [sg_X6_touch_0]
  simp only [bq_s, aq_I, aq_R, aq_V, cq_t, cq_f, if_true, if_false, Bool.true_and, Bool.and_true, Bool.or_true, Bool.true_or, gi_1_3, gi_s, pi_1_3, pi_s, gr_0_0, gr_0_1, gr_0_2, gr_0_3, gr_1_0, gr_1_1, gr_1_2, gr_s_7, gr_s_8, gr_s_9, gr_s_10, ld_3, ld_4, ld_x, ld_y, ld_u, ld_v, sv_3, sv_4, sv_x, sv_y, sv_u, sv_v, is_0, is_1, is_s, lr_2, kh_has C W, bI_0]
  cases h1 : inR (pM P) x
  · rw [if_pos rfl]; rfl
  · rw [if_neg (by decide)]
    cases h3 : inR (pM P) y
    · rw [if_pos rfl]; rfl
    · rw [if_neg (by decide)]
      obtain ⟨s, hs, rfl, e⟩ := inR_ex (by omega) h1
      obtain ⟨u, hu, rfl, e2⟩ := inR_ex (by omega) h3
      rw [e, e2]
      have hn := (W.2.1 s hs).1
      have hn2 := (W.2.1 u hu).1
      have c1 := (C.2.2.1 s hs).2.2.1
      have c2 := (C.2.2.1 u hu).2.2.1
      simp (disch := omega) only [bq_s, aq_I, aq_R, aq_V, cq_t, cq_f, if_true, if_false, Bool.true_and, Bool.and_true, Bool.or_true, Bool.true_or, gi_1_3, gi_s, pi_1_3, pi_s, gr_0_0, gr_0_1, gr_0_2, gr_0_3, gr_1_0, gr_1_1, gr_1_2, gr_s_7, gr_s_8, gr_s_9, gr_s_10, ld_3, ld_4, ld_x, ld_y, ld_u, ld_v, sv_3, sv_4, sv_x, sv_y, sv_u, sv_v, is_0, is_1, is_s, lr_2, ia_0, ia_1, is_m0, is_m1, im_8, ml_8, im_11, ml_11, im_12, ml_12, im_88, ml_88, im_89, ml_89, j_lt_0, j_gt_0, j_le_0, j_ge_0, j_eq_0, j_lt_1, j_gt_1, j_le_1, j_ge_1, j_eq_1, j_lt_2, j_gt_2, j_le_2, j_ge_2, j_eq_2, j_lt_3, j_gt_3, j_le_3, j_ge_3, j_eq_3, j_lt_4, j_gt_4, j_le_4, j_ge_4, j_eq_4, j_lt_5, j_gt_5, j_le_5, j_ge_5, j_eq_5, j_lt_6, j_gt_6, j_le_6, j_ge_6, j_eq_6, j_lt_8, j_gt_8, j_le_8, j_ge_8, j_eq_8, j_lt_12, j_gt_12, j_le_12, j_ge_12, j_eq_12, j_lt_209, j_gt_209, j_le_209, j_ge_209, j_eq_209, j_lt_255, j_gt_255, j_le_255, j_ge_255, j_eq_255, j_lt_1000000000, j_gt_1000000000, j_le_1000000000, j_ge_1000000000, j_eq_1000000000, c1, c2, kc_tch C W hs hu, bI_0]
      by_cases q1 : 2 ≤ pN P s
      · rw [if_neg (by omega), decide_eq_true q1]
        by_cases q2 : 2 ≤ pN P u
        · rw [if_pos q2, decide_eq_true q2]
          cases dcd (tch P s u) <;> rfl
        · rw [if_neg q2, decide_eq_false q2]; rfl
      · rw [if_pos (by omega), decide_eq_false q1]; rfl
theorem mq_touch (C0 : ShM P σ) (W : Wf P) (x y : Int32) : dX tb (d + 5) 121 0 [.ref 270, .int x, .int y] [] (c, t, hp g (SH fl tg) σ) = some (some (.int (ansTo P x y)), (c, t, hp g (SH fl tg) (up2 σ 270 0 0))) := by
  have hm := W.1
  have C : ShM P (up2 σ 270 0 0) := ShM_congr C0 (fun a _ _ => up2_row _ _ (by omega)) (up2_n _ _ (by omega))
  unfold ansTo
  rw [sg_X7_touch_0]
  simp only [bq_s, aq_I, aq_R, aq_V, cq_t, cq_f, if_true, if_false, Bool.true_and, Bool.and_true, Bool.or_true, Bool.true_or, gi_270_0, gi_270_10, gi_270_11, gi_270_12, gi_270_13, gi_270_14, gi_270_15, gi_270_21, gi_270_22, gi_270_23, gi_270_34, gi_270_35, gi_270_36, pi_270_0, pi_270_10, pi_270_11, pi_270_12, pi_270_13, pi_270_14, pi_270_15, pi_270_21, pi_270_22, pi_270_23, pi_270_34, pi_270_35, pi_270_36, gr_270_1, gr_270_2, gr_270_3, gr_270_4, gr_270_5, gr_270_6, gr_270_7, gr_270_8, gr_270_9, gr_270_16, gr_270_17, gr_270_18, gr_270_19, gr_270_20, gr_270_24, gr_270_25, gr_270_26, gr_270_27, gr_270_28, gr_270_29, gr_270_30, gr_270_31, gr_270_32, gr_270_33, ld_271, ld_272, ld_273, ld_274, ld_275, ld_276, ld_277, ld_278, ld_279, ld_280, ld_281, ld_282, ld_283, ld_284, ld_285, ld_286, ld_287, ld_288, ld_289, ld_290, ld_291, ld_292, ld_293, ld_294, sv_271, sv_272, sv_273, sv_274, sv_275, sv_276, sv_277, sv_278, sv_279, sv_280, sv_281, sv_282, sv_283, sv_284, sv_285, sv_286, sv_287, sv_288, sv_289, sv_290, sv_291, sv_292, sv_293, sv_294, is_270, mh_has C, bI_0]
  cases h1 : inR (pM P) x
  · rw [if_pos rfl]; rfl
  · rw [if_neg (by decide)]
    cases h3 : inR (pM P) y
    · rw [if_pos rfl]; rfl
    · rw [if_neg (by decide)]
      obtain ⟨s, hs, rfl, e⟩ := inR_ex (by omega) h1
      obtain ⟨u, hu, rfl, e2⟩ := inR_ex (by omega) h3
      rw [e, e2]
      have hn := (W.2.1 s hs).1
      have hn2 := (W.2.1 u hu).1
      have c1 := (C.2.2.1 s hs).1
      have c2 := (C.2.2.1 u hu).1
      simp (disch := omega) only [bq_s, aq_I, aq_R, aq_V, cq_t, cq_f, if_true, if_false, Bool.true_and, Bool.and_true, Bool.or_true, Bool.true_or, gi_270_0, gi_270_10, gi_270_11, gi_270_12, gi_270_13, gi_270_14, gi_270_15, gi_270_21, gi_270_22, gi_270_23, gi_270_34, gi_270_35, gi_270_36, pi_270_0, pi_270_10, pi_270_11, pi_270_12, pi_270_13, pi_270_14, pi_270_15, pi_270_21, pi_270_22, pi_270_23, pi_270_34, pi_270_35, pi_270_36, gr_270_1, gr_270_2, gr_270_3, gr_270_4, gr_270_5, gr_270_6, gr_270_7, gr_270_8, gr_270_9, gr_270_16, gr_270_17, gr_270_18, gr_270_19, gr_270_20, gr_270_24, gr_270_25, gr_270_26, gr_270_27, gr_270_28, gr_270_29, gr_270_30, gr_270_31, gr_270_32, gr_270_33, ld_271, ld_272, ld_273, ld_274, ld_275, ld_276, ld_277, ld_278, ld_279, ld_280, ld_281, ld_282, ld_283, ld_284, ld_285, ld_286, ld_287, ld_288, ld_289, ld_290, ld_291, ld_292, ld_293, ld_294, sv_271, sv_272, sv_273, sv_274, sv_275, sv_276, sv_277, sv_278, sv_279, sv_280, sv_281, sv_282, sv_283, sv_284, sv_285, sv_286, sv_287, sv_288, sv_289, sv_290, sv_291, sv_292, sv_293, sv_294, is_270, ia_0, ia_1, is_m0, is_m1, im_8, ml_8, im_11, ml_11, im_12, ml_12, im_88, ml_88, im_89, ml_89, j_lt_0, j_gt_0, j_le_0, j_ge_0, j_eq_0, j_lt_1, j_gt_1, j_le_1, j_ge_1, j_eq_1, j_lt_2, j_gt_2, j_le_2, j_ge_2, j_eq_2, j_lt_3, j_gt_3, j_le_3, j_ge_3, j_eq_3, j_lt_4, j_gt_4, j_le_4, j_ge_4, j_eq_4, j_lt_5, j_gt_5, j_le_5, j_ge_5, j_eq_5, j_lt_6, j_gt_6, j_le_6, j_ge_6, j_eq_6, j_lt_8, j_gt_8, j_le_8, j_ge_8, j_eq_8, j_lt_12, j_gt_12, j_le_12, j_ge_12, j_eq_12, j_lt_209, j_gt_209, j_le_209, j_ge_209, j_eq_209, j_lt_255, j_gt_255, j_le_255, j_ge_255, j_eq_255, j_lt_1000000000, j_gt_1000000000, j_le_1000000000, j_ge_1000000000, j_eq_1000000000, c1, c2, km_tch C W hs hu, bI_0]
      by_cases q1 : 2 ≤ pN P s
      · rw [if_neg (by omega), decide_eq_true q1]
        by_cases q2 : 2 ≤ pN P u
        · rw [decide_eq_true q2]
          first | rw [if_pos q2] | rw [if_neg (by omega)]
          cases dcd (tch P s u) <;> rfl
        · rw [decide_eq_false q2]
          first | rw [if_neg q2] | rw [if_pos (by omega)]
          rfl
      · rw [if_pos (by omega), decide_eq_false q1]; rfl
/-- at: whether there is such a point, and its place -/
def hasAt (P : dP) (x y : Int32) : Bool := inR (pM P) x && inR (pN P (tN x)) y
def ansAt (P : dP) (x y z : Int32) : Int32 := Int32.ofNat (if z = 0 then pX P (tN x) (tN y) else pY P (tN x) (tN y))
theorem kq_at (C : ShC P fl σ) (W : Wf P) (x y z : Int32) : dX tb (d + 2) 85 0 [.ref 0, .int x, .int y, .int z, .null] [] (c, t, hp g (SH fl tg) σ) = bif hasAt P x y then some (some (.int (ansAt P x y z)), (c, t, hp g (SH fl tg) σ)) else some (some (.retAddr 0), (c, t, hp g (SH fl tg) σ)) := by
  have hm := W.1
  unfold hasAt ansAt
  rw [sg_X6_at_0]
  simp only [bq_s, aq_I, aq_R, aq_V, cq_t, cq_f, if_true, if_false, Bool.true_and, Bool.and_true, Bool.or_true, Bool.true_or, gi_1_3, gi_s, pi_1_3, pi_s, gr_0_0, gr_0_1, gr_0_2, gr_0_3, gr_1_0, gr_1_1, gr_1_2, gr_s_7, gr_s_8, gr_s_9, gr_s_10, ld_3, ld_4, ld_x, ld_y, ld_u, ld_v, sv_3, sv_4, sv_x, sv_y, sv_u, sv_v, is_0, is_1, is_s, lr_2, kh_has C W, bI_0]
  cases h1 : inR (pM P) x
  · rw [if_pos rfl]; rfl
  · rw [if_neg (by decide)]
    obtain ⟨s, hs, rfl, e⟩ := inR_ex (by omega) h1
    rw [e]
    have hn := (W.2.1 s hs).1
    obtain ⟨-, -, c2, -, -, c6⟩ := C.2.2.1 s hs
    simp (disch := omega) only [bq_s, aq_I, aq_R, aq_V, cq_t, cq_f, if_true, if_false, Bool.true_and, Bool.and_true, Bool.or_true, Bool.true_or, gi_1_3, gi_s, pi_1_3, pi_s, gr_0_0, gr_0_1, gr_0_2, gr_0_3, gr_1_0, gr_1_1, gr_1_2, gr_s_7, gr_s_8, gr_s_9, gr_s_10, ld_3, ld_4, ld_x, ld_y, ld_u, ld_v, sv_3, sv_4, sv_x, sv_y, sv_u, sv_v, is_0, is_1, is_s, lr_2, c2, kw_m, bI_0]
    cases h3 : inR (pN P s) y
    · rw [if_pos rfl]; rfl
    · rw [if_neg (by decide)]
      obtain ⟨k, hk, rfl, e2⟩ := inR_ex (by omega) h3
      rw [e2]
      obtain ⟨x1, y1⟩ := c6 k hk
      simp (disch := omega) only [bq_s, aq_I, aq_R, aq_V, cq_t, cq_f, if_true, if_false, Bool.true_and, Bool.and_true, Bool.or_true, Bool.true_or, gi_1_3, gi_s, pi_1_3, pi_s, gr_0_0, gr_0_1, gr_0_2, gr_0_3, gr_1_0, gr_1_1, gr_1_2, gr_s_7, gr_s_8, gr_s_9, gr_s_10, ld_3, ld_4, ld_x, ld_y, ld_u, ld_v, sv_3, sv_4, sv_x, sv_y, sv_u, sv_v, is_0, is_1, is_s, lr_2, x1, y1]
      by_cases q : z = 0
      · rw [if_pos q, if_pos q]
      · rw [if_neg q, if_neg q]
theorem mq_at (C : ShM P σ) (W : Wf P) (x y z : Int32) : dX tb (d + 2) 135 0 [.ref 270, .int x, .int y, .int z] [] (c, t, hp g (SH fl tg) σ) = bif hasAt P x y then some (some (.int (ansAt P x y z)), (c, t, hp g (SH fl tg) (up2 σ 270 0 0))) else some (some (.int 0), (c, t, hp g (SH fl tg) (up2 σ 270 0 1))) := by
  have hm := W.1
  have C1 : ShM P (up2 σ 270 0 0) := ShM_congr C (fun a _ _ => up2_row _ _ (by omega)) (up2_n _ _ (by omega))
  have n10 : ((1 : Int32) ≤ 0) = False := eq_false (by decide)
  have n00 : ((0 : Int32) ≤ 0) = True := eq_true (by decide)
  unfold hasAt ansAt
  rw [sg_X7_at_0]
  simp only [bq_s, aq_I, aq_R, aq_V, cq_t, cq_f, if_true, if_false, Bool.true_and, Bool.and_true, Bool.or_true, Bool.true_or, gi_270_0, gi_270_10, gi_270_11, gi_270_12, gi_270_13, gi_270_14, gi_270_15, gi_270_21, gi_270_22, gi_270_23, gi_270_34, gi_270_35, gi_270_36, pi_270_0, pi_270_10, pi_270_11, pi_270_12, pi_270_13, pi_270_14, pi_270_15, pi_270_21, pi_270_22, pi_270_23, pi_270_34, pi_270_35, pi_270_36, gr_270_1, gr_270_2, gr_270_3, gr_270_4, gr_270_5, gr_270_6, gr_270_7, gr_270_8, gr_270_9, gr_270_16, gr_270_17, gr_270_18, gr_270_19, gr_270_20, gr_270_24, gr_270_25, gr_270_26, gr_270_27, gr_270_28, gr_270_29, gr_270_30, gr_270_31, gr_270_32, gr_270_33, ld_271, ld_272, ld_273, ld_274, ld_275, ld_276, ld_277, ld_278, ld_279, ld_280, ld_281, ld_282, ld_283, ld_284, ld_285, ld_286, ld_287, ld_288, ld_289, ld_290, ld_291, ld_292, ld_293, ld_294, sv_271, sv_272, sv_273, sv_274, sv_275, sv_276, sv_277, sv_278, sv_279, sv_280, sv_281, sv_282, sv_283, sv_284, sv_285, sv_286, sv_287, sv_288, sv_289, sv_290, sv_291, sv_292, sv_293, sv_294, is_270, mh_has C, bI_0, up2_s, n10]
  cases h1 : inR (pM P) x
  · rw [if_pos rfl]; rfl
  · rw [if_neg (by decide)]
    obtain ⟨s, hs, rfl, e⟩ := inR_ex (by omega) h1
    rw [e]
    have hn := (W.2.1 s hs).1
    have c1 := (C.2.2.1 s hs).1
    by_cases q0 : y < 0
    · rw [if_pos q0]
      have h3 : inR (pN P s) y = false := by
        unfold inR
        rw [decide_eq_false (fun z => Int32.not_le.mpr q0 z)]; rfl
      rw [h3]; rfl
    · rw [if_neg q0]
      simp (disch := omega) only [bq_s, aq_I, aq_R, aq_V, cq_t, cq_f, if_true, if_false, Bool.true_and, Bool.and_true, Bool.or_true, Bool.true_or, gi_270_0, gi_270_10, gi_270_11, gi_270_12, gi_270_13, gi_270_14, gi_270_15, gi_270_21, gi_270_22, gi_270_23, gi_270_34, gi_270_35, gi_270_36, pi_270_0, pi_270_10, pi_270_11, pi_270_12, pi_270_13, pi_270_14, pi_270_15, pi_270_21, pi_270_22, pi_270_23, pi_270_34, pi_270_35, pi_270_36, gr_270_1, gr_270_2, gr_270_3, gr_270_4, gr_270_5, gr_270_6, gr_270_7, gr_270_8, gr_270_9, gr_270_16, gr_270_17, gr_270_18, gr_270_19, gr_270_20, gr_270_24, gr_270_25, gr_270_26, gr_270_27, gr_270_28, gr_270_29, gr_270_30, gr_270_31, gr_270_32, gr_270_33, ld_271, ld_272, ld_273, ld_274, ld_275, ld_276, ld_277, ld_278, ld_279, ld_280, ld_281, ld_282, ld_283, ld_284, ld_285, ld_286, ld_287, ld_288, ld_289, ld_290, ld_291, ld_292, ld_293, ld_294, sv_271, sv_272, sv_273, sv_274, sv_275, sv_276, sv_277, sv_278, sv_279, sv_280, sv_281, sv_282, sv_283, sv_284, sv_285, sv_286, sv_287, sv_288, sv_289, sv_290, sv_291, sv_292, sv_293, sv_294, is_270, c1, up2_s, n10, n00]
      by_cases q1 : y < Int32.ofNat (pN P s)
      · rw [if_pos q1]
        have h3 : inR (pN P s) y = true := by
          unfold inR
          rw [decide_eq_true (Int32.not_lt.mp q0), decide_eq_true q1]; rfl
        obtain ⟨k, hk, rfl, e2⟩ := inR_ex (by omega) h3
        rw [h3, e2]
        simp (disch := omega) only [bq_s, aq_I, aq_R, aq_V, cq_t, cq_f, if_true, if_false, Bool.true_and, Bool.and_true, Bool.or_true, Bool.true_or, gi_270_0, gi_270_10, gi_270_11, gi_270_12, gi_270_13, gi_270_14, gi_270_15, gi_270_21, gi_270_22, gi_270_23, gi_270_34, gi_270_35, gi_270_36, pi_270_0, pi_270_10, pi_270_11, pi_270_12, pi_270_13, pi_270_14, pi_270_15, pi_270_21, pi_270_22, pi_270_23, pi_270_34, pi_270_35, pi_270_36, gr_270_1, gr_270_2, gr_270_3, gr_270_4, gr_270_5, gr_270_6, gr_270_7, gr_270_8, gr_270_9, gr_270_16, gr_270_17, gr_270_18, gr_270_19, gr_270_20, gr_270_24, gr_270_25, gr_270_26, gr_270_27, gr_270_28, gr_270_29, gr_270_30, gr_270_31, gr_270_32, gr_270_33, ld_271, ld_272, ld_273, ld_274, ld_275, ld_276, ld_277, ld_278, ld_279, ld_280, ld_281, ld_282, ld_283, ld_284, ld_285, ld_286, ld_287, ld_288, ld_289, ld_290, ld_291, ld_292, ld_293, ld_294, sv_271, sv_272, sv_273, sv_274, sv_275, sv_276, sv_277, sv_278, sv_279, sv_280, sv_281, sv_282, sv_283, sv_284, sv_285, sv_286, sv_287, sv_288, sv_289, sv_290, sv_291, sv_292, sv_293, sv_294, is_270, km_x C1 W hs hk, km_y C1 W hs hk]
        by_cases q : z = 0
        · rw [if_pos q, if_pos q]
        · rw [if_neg q, if_neg q]
      · rw [if_neg q1]
        have h3 : inR (pN P s) y = false := by
          unfold inR
          rw [decide_eq_false q1, Bool.and_false]
        rw [h3]; rfl
end ASK
