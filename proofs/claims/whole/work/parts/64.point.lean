/-! point -/
section PNT
variable {tb : dT} {d c t : Nat} {g : Nat → Option dE} {fl : Nat → Bool} {tg : Nat} {σ : dSg} {P : dP} {A : dA} {T w : Nat} {e : Nat → Option Nat} {n j : Int32}
def sameL (P : dP) (s u v : Nat) : Bool := decide (0 < pN P s) && (decide (pX P s (pN P s - 1) = u) && decide (pY P s (pN P s - 1) = v))
def takB (P : dP) (s u v : Nat) : Bool := pLf P s && (!pCut P s && (decide (pN P s < 12) && !sameL P s u v))
def okPt (P : dP) (x y z : Int32) : Bool := inR (pM P) x && (decide (tN x + 1 = pM P) && (inR 501 y && (inR 501 z && takB P (tN x) (tN y) (tN z))))
def ptP (P : dP) (s u v : Nat) : dP := (P.1, fun i => if i = s then pN P s + 1 else P.2.1 i, fun i k => if i = s ∧ k = pN P s then u else P.2.2.1 i k, fun i k => if i = s ∧ k = pN P s then v else P.2.2.2.1 i k, P.2.2.2.2.1, P.2.2.2.2.2.1, P.2.2.2.2.2.2.1, P.2.2.2.2.2.2.2.1, P.2.2.2.2.2.2.2.2.1, P.2.2.2.2.2.2.2.2.2)
theorem ptP_N {s u v : Nat} (i : Nat) : pN (ptP P s u v) i = if i = s then pN P s + 1 else pN P i := rfl
theorem ptP_X {s u v : Nat} (i k : Nat) : pX (ptP P s u v) i k = if i = s ∧ k = pN P s then u else pX P i k := rfl
theorem ptP_Y {s u v : Nat} (i k : Nat) : pY (ptP P s u v) i k = if i = s ∧ k = pN P s then v else pY P i k := rfl
theorem ptP_clo {s u v : Nat} {i : Nat} (h : i ≠ s) : clo (ptP P s u v) i = clo P i := by
  unfold clo
  rw [ptP_N, if_neg h, ptP_X, ptP_X, ptP_Y, ptP_Y, if_neg (fun q => h q.1), if_neg (fun q => h q.1), if_neg (fun q => h q.1), if_neg (fun q => h q.1)]; rfl
theorem ptP_clo' {s u v : Nat} (hc : pCut P s = false) : clo (ptP P s u v) s = (decide (4 ≤ pN P s + 1) && (decide (pX P s 0 = u) && decide (pY P s 0 = v))) := by
  unfold clo
  rw [show pCut (ptP P s u v) s = false from hc, ptP_N, if_pos rfl, Nat.add_sub_cancel, ptP_X s (pN P s), ptP_Y s (pN P s), if_pos ⟨rfl, rfl⟩, if_pos ⟨rfl, rfl⟩]
  by_cases h : 4 ≤ pN P s + 1
  · rw [decide_eq_true h, ptP_X, ptP_Y, if_neg (by omega), if_neg (by omega)]; rfl
  · rw [decide_eq_false h]; rfl
theorem ptP_Wf (W : Wf P) {s u v : Nat} (hs : s < pM P) (hu : u ≤ 500) (hv : v ≤ 500) (hn : pN P s < 12) (hl : sameL P s u v = false) : Wf (ptP P s u v) := by
  refine ⟨W.1, fun i hi => ?_, W.2.2.1, W.2.2.2.1, W.2.2.2.2.1, W.2.2.2.2.2.1, W.2.2.2.2.2.2.1, W.2.2.2.2.2.2.2⟩
  obtain ⟨w1, w2, w3, w4, w5⟩ := W.2.1 i hi
  by_cases h : i = s
  · subst h
    refine ⟨by rw [ptP_N, if_pos rfl]; omega, w2, w3, fun k hk => ?_, fun k hk => ?_⟩
    · rw [ptP_N, if_pos rfl] at hk
      rw [ptP_X, ptP_Y]
      by_cases q : k = pN P i
      · rw [if_pos ⟨rfl, q⟩, if_pos ⟨rfl, q⟩]; exact ⟨hu, hv⟩
      · rw [if_neg (fun z => q z.2), if_neg (fun z => q z.2)]; exact w4 k (by omega)
    · rw [ptP_N, if_pos rfl] at hk
      rw [ptP_X i k, ptP_Y i k, if_neg (by omega), if_neg (by omega), ptP_X, ptP_Y]
      by_cases q : k + 1 = pN P i
      · rw [if_pos ⟨rfl, q⟩, if_pos ⟨rfl, q⟩]
        unfold sameL at hl
        rw [decide_eq_true (by omega), Bool.true_and, ← q, Nat.add_sub_cancel, Bool.and_eq_false_iff, decide_eq_false_iff_not, decide_eq_false_iff_not] at hl
        exact hl
      · rw [if_neg (fun z => q z.2), if_neg (fun z => q z.2)]; exact w5 k (by omega)
  · refine ⟨by rw [ptP_N, if_neg h]; exact w1, w2, w3, fun k hk => ?_, fun k hk => ?_⟩
    · rw [ptP_N, if_neg h] at hk
      rw [ptP_X, ptP_Y, if_neg (fun z => h z.1), if_neg (fun z => h z.1)]; exact w4 k hk
    · rw [ptP_N, if_neg h] at hk
      rw [ptP_X, ptP_Y, ptP_X, ptP_Y, if_neg (fun z => h z.1), if_neg (fun z => h z.1), if_neg (fun z => h z.1), if_neg (fun z => h z.1)]; exact w5 k hk
theorem kh_takes (C : ShC P fl σ) (Lc : LfC P (pLf P) σ) (W : Wf P) {s u v : Nat} (hs : s < pM P) (hu : u ≤ 500) (hv : v ≤ 500) : dX tb d 57 0 [.ref (5 + 5 * s), .int (Int32.ofNat u), .int (Int32.ofNat v)] [] (c, t, hp g (SH fl tg) σ) = some (some (.int (bI (takB P s u v))), (c, t, hp g (SH fl tg) σ)) := by
  have hm := W.1
  obtain ⟨b0, b1, b2, b4, b5, b6⟩ := C.2.2.1 s hs
  have w := W.2.1 s hs
  have w1 := w.1
  rw [sg_X5_takes_0]
  unfold takB
  simp (disch := omega) only [bq_s, aq_I, aq_R, aq_V, cq_t, cq_f, if_true, if_false, Bool.true_and, Bool.and_true, Bool.or_true, Bool.true_or, gi_1_3, gi_s, pi_1_3, pi_s, gr_0_0, gr_0_1, gr_0_2, gr_0_3, gr_1_0, gr_1_1, gr_1_2, gr_s_7, gr_s_8, gr_s_9, gr_s_10, ld_3, ld_4, ld_x, ld_y, ld_u, ld_v, sv_3, sv_4, sv_x, sv_y, sv_u, sv_v, is_0, is_1, is_s, lr_2, ia_0, ia_1, is_m0, is_m1, im_8, ml_8, im_11, ml_11, im_12, ml_12, im_88, ml_88, im_89, ml_89, j_lt_0, j_gt_0, j_le_0, j_ge_0, j_eq_0, j_lt_1, j_gt_1, j_le_1, j_ge_1, j_eq_1, j_lt_2, j_gt_2, j_le_2, j_ge_2, j_eq_2, j_lt_3, j_gt_3, j_le_3, j_ge_3, j_eq_3, j_lt_4, j_gt_4, j_le_4, j_ge_4, j_eq_4, j_lt_5, j_gt_5, j_le_5, j_ge_5, j_eq_5, j_lt_6, j_gt_6, j_le_6, j_ge_6, j_eq_6, j_lt_8, j_gt_8, j_le_8, j_ge_8, j_eq_8, j_lt_12, j_gt_12, j_le_12, j_ge_12, j_eq_12, j_lt_209, j_gt_209, j_le_209, j_ge_209, j_eq_209, j_lt_255, j_gt_255, j_le_255, j_ge_255, j_eq_255, j_lt_1000000000, j_gt_1000000000, j_le_1000000000, j_ge_1000000000, j_eq_1000000000, b2, b4, Lc s hs, bI_0]
  cases q1 : pLf P s
  · rw [if_pos rfl]; rfl
  · rw [if_neg (by decide)]
    cases q2 : pCut P s
    · rw [if_pos rfl]
      by_cases q3 : pN P s < 12
      · rw [if_pos q3, decide_eq_true q3]
        unfold sameL
        by_cases q4 : pN P s = 0
        · rw [if_pos q4, decide_eq_false (by omega)]; rfl
        · rw [if_neg q4, decide_eq_true (by omega)]
          have hk := b6 (pN P s - 1) (by omega)
          have wk := w.2.2.2.1 (pN P s - 1) (by omega)
          simp (disch := omega) only [bq_s, aq_I, aq_R, aq_V, cq_t, cq_f, if_true, if_false, Bool.true_and, Bool.and_true, Bool.or_true, Bool.true_or, gi_1_3, gi_s, pi_1_3, pi_s, gr_0_0, gr_0_1, gr_0_2, gr_0_3, gr_1_0, gr_1_1, gr_1_2, gr_s_7, gr_s_8, gr_s_9, gr_s_10, ld_3, ld_4, ld_x, ld_y, ld_u, ld_v, sv_3, sv_4, sv_x, sv_y, sv_u, sv_v, is_0, is_1, is_s, lr_2, ia_0, ia_1, is_m0, is_m1, im_8, ml_8, im_11, ml_11, im_12, ml_12, im_88, ml_88, im_89, ml_89, j_lt_0, j_gt_0, j_le_0, j_ge_0, j_eq_0, j_lt_1, j_gt_1, j_le_1, j_ge_1, j_eq_1, j_lt_2, j_gt_2, j_le_2, j_ge_2, j_eq_2, j_lt_3, j_gt_3, j_le_3, j_ge_3, j_eq_3, j_lt_4, j_gt_4, j_le_4, j_ge_4, j_eq_4, j_lt_5, j_gt_5, j_le_5, j_ge_5, j_eq_5, j_lt_6, j_gt_6, j_le_6, j_ge_6, j_eq_6, j_lt_8, j_gt_8, j_le_8, j_ge_8, j_eq_8, j_lt_12, j_gt_12, j_le_12, j_ge_12, j_eq_12, j_lt_209, j_gt_209, j_le_209, j_ge_209, j_eq_209, j_lt_255, j_gt_255, j_le_255, j_ge_255, j_eq_255, j_lt_1000000000, j_gt_1000000000, j_le_1000000000, j_ge_1000000000, j_eq_1000000000, hk.1, hk.2, i_eq]
          by_cases q5 : pX P s (pN P s - 1) = u
          · rw [if_pos q5, decide_eq_true q5]
            by_cases q6 : pY P s (pN P s - 1) = v
            · rw [if_pos q6, decide_eq_true q6]; rfl
            · rw [if_neg q6, decide_eq_false q6]; rfl
          · rw [if_neg q5, decide_eq_false q5]; rfl
      · rw [if_neg q3, decide_eq_false q3]; rfl
    · rw [if_neg (by decide)]; rfl
theorem kh_addP (C : ShC P fl σ) (W : Wf P) {s u v : Nat} (hs : s < pM P) (hn : pN P s < 12) (hc : pCut P s = false) (hu : u ≤ 500) (hv : v ≤ 500) : dX tb d 58 0 [.ref (5 + 5 * s), .int (Int32.ofNat u), .int (Int32.ofNat v)] [] (c, t, hp g (SH fl tg) σ) = some (some (.int (Int32.ofNat (pN P s + 1))), (c, t, hp g (SH fl tg) (up2 (up2 (up2 (up2 σ (xA fl s) (pN P s) (Int32.ofNat u)) (yA fl s) (pN P s) (Int32.ofNat v)) (5 + 5 * s) 2 (Int32.ofNat (pN P s + 1))) (5 + 5 * s) 5 (bI (clo (ptP P s u v) s))))) := by
  have hm := W.1
  obtain ⟨b0, b1, b2, b4, b5, b6⟩ := C.2.2.1 s hs
  have w := W.2.1 s hs
  have rx := xA_r fl s
  have ry := yA_r fl s
  rw [sg_X5_addPoint_0, ptP_clo' hc]
  simp (disch := omega) only [bq_s, aq_I, aq_R, aq_V, cq_t, cq_f, if_true, if_false, Bool.true_and, Bool.and_true, Bool.or_true, Bool.true_or, gi_1_3, gi_s, pi_1_3, pi_s, gr_0_0, gr_0_1, gr_0_2, gr_0_3, gr_1_0, gr_1_1, gr_1_2, gr_s_7, gr_s_8, gr_s_9, gr_s_10, ld_3, ld_4, ld_x, ld_y, ld_u, ld_v, sv_3, sv_4, sv_x, sv_y, sv_u, sv_v, is_0, is_1, is_s, lr_2, ia_0, ia_1, is_m0, is_m1, im_8, ml_8, im_11, ml_11, im_12, ml_12, im_88, ml_88, im_89, ml_89, j_lt_0, j_gt_0, j_le_0, j_ge_0, j_eq_0, j_lt_1, j_gt_1, j_le_1, j_ge_1, j_eq_1, j_lt_2, j_gt_2, j_le_2, j_ge_2, j_eq_2, j_lt_3, j_gt_3, j_le_3, j_ge_3, j_eq_3, j_lt_4, j_gt_4, j_le_4, j_ge_4, j_eq_4, j_lt_5, j_gt_5, j_le_5, j_ge_5, j_eq_5, j_lt_6, j_gt_6, j_le_6, j_ge_6, j_eq_6, j_lt_8, j_gt_8, j_le_8, j_ge_8, j_eq_8, j_lt_12, j_gt_12, j_le_12, j_ge_12, j_eq_12, j_lt_209, j_gt_209, j_le_209, j_ge_209, j_eq_209, j_lt_255, j_gt_255, j_le_255, j_ge_255, j_eq_255, j_lt_1000000000, j_gt_1000000000, j_le_1000000000, j_ge_1000000000, j_eq_1000000000, b2, up2_n, up2_s]
  by_cases q : pN P s + 1 < 4
  · rw [if_pos q, decide_eq_false (by omega)]; rfl
  · rw [if_neg q, decide_eq_true (by omega)]
    have hk := b6 0 (by omega)
    have wk := w.2.2.2.1 0 (by omega)
    simp (disch := omega) only [bq_s, aq_I, aq_R, aq_V, cq_t, cq_f, if_true, if_false, Bool.true_and, Bool.and_true, Bool.or_true, Bool.true_or, gi_1_3, gi_s, pi_1_3, pi_s, gr_0_0, gr_0_1, gr_0_2, gr_0_3, gr_1_0, gr_1_1, gr_1_2, gr_s_7, gr_s_8, gr_s_9, gr_s_10, ld_3, ld_4, ld_x, ld_y, ld_u, ld_v, sv_3, sv_4, sv_x, sv_y, sv_u, sv_v, is_0, is_1, is_s, lr_2, ia_0, ia_1, is_m0, is_m1, im_8, ml_8, im_11, ml_11, im_12, ml_12, im_88, ml_88, im_89, ml_89, j_lt_0, j_gt_0, j_le_0, j_ge_0, j_eq_0, j_lt_1, j_gt_1, j_le_1, j_ge_1, j_eq_1, j_lt_2, j_gt_2, j_le_2, j_ge_2, j_eq_2, j_lt_3, j_gt_3, j_le_3, j_ge_3, j_eq_3, j_lt_4, j_gt_4, j_le_4, j_ge_4, j_eq_4, j_lt_5, j_gt_5, j_le_5, j_ge_5, j_eq_5, j_lt_6, j_gt_6, j_le_6, j_ge_6, j_eq_6, j_lt_8, j_gt_8, j_le_8, j_ge_8, j_eq_8, j_lt_12, j_gt_12, j_le_12, j_ge_12, j_eq_12, j_lt_209, j_gt_209, j_le_209, j_ge_209, j_eq_209, j_lt_255, j_gt_255, j_le_255, j_ge_255, j_eq_255, j_lt_1000000000, j_gt_1000000000, j_le_1000000000, j_ge_1000000000, j_eq_1000000000, lp_0, lp_1, lp_2, lp_3, lp_4, lq_0, lq_1, lq_2, lq_3, lq_4, lx_0, ly_0, up2_n, up2_s, hk.1, hk.2, i_eq]
    by_cases q5 : pX P s 0 = u
    · rw [if_pos q5, decide_eq_true q5]
      by_cases q6 : pY P s 0 = v
      · rw [if_pos q6, decide_eq_true q6]; rfl
      · rw [if_neg q6, decide_eq_false q6]; rfl
    · rw [if_neg q5, decide_eq_false q5]; rfl
theorem kq_point (W : Wf P) (H : CN P A T w e n j fl tg c σ) (x y z : Int32) : (okPt P x y z = false → dX tb (d + 2) 72 0 [.ref 0, .int x, .int y, .int z] [] (c, t, hp g (SH fl tg) σ) = some (some (.int (-1)), (c, t, hp g (SH fl tg) σ))) ∧ (okPt P x y z = true → ∃ τ, dX tb (d + 2) 72 0 [.ref 0, .int x, .int y, .int z] [] (c, t, hp g (SH fl tg) σ) = some (some (.int (Int32.ofNat (pN P (tN x) + 1))), (c, t, hp g (SH fl tg) τ)) ∧ CN (ptP P (tN x) (tN y) (tN z)) A T w e n j fl tg c τ ∧ ∀ a, 270 ≤ a → τ a = σ a) := by
  have hm := W.1
  obtain ⟨C, Lc, Hh, h4, h5, h6, h7, h8, h9, h10, h11, h12⟩ := H
  have C1 := C.1
  unfold okPt
  constructor
  · intro hq
    rw [sg_X6_point_0]
    simp (disch := omega) only [bq_s, aq_I, aq_R, aq_V, cq_t, cq_f, if_true, if_false, Bool.true_and, Bool.and_true, Bool.or_true, Bool.true_or, gi_1_3, gi_s, pi_1_3, pi_s, gr_0_0, gr_0_1, gr_0_2, gr_0_3, gr_1_0, gr_1_1, gr_1_2, gr_s_7, gr_s_8, gr_s_9, gr_s_10, ld_3, ld_4, ld_x, ld_y, ld_u, ld_v, sv_3, sv_4, sv_x, sv_y, sv_u, sv_v, is_0, is_1, is_s, lr_2, gi_45_0, gi_45_1, gi_45_2, gi_45_3, gi_59_0, gi_59_1, gi_59_2, gi_59_3, gi_57_3, gi_57_4, gi_57_6, gi_57_8, gi_57_9, gi_57_10, gi_57_11, gi_57_12, gi_57_13, gi_57_14, gi_l, pi_45_0, pi_45_1, pi_45_2, pi_45_3, pi_59_0, pi_59_1, pi_59_2, pi_59_3, pi_57_3, pi_57_4, pi_57_6, pi_57_8, pi_57_9, pi_57_10, pi_57_11, pi_57_12, pi_57_13, pi_57_14, pi_l, gr_57_0, gr_57_1, gr_57_2, gr_57_5, gr_57_7, ld_60, sv_60, is_45, is_59, is_57, is_l, lr_58, ia_0, ia_1, is_m0, is_m1, im_8, ml_8, im_11, ml_11, im_12, ml_12, im_88, ml_88, im_89, ml_89, j_lt_0, j_gt_0, j_le_0, j_ge_0, j_eq_0, j_lt_1, j_gt_1, j_le_1, j_ge_1, j_eq_1, j_lt_2, j_gt_2, j_le_2, j_ge_2, j_eq_2, j_lt_3, j_gt_3, j_le_3, j_ge_3, j_eq_3, j_lt_4, j_gt_4, j_le_4, j_ge_4, j_eq_4, j_lt_5, j_gt_5, j_le_5, j_ge_5, j_eq_5, j_lt_6, j_gt_6, j_le_6, j_ge_6, j_eq_6, j_lt_8, j_gt_8, j_le_8, j_ge_8, j_eq_8, j_lt_12, j_gt_12, j_le_12, j_ge_12, j_eq_12, j_lt_209, j_gt_209, j_le_209, j_ge_209, j_eq_209, j_lt_255, j_gt_255, j_le_255, j_ge_255, j_eq_255, j_lt_1000000000, j_gt_1000000000, j_le_1000000000, j_ge_1000000000, j_eq_1000000000, h4, kh_has C W, bI_0]
    cases q1 : inR (pM P) x
    · rw [if_pos rfl]
    · rw [if_neg (by decide)]
      rw [q1, Bool.true_and] at hq
      obtain ⟨s, hs, rfl, es⟩ := inR_ex (by omega) q1
      rw [es] at hq
      have hI : (Int32.ofNat s = Int32.ofNat (pM P - 1)) = (s = pM P - 1) := i_eq (by omega) (by omega)
      rw [C1, is_m1 (by omega)]
      by_cases q2 : s + 1 = pM P
      · rw [if_pos (by rw [hI]; omega), kw_500, aq_I]
        rw [decide_eq_true q2, Bool.true_and] at hq
        cases q3 : inR 501 y
        · rw [if_pos (by decide)]
        · rw [if_neg (by decide), kw_500, aq_I]
          rw [q3, Bool.true_and] at hq
          cases q4 : inR 501 z
          · rw [if_pos (by decide)]
          · rw [if_neg (by decide)]
            rw [q4, Bool.true_and] at hq
            obtain ⟨u, hu, rfl, eu⟩ := inR_ex (by omega) q3
            obtain ⟨v, hv, rfl, ev⟩ := inR_ex (by omega) q4
            rw [eu, ev] at hq
            simp (disch := omega) only [bq_s, aq_I, aq_R, aq_V, cq_t, cq_f, if_true, if_false, Bool.true_and, Bool.and_true, Bool.or_true, Bool.true_or, gi_1_3, gi_s, pi_1_3, pi_s, gr_0_0, gr_0_1, gr_0_2, gr_0_3, gr_1_0, gr_1_1, gr_1_2, gr_s_7, gr_s_8, gr_s_9, gr_s_10, ld_3, ld_4, ld_x, ld_y, ld_u, ld_v, sv_3, sv_4, sv_x, sv_y, sv_u, sv_v, is_0, is_1, is_s, lr_2, ia_0, ia_1, is_m0, is_m1, im_8, ml_8, im_11, ml_11, im_12, ml_12, im_88, ml_88, im_89, ml_89, j_lt_0, j_gt_0, j_le_0, j_ge_0, j_eq_0, j_lt_1, j_gt_1, j_le_1, j_ge_1, j_eq_1, j_lt_2, j_gt_2, j_le_2, j_ge_2, j_eq_2, j_lt_3, j_gt_3, j_le_3, j_ge_3, j_eq_3, j_lt_4, j_gt_4, j_le_4, j_ge_4, j_eq_4, j_lt_5, j_gt_5, j_le_5, j_ge_5, j_eq_5, j_lt_6, j_gt_6, j_le_6, j_ge_6, j_eq_6, j_lt_8, j_gt_8, j_le_8, j_ge_8, j_eq_8, j_lt_12, j_gt_12, j_le_12, j_ge_12, j_eq_12, j_lt_209, j_gt_209, j_le_209, j_ge_209, j_eq_209, j_lt_255, j_gt_255, j_le_255, j_ge_255, j_eq_255, j_lt_1000000000, j_gt_1000000000, j_le_1000000000, j_ge_1000000000, j_eq_1000000000, kh_takes C Lc W, hq, bI_0]
      · rw [if_neg (by rw [hI]; omega)]
  · intro hq
    rw [Bool.and_eq_true, Bool.and_eq_true, Bool.and_eq_true, Bool.and_eq_true, decide_eq_true_eq] at hq
    obtain ⟨q1, q2, q3, q4, q5⟩ := hq
    obtain ⟨s, hs, rfl, es⟩ := inR_ex (by omega) q1
    obtain ⟨u, hu, rfl, eu⟩ := inR_ex (by omega) q3
    obtain ⟨v, hv, rfl, ev⟩ := inR_ex (by omega) q4
    rw [es] at q2 q5 ⊢
    rw [eu, ev] at q5 ⊢
    have q5' := q5
    unfold takB at q5'
    rw [Bool.and_eq_true, Bool.and_eq_true, Bool.and_eq_true, decide_eq_true_eq, Bool.not_eq_true', Bool.not_eq_true'] at q5'
    obtain ⟨t1, t2, t3, t4⟩ := q5'
    have W' := ptP_Wf W hs (by omega) (by omega) t3 t4
    have rx := xA_r fl s
    have ry := yA_r fl s
    have Cf : ShC P fl (up2 σ 46 10 0) := ShC_congr W C fun a ha => up2_row _ _ (by omega)
    have hI : (Int32.ofNat s = Int32.ofNat (pM P - 1)) = (s = pM P - 1) := i_eq (by omega) (by omega)
    have hE : s = pM P - 1 := by omega
    refine ⟨up2 (up2 (up2 (up2 (up2 σ 46 10 0) (xA fl s) (pN P s) (Int32.ofNat u)) (yA fl s) (pN P s) (Int32.ofNat v)) (5 + 5 * s) 2 (Int32.ofNat (pN P s + 1))) (5 + 5 * s) 5 (bI (clo (ptP P s u v) s)), ?_, ⟨⟨?_, ?_, ?_, ?_⟩, ?_, ?_, ?_, ?_, ?_, ?_, ?_, ?_, ?_, ?_, h12⟩, ?_⟩
    · rw [sg_X6_point_0]
      simp (disch := omega) only [bq_s, aq_I, aq_R, aq_V, cq_t, cq_f, if_true, if_false, Bool.true_and, Bool.and_true, Bool.or_true, Bool.true_or, gi_1_3, gi_s, pi_1_3, pi_s, gr_0_0, gr_0_1, gr_0_2, gr_0_3, gr_1_0, gr_1_1, gr_1_2, gr_s_7, gr_s_8, gr_s_9, gr_s_10, ld_3, ld_4, ld_x, ld_y, ld_u, ld_v, sv_3, sv_4, sv_x, sv_y, sv_u, sv_v, is_0, is_1, is_s, lr_2, gi_45_0, gi_45_1, gi_45_2, gi_45_3, gi_59_0, gi_59_1, gi_59_2, gi_59_3, gi_57_3, gi_57_4, gi_57_6, gi_57_8, gi_57_9, gi_57_10, gi_57_11, gi_57_12, gi_57_13, gi_57_14, gi_l, pi_45_0, pi_45_1, pi_45_2, pi_45_3, pi_59_0, pi_59_1, pi_59_2, pi_59_3, pi_57_3, pi_57_4, pi_57_6, pi_57_8, pi_57_9, pi_57_10, pi_57_11, pi_57_12, pi_57_13, pi_57_14, pi_l, gr_57_0, gr_57_1, gr_57_2, gr_57_5, gr_57_7, ld_60, sv_60, is_45, is_59, is_57, is_l, lr_58, ia_0, ia_1, is_m0, is_m1, im_8, ml_8, im_11, ml_11, im_12, ml_12, im_88, ml_88, im_89, ml_89, j_lt_0, j_gt_0, j_le_0, j_ge_0, j_eq_0, j_lt_1, j_gt_1, j_le_1, j_ge_1, j_eq_1, j_lt_2, j_gt_2, j_le_2, j_ge_2, j_eq_2, j_lt_3, j_gt_3, j_le_3, j_ge_3, j_eq_3, j_lt_4, j_gt_4, j_le_4, j_ge_4, j_eq_4, j_lt_5, j_gt_5, j_le_5, j_ge_5, j_eq_5, j_lt_6, j_gt_6, j_le_6, j_ge_6, j_eq_6, j_lt_8, j_gt_8, j_le_8, j_ge_8, j_eq_8, j_lt_12, j_gt_12, j_le_12, j_ge_12, j_eq_12, j_lt_209, j_gt_209, j_le_209, j_ge_209, j_eq_209, j_lt_255, j_gt_255, j_le_255, j_ge_255, j_eq_255, j_lt_1000000000, j_gt_1000000000, j_le_1000000000, j_ge_1000000000, j_eq_1000000000, h4, kh_has C W, bI_0, q1, Bool.true_eq_false, C1]
      rw [if_pos (by rw [hI]; exact hE)]
      simp (disch := omega) only [bq_s, aq_I, aq_R, aq_V, cq_t, cq_f, if_true, if_false, Bool.true_and, Bool.and_true, Bool.or_true, Bool.true_or, gi_1_3, gi_s, pi_1_3, pi_s, gr_0_0, gr_0_1, gr_0_2, gr_0_3, gr_1_0, gr_1_1, gr_1_2, gr_s_7, gr_s_8, gr_s_9, gr_s_10, ld_3, ld_4, ld_x, ld_y, ld_u, ld_v, sv_3, sv_4, sv_x, sv_y, sv_u, sv_v, is_0, is_1, is_s, lr_2, gi_45_0, gi_45_1, gi_45_2, gi_45_3, gi_47_0, gi_47_1, gi_47_2, gi_47_3, gi_46_8, gi_46_9, gi_46_10, gi_46_15, gi_46_16, pi_45_0, pi_45_1, pi_45_2, pi_45_3, pi_47_0, pi_47_1, pi_47_2, pi_47_3, pi_46_8, pi_46_9, pi_46_10, pi_46_15, pi_46_16, gr_46_0, gr_46_1, gr_46_2, gr_46_3, gr_46_4, gr_46_5, gr_46_6, gr_46_7, gr_46_11, gr_46_12, gr_46_13, gr_46_14, ld_50, ld_51, ld_52, ld_53, ld_54, ld_55, ld_56, ld_t, ld_b, sv_50, sv_51, sv_52, sv_53, sv_54, sv_55, sv_56, sv_t, sv_b, is_45, is_47, is_46, ia_0, ia_1, is_m0, is_m1, im_8, ml_8, im_11, ml_11, im_12, ml_12, im_88, ml_88, im_89, ml_89, j_lt_0, j_gt_0, j_le_0, j_ge_0, j_eq_0, j_lt_1, j_gt_1, j_le_1, j_ge_1, j_eq_1, j_lt_2, j_gt_2, j_le_2, j_ge_2, j_eq_2, j_lt_3, j_gt_3, j_le_3, j_ge_3, j_eq_3, j_lt_4, j_gt_4, j_le_4, j_ge_4, j_eq_4, j_lt_5, j_gt_5, j_le_5, j_ge_5, j_eq_5, j_lt_6, j_gt_6, j_le_6, j_ge_6, j_eq_6, j_lt_8, j_gt_8, j_le_8, j_ge_8, j_eq_8, j_lt_12, j_gt_12, j_le_12, j_ge_12, j_eq_12, j_lt_209, j_gt_209, j_le_209, j_ge_209, j_eq_209, j_lt_255, j_gt_255, j_le_255, j_ge_255, j_eq_255, j_lt_1000000000, j_gt_1000000000, j_le_1000000000, j_ge_1000000000, j_eq_1000000000, kw_500, q3, q4, bI_0, Bool.true_eq_false, kh_takes C Lc W, q5, sg_X2_forget_0, kh_addP Cf W hs t3 t2]
    · simp (disch := omega) only [up2_row]; exact C1
    · intro k hk; simp (disch := omega) only [up2_row]; exact C.2.1 k hk
    · intro i hi
      have hi' : i < pM P := hi
      obtain ⟨b0, b1, b2, b4, b5, b6⟩ := C.2.2.1 i hi
      have rx' := xA_r fl i
      have ry' := yA_r fl i
      by_cases h : i = s
      · subst h
        refine ⟨?_, ?_, ?_, ?_, ?_, fun k hk => ?_⟩
        · simp (disch := omega) only [up2_n]; exact b0
        · simp (disch := omega) only [up2_n]; exact b1
        · simp (disch := omega) only [up2_n, up2_s]; rw [ptP_N, if_pos rfl]
        · simp (disch := omega) only [up2_n]; exact b4
        · simp (disch := omega) only [up2_s]
        · rw [ptP_N, if_pos rfl] at hk
          rw [ptP_X, ptP_Y]
          by_cases q : k = pN P i
          · subst q; rw [if_pos ⟨rfl, rfl⟩, if_pos ⟨rfl, rfl⟩]; simp (disch := omega) only [up2_n, up2_s]; exact ⟨trivial, trivial⟩
          · rw [if_neg (fun z => q z.2), if_neg (fun z => q z.2)]; simp (disch := omega) only [up2_n]; exact b6 k (by omega)
      · unfold StC
        simp (disch := omega) only [up2_row]
        rw [ptP_N, if_neg h, ptP_clo h]
        refine ⟨b0, b1, b2, b4, b5, fun k hk => ?_⟩
        rw [ptP_X, ptP_Y, if_neg (fun z => h z.1), if_neg (fun z => h z.1)]; exact b6 k hk
    · intro i hi; simp (disch := omega) only [up2_row]; rw [C.2.2.2 i hi]; rfl
    · intro i hi
      have hi' : i < pM P := hi
      have rx' := xA_r fl i
      have ry' := yA_r fl i
      simp (disch := omega) only [up2_n]; exact Lc i hi
    · exact HdC_congr (by simp (disch := omega) only [up2_row]) Hh
    · simp (disch := omega) only [up2_row]; exact h4
    · simp (disch := omega) only [up2_row]; exact h5
    · simp (disch := omega) only [up2_row]; exact h6
    · simp (disch := omega) only [up2_row]; exact h7
    · intro i hi
      have hi' : i < pM P := hi
      simp (disch := omega) only [up2_n]; exact h8 i hi
    · simp (disch := omega) only [up2_row]; exact h9
    · simp (disch := omega) only [up2_row]; exact h10
    · left; simp (disch := omega) only [up2_row, up2_s]
    · intro a ha; simp (disch := omega) only [up2_row]
end PNT
