/-! point, the reference's side -/
section MPN
variable {tb : dT} {d c t : Nat} {g : Nat → Option dE} {fl : Nat → Bool} {tg : Nat} {σ : dSg} {P : dP} {A : dA} {T w : Nat} {e : Nat → Option Nat} {n j : Int32}
theorem mh_124 (C : ShM P σ) (W : Wf P) {s u v : Nat} (hs : s < pM P) (hn : pN P s < 12) : dX tb (d + 1) 98 124 [.ref 270, .int (Int32.ofNat s), .int (Int32.ofNat u), .int (Int32.ofNat v), .int (Int32.ofNat (pN P s))] [] (c, t, hp g (SH fl tg) σ) = some (some (.int (Int32.ofNat (pN P s + 1))), (c, t, hp g (SH fl tg) (up2 (up2 (up2 σ 271 (12 * s + pN P s) (Int32.ofNat u)) 272 (12 * s + pN P s) (Int32.ofNat v)) 273 s (Int32.ofNat (pN P s + 1))))) := by
  have hm := W.1
  obtain ⟨b1, b2, b3, b4, b5, b6⟩ := C.2.2.1 s hs
  rw [sg_X7_point_124]
  simp (disch := omega) only [bq_s, aq_I, aq_R, aq_V, cq_t, cq_f, if_true, if_false, Bool.true_and, Bool.and_true, Bool.or_true, Bool.true_or, gi_270_0, gi_270_10, gi_270_11, gi_270_12, gi_270_13, gi_270_14, gi_270_15, gi_270_21, gi_270_22, gi_270_23, gi_270_34, gi_270_35, gi_270_36, pi_270_0, pi_270_10, pi_270_11, pi_270_12, pi_270_13, pi_270_14, pi_270_15, pi_270_21, pi_270_22, pi_270_23, pi_270_34, pi_270_35, pi_270_36, gr_270_1, gr_270_2, gr_270_3, gr_270_4, gr_270_5, gr_270_6, gr_270_7, gr_270_8, gr_270_9, gr_270_16, gr_270_17, gr_270_18, gr_270_19, gr_270_20, gr_270_24, gr_270_25, gr_270_26, gr_270_27, gr_270_28, gr_270_29, gr_270_30, gr_270_31, gr_270_32, gr_270_33, ld_271, ld_272, ld_273, ld_274, ld_275, ld_276, ld_277, ld_278, ld_279, ld_280, ld_281, ld_282, ld_283, ld_284, ld_285, ld_286, ld_287, ld_288, ld_289, ld_290, ld_291, ld_292, ld_293, ld_294, sv_271, sv_272, sv_273, sv_274, sv_275, sv_276, sv_277, sv_278, sv_279, sv_280, sv_281, sv_282, sv_283, sv_284, sv_285, sv_286, sv_287, sv_288, sv_289, sv_290, sv_291, sv_292, sv_293, sv_294, is_270, ia_0, ia_1, is_m0, is_m1, im_8, ml_8, im_11, ml_11, im_12, ml_12, im_88, ml_88, im_89, ml_89, j_lt_0, j_gt_0, j_le_0, j_ge_0, j_eq_0, j_lt_1, j_gt_1, j_le_1, j_ge_1, j_eq_1, j_lt_2, j_gt_2, j_le_2, j_ge_2, j_eq_2, j_lt_3, j_gt_3, j_le_3, j_ge_3, j_eq_3, j_lt_4, j_gt_4, j_le_4, j_ge_4, j_eq_4, j_lt_5, j_gt_5, j_le_5, j_ge_5, j_eq_5, j_lt_6, j_gt_6, j_le_6, j_ge_6, j_eq_6, j_lt_8, j_gt_8, j_le_8, j_ge_8, j_eq_8, j_lt_12, j_gt_12, j_le_12, j_ge_12, j_eq_12, j_lt_209, j_gt_209, j_le_209, j_ge_209, j_eq_209, j_lt_255, j_gt_255, j_le_255, j_ge_255, j_eq_255, j_lt_1000000000, j_gt_1000000000, j_le_1000000000, j_ge_1000000000, j_eq_1000000000, i_add, up2_row, b1]
theorem mh_pt (C : ShM P σ) (W : Wf P) {s u v : Nat} (hs : s < pM P) (hn : pN P s < 12) (hu : u ≤ 500) (hv : v ≤ 500) : (if Int32.ofNat (pN P s) ≤ 0 then (dX tb (d + 1) 98 124 [.ref 270, .int (Int32.ofNat s), .int (Int32.ofNat u), .int (Int32.ofNat v), .int (Int32.ofNat (pN P s))] [] (c, t, hp g (SH fl tg) σ)) else (bif (dm_obj (c, t, hp g (SH fl tg) σ) 270 7).isSome then dm_asI (dX tb d 93 0 [.ref 270, .int (Int32.ofNat s), .int (Int32.ofNat (pN P s) - 1)] [] (c, t, hp g (SH fl tg) σ)) fun r4 h5 => if r4 = Int32.ofNat u then (bif (dm_obj h5 270 7).isSome then dm_asI (dX tb d 94 0 [.ref 270, .int (Int32.ofNat s), .int (Int32.ofNat (pN P s) - 1)] [] h5) fun r5 h6 => if r5 = Int32.ofNat v then (some (some (.int (-1)), h6)) else (dX tb (d + 1) 98 124 [.ref 270, .int (Int32.ofNat s), .int (Int32.ofNat u), .int (Int32.ofNat v), .int (Int32.ofNat (pN P s))] [] h6) else none) else (dX tb (d + 1) 98 124 [.ref 270, .int (Int32.ofNat s), .int (Int32.ofNat u), .int (Int32.ofNat v), .int (Int32.ofNat (pN P s))] [] h5) else none)) = bif sameL P s u v then some (some (.int (-1)), (c, t, hp g (SH fl tg) σ)) else some (some (.int (Int32.ofNat (pN P s + 1))), (c, t, hp g (SH fl tg) (up2 (up2 (up2 σ 271 (12 * s + pN P s) (Int32.ofNat u)) 272 (12 * s + pN P s) (Int32.ofNat v)) 273 s (Int32.ofNat (pN P s + 1))))) := by
  have w := W.2.1 s hs
  unfold sameL
  simp (disch := omega) only [mh_124 C W hs hn, j_le_0]
  by_cases q4 : pN P s = 0
  · rw [if_pos (by omega), decide_eq_false (by omega)]; rfl
  · rw [if_neg (by omega), decide_eq_true (by omega)]
    have wk := w.2.2.2.1 (pN P s - 1) (by omega)
    simp (disch := omega) only [bq_s, aq_I, aq_R, aq_V, cq_t, cq_f, if_true, if_false, Bool.true_and, Bool.and_true, Bool.or_true, Bool.true_or, gi_270_0, gi_270_10, gi_270_11, gi_270_12, gi_270_13, gi_270_14, gi_270_15, gi_270_21, gi_270_22, gi_270_23, gi_270_34, gi_270_35, gi_270_36, pi_270_0, pi_270_10, pi_270_11, pi_270_12, pi_270_13, pi_270_14, pi_270_15, pi_270_21, pi_270_22, pi_270_23, pi_270_34, pi_270_35, pi_270_36, gr_270_1, gr_270_2, gr_270_3, gr_270_4, gr_270_5, gr_270_6, gr_270_7, gr_270_8, gr_270_9, gr_270_16, gr_270_17, gr_270_18, gr_270_19, gr_270_20, gr_270_24, gr_270_25, gr_270_26, gr_270_27, gr_270_28, gr_270_29, gr_270_30, gr_270_31, gr_270_32, gr_270_33, ld_271, ld_272, ld_273, ld_274, ld_275, ld_276, ld_277, ld_278, ld_279, ld_280, ld_281, ld_282, ld_283, ld_284, ld_285, ld_286, ld_287, ld_288, ld_289, ld_290, ld_291, ld_292, ld_293, ld_294, sv_271, sv_272, sv_273, sv_274, sv_275, sv_276, sv_277, sv_278, sv_279, sv_280, sv_281, sv_282, sv_283, sv_284, sv_285, sv_286, sv_287, sv_288, sv_289, sv_290, sv_291, sv_292, sv_293, sv_294, is_270, ia_0, ia_1, is_m0, is_m1, im_8, ml_8, im_11, ml_11, im_12, ml_12, im_88, ml_88, im_89, ml_89, j_lt_0, j_gt_0, j_le_0, j_ge_0, j_eq_0, j_lt_1, j_gt_1, j_le_1, j_ge_1, j_eq_1, j_lt_2, j_gt_2, j_le_2, j_ge_2, j_eq_2, j_lt_3, j_gt_3, j_le_3, j_ge_3, j_eq_3, j_lt_4, j_gt_4, j_le_4, j_ge_4, j_eq_4, j_lt_5, j_gt_5, j_le_5, j_ge_5, j_eq_5, j_lt_6, j_gt_6, j_le_6, j_ge_6, j_eq_6, j_lt_8, j_gt_8, j_le_8, j_ge_8, j_eq_8, j_lt_12, j_gt_12, j_le_12, j_ge_12, j_eq_12, j_lt_209, j_gt_209, j_le_209, j_ge_209, j_eq_209, j_lt_255, j_gt_255, j_le_255, j_ge_255, j_eq_255, j_lt_1000000000, j_gt_1000000000, j_le_1000000000, j_ge_1000000000, j_eq_1000000000, km_x C W hs, km_y C W hs, i_eq]
    by_cases q5 : pX P s (pN P s - 1) = u
    · rw [if_pos q5, decide_eq_true q5]
      by_cases q6 : pY P s (pN P s - 1) = v
      · rw [if_pos q6, decide_eq_true q6]; rfl
      · rw [if_neg q6, decide_eq_false q6]; simp (disch := omega) only [mh_124 C W hs hn]; rfl
    · rw [if_neg q5, decide_eq_false q5]; simp (disch := omega) only [mh_124 C W hs hn]; rfl
theorem mq_point (W : Wf P) (H : MN P A T w e n j σ) (x y z : Int32) : (okPt P x y z = false → dX tb (d + 2) 98 0 [.ref 270, .int x, .int y, .int z, .null] [] (c, t, hp g (SH fl tg) σ) = some (some (.int (-1)), (c, t, hp g (SH fl tg) (up2 σ 270 0 0)))) ∧ (okPt P x y z = true → ∃ τ, dX tb (d + 2) 98 0 [.ref 270, .int x, .int y, .int z, .null] [] (c, t, hp g (SH fl tg) σ) = some (some (.int (Int32.ofNat (pN P (tN x) + 1))), (c, t, hp g (SH fl tg) τ)) ∧ MN (ptP P (tN x) (tN y) (tN z)) A T w e n j τ ∧ ∀ a, a < 270 ∨ 295 ≤ a → τ a = σ a) := by
  have hm := W.1
  have H0 : MN P A T w e n j (up2 σ 270 0 0) := MN_congr (fun a a1 _ => up2_row _ _ (by omega)) (fun k hk => up2_n _ _ (by omega)) H
  have C0 := H0.1
  have C1 := C0.1
  obtain ⟨C, hA, h23, h36, ⟨l, l1, l2⟩, hE, h14, h15⟩ := H
  unfold okPt
  constructor
  · intro hq
    rw [sg_X7_point_0]
    rw [pi_270_0, bq_s, gi_270_23, bq_s, up2_n _ _ (by omega), h23, if_pos rfl, is_270, cq_t, mh_has C0, aq_I]
    cases q1 : inR (pM P) x
    · rw [if_pos (by decide)]
    · rw [if_neg (by decide), gi_270_10, bq_s]
      rw [q1, Bool.true_and] at hq
      obtain ⟨s, hs, rfl, es⟩ := inR_ex (by omega) q1
      rw [es] at hq
      have hI : (Int32.ofNat s = Int32.ofNat (pM P - 1)) = (s = pM P - 1) := i_eq (by omega) (by omega)
      rw [C1, is_m1 (by omega)]
      obtain ⟨b1, b2, b3, b4, b5, b6⟩ := C0.2.2.1 s hs
      have w := W.2.1 s hs
      have w1 := w.1
      by_cases q2 : s + 1 = pM P
      · rw [if_pos (by rw [hI]; omega)]
        rw [decide_eq_true q2, Bool.true_and] at hq
        rw [gr_270_7, bq_s, ld_277 (by omega), bq_s, b4]
        cases t1 : pLf P s
        · rw [if_pos (by decide)]
        · rw [if_neg (by decide), gr_270_8, bq_s, ld_278 (by omega), bq_s, b5]
          cases t2 : pCut P s
          · rw [if_pos (by decide), mw_500, aq_I]
            cases q3 : inR 501 y
            · rw [if_pos (by decide)]
            · rw [if_neg (by decide), mw_500, aq_I]
              rw [q3, Bool.true_and] at hq
              cases q4 : inR 501 z
              · rw [if_pos (by decide)]
              · rw [if_neg (by decide)]
                rw [q4, Bool.true_and] at hq
                obtain ⟨u, hu, rfl, eu⟩ := inR_ex (by omega) q3
                obtain ⟨v, hv, rfl, ev⟩ := inR_ex (by omega) q4
                rw [eu, ev] at hq
                rw [gr_270_3, bq_s, ld_273 (by omega), bq_s, b1]
                by_cases t3 : pN P s < 12
                · have n12 : ¬ Int32.ofNat (pN P s) = 12 := by rw [j_eq_12 (by omega)]; omega
                  rw [if_neg n12, bq_s, ld_273 (by omega), bq_s, b1]
                  refine (mh_pt C0 W hs t3 (by omega) (by omega)).trans ?_
                  unfold takB at hq
                  rw [t1, t2, decide_eq_true t3] at hq
                  have t4 : sameL P s u v = true := by cases h : sameL P s u v; rw [h] at hq; cases hq; rfl
                  rw [t4]; rfl
                · rw [if_pos (by rw [j_eq_12 (by omega)]; omega)]
          · rw [if_neg (by decide)]
      · rw [if_neg (by rw [hI]; omega)]
  · intro hq
    rw [Bool.and_eq_true, Bool.and_eq_true, Bool.and_eq_true, Bool.and_eq_true, decide_eq_true_eq] at hq
    obtain ⟨q1, q2, q3, q4, q5⟩ := hq
    obtain ⟨s, hs, rfl, es⟩ := inR_ex (by omega) q1
    obtain ⟨u, hu, rfl, eu⟩ := inR_ex (by omega) q3
    obtain ⟨v, hv, rfl, ev⟩ := inR_ex (by omega) q4
    rw [es] at q2 q5 ⊢
    rw [eu, ev] at q5 ⊢
    unfold takB at q5
    rw [Bool.and_eq_true, Bool.and_eq_true, Bool.and_eq_true, decide_eq_true_eq, Bool.not_eq_true', Bool.not_eq_true'] at q5
    obtain ⟨t1, t2, t3, t4⟩ := q5
    have hI : (Int32.ofNat s = Int32.ofNat (pM P - 1)) = (s = pM P - 1) := i_eq (by omega) (by omega)
    have hE' : s = pM P - 1 := by omega
    obtain ⟨b1, b2, b3, b4, b5, b6⟩ := C0.2.2.1 s hs
    refine ⟨up2 (up2 (up2 (up2 σ 270 0 0) 271 (12 * s + pN P s) (Int32.ofNat u)) 272 (12 * s + pN P s) (Int32.ofNat v)) 273 s (Int32.ofNat (pN P s + 1)), ?_, ⟨⟨?_, ?_, ?_, ?_⟩, ?_, ?_, ?_, ⟨l, PhM_congr (fun a a1 a2 => ?_) ?_ ?_ l1, l2⟩, ?_, ?_, ?_⟩, ?_⟩
    · rw [sg_X7_point_0]
      rw [pi_270_0, bq_s, gi_270_23, bq_s, up2_n _ _ (by omega), h23, if_pos rfl, is_270, cq_t, mh_has C0, aq_I, q1, if_neg (by decide), gi_270_10, bq_s, C1, is_m1 (by omega)]
      rw [if_pos (by rw [hI]; exact hE'), gr_270_7, bq_s, ld_277 (by omega), bq_s, b4, t1, if_neg (by decide), gr_270_8, bq_s, ld_278 (by omega), bq_s, b5, t2, if_pos (by decide)]
      rw [mw_500, aq_I, q3, if_neg (by decide), mw_500, aq_I, q4, if_neg (by decide)]
      rw [gr_270_3, bq_s, ld_273 (by omega), bq_s, b1]
      have n12 : ¬ Int32.ofNat (pN P s) = 12 := by rw [j_eq_12 (by omega)]; omega
      rw [if_neg n12, bq_s, ld_273 (by omega), bq_s, b1]
      refine (mh_pt C0 W hs t3 (by omega) (by omega)).trans ?_
      rw [t4]; rfl
    · simp (disch := omega) only [up2_n, up2_row]; exact C.1
    · intro k hk; simp (disch := omega) only [up2_row]; exact C.2.1 k hk
    · intro i hi
      have hi' : i < pM P := hi
      obtain ⟨d1, d2, d3, d4, d5, d6⟩ := C.2.2.1 i hi
      have w1 := (W.2.1 i hi).1
      unfold StM
      simp (disch := omega) only [up2_row]
      by_cases h : i = s
      · subst h
        refine ⟨?_, d2, d3, d4, d5, fun k hk => ?_⟩
        · rw [up2_s, ptP_N, if_pos rfl]
        · rw [ptP_N, if_pos rfl] at hk
          rw [ptP_X, ptP_Y]
          by_cases q : k = pN P i
          · subst q; rw [if_pos ⟨rfl, rfl⟩, if_pos ⟨rfl, rfl⟩, up2_s, up2_s]; exact ⟨rfl, rfl⟩
          · rw [if_neg (fun z => q z.2), if_neg (fun z => q z.2)]; simp (disch := omega) only [up2_n, up2_row]; exact d6 k (by omega)
      · rw [ptP_N, if_neg h]
        refine ⟨by rw [up2_n _ _ (by omega)]; exact d1, d2, d3, d4, d5, fun k hk => ?_⟩
        rw [ptP_X, ptP_Y, if_neg (fun z => h z.1), if_neg (fun z => h z.1)]
        simp (disch := omega) only [up2_n, up2_row]; exact d6 k hk
    · intro i o hi ho; simp (disch := omega) only [up2_row]; exact C.2.2.2 i o hi ho
    · unfold ArM; simp (disch := omega) only [up2_n, up2_row]; exact hA
    · simp (disch := omega) only [up2_n, up2_row]; exact h23
    · simp (disch := omega) only [up2_n, up2_row]; exact h36
    · simp (disch := omega) only [up2_row]
    · simp (disch := omega) only [up2_n, up2_row]
    · simp (disch := omega) only [up2_n, up2_row]
    · intro i hi; simp (disch := omega) only [up2_row]; exact hE i hi
    · simp (disch := omega) only [up2_n, up2_row]; exact h14
    · simp (disch := omega) only [up2_n, up2_row]; exact h15
    · intro a ha; simp (disch := omega) only [up2_row]
end MPN
