/-! over -/
section OVR
variable {tb : dT} {d c t : Nat} {g : Nat → Option dE} {fl : Nat → Bool} {tg : Nat} {σ : dSg} {P : dP} {A : dA} {T w : Nat} {e : Nat → Option Nat} {n j : Int32}
def okOv (P : dP) (x y : Int32) (b : Bool) : Bool := inR (pM P) x && (inR (pM P) y && (decide (tN x ≠ tN y) && decide (pOv P (tN x) (tN y) ≠ b)))
def ovP (P : dP) (s o : Nat) (b : Bool) : dP := (P.1, P.2.1, P.2.2.1, P.2.2.2.1, P.2.2.2.2.1, P.2.2.2.2.2.1, P.2.2.2.2.2.2.1, P.2.2.2.2.2.2.2.1, fun v q => if v = s ∧ q = o then b else P.2.2.2.2.2.2.2.2.1 v q, P.2.2.2.2.2.2.2.2.2)
theorem ovP_ov {s o : Nat} {b : Bool} (v q : Nat) : pOv (ovP P s o b) v q = if v = s ∧ q = o then b else pOv P v q := rfl
theorem ovP_Wf (W : Wf P) {s o : Nat} {b : Bool} (hs : s < pM P) (ho : o < pM P) (h : s ≠ o) : Wf (ovP P s o b) := by
  refine ⟨W.1, W.2.1, W.2.2.1, W.2.2.2.1, W.2.2.2.2.1, W.2.2.2.2.2.1, W.2.2.2.2.2.2.1, fun v q hq => ?_⟩
  rw [ovP_ov] at hq
  by_cases z : v = s ∧ q = o
  · obtain ⟨rfl, rfl⟩ := z; exact ⟨hs, ho, h⟩
  · rw [if_neg z] at hq; exact W.2.2.2.2.2.2.2 v q hq
theorem b_xor0 : ∀ a : Fin 256, ∀ o : Fin 8, Int32.ofNat a.val ^^^ (1 <<< (Int32.ofNat o.val &&& 31)) = Int32.ofNat (a.val ^^^ 2 ^ o.val) := by decide +kernel
theorem b_xor {a o : Nat} (ha : a < 256) (ho : o < 8) : Int32.ofNat a ^^^ (1 <<< (Int32.ofNat o &&& 31)) = Int32.ofNat (a ^^^ 2 ^ o) := b_xor0 ⟨a, ha⟩ ⟨o, ho⟩
theorem ovm_ov {s o : Nat} {b : Bool} (ho : o < 8) (h : pOv P s o ≠ b) : ovm (ovP P s o b) s 8 = ovm P s 8 ^^^ 2 ^ o := by
  apply Nat.eq_of_testBit_eq
  intro i
  rw [Nat.testBit_xor, ovm_tb, ovm_tb, Nat.testBit_two_pow, ovP_ov]
  by_cases z : i = o
  · subst z
    rw [if_pos ⟨rfl, rfl⟩, decide_eq_true ho, decide_eq_true rfl]
    cases b <;> cases q : pOv P s i <;> simp_all
  · rw [if_neg (fun q => z q.2), decide_eq_false (fun q : o = i => z q.symm), Bool.xor_false]
theorem ovm_ne {s o v : Nat} {b : Bool} (h : v ≠ s) : ovm (ovP P s o b) v 8 = ovm P v 8 := by
  apply Nat.eq_of_testBit_eq
  intro i
  rw [ovm_tb, ovm_tb, ovP_ov, if_neg (fun q => h q.1)]
theorem bI_eq {a b : Bool} : (bI a = bI b) = (a = b) := by cases a <;> cases b <;> decide
theorem kh_isOver (C : ShC P fl σ) {s o : Nat} (hs : s < 8) (ho : o < 8) : dX tb d 50 0 [.ref 1, .int (Int32.ofNat s), .int (Int32.ofNat o)] [] (c, t, hp g (SH fl tg) σ) = some (some (.int (bI (pOv P s o))), (c, t, hp g (SH fl tg) σ)) := by
  rw [sg_X4_isOver_0]
  simp (disch := omega) only [bq_s, aq_I, aq_R, aq_V, cq_t, cq_f, if_true, if_false, Bool.true_and, Bool.and_true, Bool.or_true, Bool.true_or, gi_1_3, gi_s, pi_1_3, pi_s, gr_0_0, gr_0_1, gr_0_2, gr_0_3, gr_1_0, gr_1_1, gr_1_2, gr_s_7, gr_s_8, gr_s_9, gr_s_10, ld_3, ld_4, ld_x, ld_y, ld_u, ld_v, sv_3, sv_4, sv_x, sv_y, sv_u, sv_v, is_0, is_1, is_s, lr_2, C.2.2.2 s hs, b_tst (ovm_256 P s) ho, ovm_tb, decide_eq_true ho, bI_0]
  cases pOv P s o
  · rw [if_pos rfl]; rfl
  · rw [if_neg (by decide)]; rfl
theorem kq_over (W : Wf P) (H : CN P A T w e n j fl tg c σ) (x y : Int32) (b : Bool) : (okOv P x y b = false → dX tb (d + 2) 73 0 [.ref 0, .int x, .int y, .int (bI b)] [] (c, t, hp g (SH fl tg) σ) = some (some (.int 0), (c, t, hp g (SH fl tg) σ))) ∧ (okOv P x y b = true → ∃ τ, dX tb (d + 2) 73 0 [.ref 0, .int x, .int y, .int (bI b)] [] (c, t, hp g (SH fl tg) σ) = some (some (.int 1), (c, t, hp g (SH fl tg) τ)) ∧ CN (ovP P (tN x) (tN y) b) A T w e n j fl tg c τ ∧ ∀ a, 270 ≤ a → τ a = σ a) := by
  have hm := W.1
  obtain ⟨C, Lc, Hh, h4, h5, h6, h7, h8, h9, h10, h11, h12⟩ := H
  unfold okOv
  constructor
  · intro hq
    rw [sg_X6_over_0]
    simp (disch := omega) only [bq_s, aq_I, aq_R, aq_V, cq_t, cq_f, if_true, if_false, Bool.true_and, Bool.and_true, Bool.or_true, Bool.true_or, gi_1_3, gi_s, pi_1_3, pi_s, gr_0_0, gr_0_1, gr_0_2, gr_0_3, gr_1_0, gr_1_1, gr_1_2, gr_s_7, gr_s_8, gr_s_9, gr_s_10, ld_3, ld_4, ld_x, ld_y, ld_u, ld_v, sv_3, sv_4, sv_x, sv_y, sv_u, sv_v, is_0, is_1, is_s, lr_2, gi_45_0, gi_45_1, gi_45_2, gi_45_3, gi_59_0, gi_59_1, gi_59_2, gi_59_3, gi_57_3, gi_57_4, gi_57_6, gi_57_8, gi_57_9, gi_57_10, gi_57_11, gi_57_12, gi_57_13, gi_57_14, gi_l, pi_45_0, pi_45_1, pi_45_2, pi_45_3, pi_59_0, pi_59_1, pi_59_2, pi_59_3, pi_57_3, pi_57_4, pi_57_6, pi_57_8, pi_57_9, pi_57_10, pi_57_11, pi_57_12, pi_57_13, pi_57_14, pi_l, gr_57_0, gr_57_1, gr_57_2, gr_57_5, gr_57_7, ld_60, sv_60, is_45, is_59, is_57, is_l, lr_58, ia_0, ia_1, is_m0, is_m1, im_8, ml_8, im_11, ml_11, im_12, ml_12, im_88, ml_88, im_89, ml_89, j_lt_0, j_gt_0, j_le_0, j_ge_0, j_eq_0, j_lt_1, j_gt_1, j_le_1, j_ge_1, j_eq_1, j_lt_2, j_gt_2, j_le_2, j_ge_2, j_eq_2, j_lt_3, j_gt_3, j_le_3, j_ge_3, j_eq_3, j_lt_4, j_gt_4, j_le_4, j_ge_4, j_eq_4, j_lt_5, j_gt_5, j_le_5, j_ge_5, j_eq_5, j_lt_6, j_gt_6, j_le_6, j_ge_6, j_eq_6, j_lt_8, j_gt_8, j_le_8, j_ge_8, j_eq_8, j_lt_12, j_gt_12, j_le_12, j_ge_12, j_eq_12, j_lt_209, j_gt_209, j_le_209, j_ge_209, j_eq_209, j_lt_255, j_gt_255, j_le_255, j_ge_255, j_eq_255, j_lt_1000000000, j_gt_1000000000, j_le_1000000000, j_ge_1000000000, j_eq_1000000000, h4, kh_has C W, bI_0]
    cases q1 : inR (pM P) x
    · rw [if_pos rfl]
    · rw [if_neg (by decide)]
      rw [q1, Bool.true_and] at hq
      cases q2 : inR (pM P) y
      · rw [if_pos rfl]
      · rw [if_neg (by decide)]
        rw [q2, Bool.true_and] at hq
        obtain ⟨s, hs, rfl, es⟩ := inR_ex (by omega) q1
        obtain ⟨o, ho, rfl, eo⟩ := inR_ex (by omega) q2
        rw [es, eo] at hq
        have hI : (Int32.ofNat s = Int32.ofNat o) = (s = o) := i_eq (by omega) (by omega)
        by_cases q3 : s = o
        · rw [if_pos (by rw [hI]; exact q3)]
        · rw [if_neg (by rw [hI]; exact q3)]
          rw [decide_eq_true q3, Bool.true_and, decide_eq_false_iff_not] at hq
          have q4 : pOv P s o = b := Decidable.byContradiction hq
          simp (disch := omega) only [kh_isOver C, aq_I, bI_eq, q4, if_true]
  · intro hq
    rw [Bool.and_eq_true, Bool.and_eq_true, Bool.and_eq_true, decide_eq_true_eq, decide_eq_true_eq] at hq
    obtain ⟨q1, q2, q3, q4⟩ := hq
    obtain ⟨s, hs, rfl, es⟩ := inR_ex (by omega) q1
    obtain ⟨o, ho, rfl, eo⟩ := inR_ex (by omega) q2
    rw [es, eo] at q3 q4 ⊢
    refine ⟨up2 (up2 σ 46 10 0) 3 s (Int32.ofNat (ovm P s 8 ^^^ 2 ^ o)), ?_, ⟨⟨?_, ?_, ?_, ?_⟩, ?_, ?_, ?_, ?_, ?_, ?_, ?_, ?_, ?_, ?_, h12⟩, ?_⟩
    · rw [sg_X6_over_0]
      simp (disch := omega) only [bq_s, aq_I, aq_R, aq_V, cq_t, cq_f, if_true, if_false, Bool.true_and, Bool.and_true, Bool.or_true, Bool.true_or, gi_1_3, gi_s, pi_1_3, pi_s, gr_0_0, gr_0_1, gr_0_2, gr_0_3, gr_1_0, gr_1_1, gr_1_2, gr_s_7, gr_s_8, gr_s_9, gr_s_10, ld_3, ld_4, ld_x, ld_y, ld_u, ld_v, sv_3, sv_4, sv_x, sv_y, sv_u, sv_v, is_0, is_1, is_s, lr_2, gi_45_0, gi_45_1, gi_45_2, gi_45_3, gi_59_0, gi_59_1, gi_59_2, gi_59_3, gi_57_3, gi_57_4, gi_57_6, gi_57_8, gi_57_9, gi_57_10, gi_57_11, gi_57_12, gi_57_13, gi_57_14, gi_l, pi_45_0, pi_45_1, pi_45_2, pi_45_3, pi_59_0, pi_59_1, pi_59_2, pi_59_3, pi_57_3, pi_57_4, pi_57_6, pi_57_8, pi_57_9, pi_57_10, pi_57_11, pi_57_12, pi_57_13, pi_57_14, pi_l, gr_57_0, gr_57_1, gr_57_2, gr_57_5, gr_57_7, ld_60, sv_60, is_45, is_59, is_57, is_l, lr_58, ia_0, ia_1, is_m0, is_m1, im_8, ml_8, im_11, ml_11, im_12, ml_12, im_88, ml_88, im_89, ml_89, j_lt_0, j_gt_0, j_le_0, j_ge_0, j_eq_0, j_lt_1, j_gt_1, j_le_1, j_ge_1, j_eq_1, j_lt_2, j_gt_2, j_le_2, j_ge_2, j_eq_2, j_lt_3, j_gt_3, j_le_3, j_ge_3, j_eq_3, j_lt_4, j_gt_4, j_le_4, j_ge_4, j_eq_4, j_lt_5, j_gt_5, j_le_5, j_ge_5, j_eq_5, j_lt_6, j_gt_6, j_le_6, j_ge_6, j_eq_6, j_lt_8, j_gt_8, j_le_8, j_ge_8, j_eq_8, j_lt_12, j_gt_12, j_le_12, j_ge_12, j_eq_12, j_lt_209, j_gt_209, j_le_209, j_ge_209, j_eq_209, j_lt_255, j_gt_255, j_le_255, j_ge_255, j_eq_255, j_lt_1000000000, j_gt_1000000000, j_le_1000000000, j_ge_1000000000, j_eq_1000000000, h4, kh_has C W, bI_0, q1, q2, Bool.true_eq_false]
      have hI : (Int32.ofNat s = Int32.ofNat o) = (s = o) := i_eq (by omega) (by omega)
      rw [if_neg (by rw [hI]; exact q3)]
      simp (disch := omega) only [bq_s, aq_I, aq_R, aq_V, cq_t, cq_f, if_true, if_false, Bool.true_and, Bool.and_true, Bool.or_true, Bool.true_or, gi_1_3, gi_s, pi_1_3, pi_s, gr_0_0, gr_0_1, gr_0_2, gr_0_3, gr_1_0, gr_1_1, gr_1_2, gr_s_7, gr_s_8, gr_s_9, gr_s_10, ld_3, ld_4, ld_x, ld_y, ld_u, ld_v, sv_3, sv_4, sv_x, sv_y, sv_u, sv_v, is_0, is_1, is_s, lr_2, gi_45_0, gi_45_1, gi_45_2, gi_45_3, gi_47_0, gi_47_1, gi_47_2, gi_47_3, gi_46_8, gi_46_9, gi_46_10, gi_46_15, gi_46_16, pi_45_0, pi_45_1, pi_45_2, pi_45_3, pi_47_0, pi_47_1, pi_47_2, pi_47_3, pi_46_8, pi_46_9, pi_46_10, pi_46_15, pi_46_16, gr_46_0, gr_46_1, gr_46_2, gr_46_3, gr_46_4, gr_46_5, gr_46_6, gr_46_7, gr_46_11, gr_46_12, gr_46_13, gr_46_14, ld_50, ld_51, ld_52, ld_53, ld_54, ld_55, ld_56, ld_t, ld_b, sv_50, sv_51, sv_52, sv_53, sv_54, sv_55, sv_56, sv_t, sv_b, is_45, is_47, is_46, ia_0, ia_1, is_m0, is_m1, im_8, ml_8, im_11, ml_11, im_12, ml_12, im_88, ml_88, im_89, ml_89, j_lt_0, j_gt_0, j_le_0, j_ge_0, j_eq_0, j_lt_1, j_gt_1, j_le_1, j_ge_1, j_eq_1, j_lt_2, j_gt_2, j_le_2, j_ge_2, j_eq_2, j_lt_3, j_gt_3, j_le_3, j_ge_3, j_eq_3, j_lt_4, j_gt_4, j_le_4, j_ge_4, j_eq_4, j_lt_5, j_gt_5, j_le_5, j_ge_5, j_eq_5, j_lt_6, j_gt_6, j_le_6, j_ge_6, j_eq_6, j_lt_8, j_gt_8, j_le_8, j_ge_8, j_eq_8, j_lt_12, j_gt_12, j_le_12, j_ge_12, j_eq_12, j_lt_209, j_gt_209, j_le_209, j_ge_209, j_eq_209, j_lt_255, j_gt_255, j_le_255, j_ge_255, j_eq_255, j_lt_1000000000, j_gt_1000000000, j_le_1000000000, j_ge_1000000000, j_eq_1000000000, kh_isOver C, bI_eq, q4, sg_X2_forget_0, up2_row, C.2.2.2 s (by omega), b_xor (ovm_256 P s) (show o < 8 by omega)]
    · simp (disch := omega) only [up2_row]; exact C.1
    · intro k hk; simp (disch := omega) only [up2_row]; exact C.2.1 k hk
    · intro v hv
      have hv' : v < pM P := hv
      obtain ⟨b0, b1, b2, b4, b5, b6⟩ := C.2.2.1 v hv
      have rx := xA_r fl v
      have ry := yA_r fl v
      unfold StC
      simp (disch := omega) only [up2_row]
      exact ⟨b0, b1, b2, b4, b5, b6⟩
    · intro v hv
      by_cases h : v = s
      · subst h; rw [up2_s, ovm_ov (by omega) q4]
      · rw [ovm_ne h]; simp (disch := omega) only [up2_n, up2_row]; exact C.2.2.2 v hv
    · intro v hv
      have hv' : v < pM P := hv
      simp (disch := omega) only [up2_row]; exact Lc v hv
    · exact HdC_congr (by simp (disch := omega) only [up2_row]) Hh
    · simp (disch := omega) only [up2_row]; exact h4
    · simp (disch := omega) only [up2_row]; exact h5
    · simp (disch := omega) only [up2_row]; exact h6
    · simp (disch := omega) only [up2_row]; exact h7
    · intro v hv
      have hv' : v < pM P := hv
      simp (disch := omega) only [up2_row]; exact h8 v hv
    · simp (disch := omega) only [up2_row]; exact h9
    · simp (disch := omega) only [up2_row]; exact h10
    · left; simp (disch := omega) only [up2_row, up2_s]
    · intro a ha; simp (disch := omega) only [up2_row]
theorem bI_01 (b : Bool) : (decide (bI b = 0) || decide (bI b = 1)) = true := by cases b <;> decide
theorem mq_over (W : Wf P) (H : MN P A T w e n j σ) (x y : Int32) (b : Bool) : (okOv P x y b = false → dX tb (d + 1) 99 0 [.ref 270, .int x, .int y, .int (bI b)] [] (c, t, hp g (SH fl tg) σ) = some (some (.int 0), (c, t, hp g (SH fl tg) (up2 σ 270 0 0)))) ∧ (okOv P x y b = true → ∃ τ, dX tb (d + 1) 99 0 [.ref 270, .int x, .int y, .int (bI b)] [] (c, t, hp g (SH fl tg) σ) = some (some (.int 1), (c, t, hp g (SH fl tg) τ)) ∧ MN (ovP P (tN x) (tN y) b) A T w e n j τ ∧ ∀ a, a < 270 ∨ 295 ≤ a → τ a = σ a) := by
  have hm := W.1
  have H0 : MN P A T w e n j (up2 σ 270 0 0) := MN_congr (fun a a1 _ => up2_row _ _ (by omega)) (fun k hk => up2_n _ _ (by omega)) H
  have C0 := H0.1
  obtain ⟨C, hA, h23, h36, ⟨l, l1, l2⟩, hE, h14, h15⟩ := H
  unfold okOv
  constructor
  · intro hq
    rw [sg_X7_over_0]
    simp (disch := omega) only [bq_s, aq_I, aq_R, aq_V, cq_t, cq_f, if_true, if_false, Bool.true_and, Bool.and_true, Bool.or_true, Bool.true_or, gi_270_0, gi_270_10, gi_270_11, gi_270_12, gi_270_13, gi_270_14, gi_270_15, gi_270_21, gi_270_22, gi_270_23, gi_270_34, gi_270_35, gi_270_36, pi_270_0, pi_270_10, pi_270_11, pi_270_12, pi_270_13, pi_270_14, pi_270_15, pi_270_21, pi_270_22, pi_270_23, pi_270_34, pi_270_35, pi_270_36, gr_270_1, gr_270_2, gr_270_3, gr_270_4, gr_270_5, gr_270_6, gr_270_7, gr_270_8, gr_270_9, gr_270_16, gr_270_17, gr_270_18, gr_270_19, gr_270_20, gr_270_24, gr_270_25, gr_270_26, gr_270_27, gr_270_28, gr_270_29, gr_270_30, gr_270_31, gr_270_32, gr_270_33, ld_271, ld_272, ld_273, ld_274, ld_275, ld_276, ld_277, ld_278, ld_279, ld_280, ld_281, ld_282, ld_283, ld_284, ld_285, ld_286, ld_287, ld_288, ld_289, ld_290, ld_291, ld_292, ld_293, ld_294, sv_271, sv_272, sv_273, sv_274, sv_275, sv_276, sv_277, sv_278, sv_279, sv_280, sv_281, sv_282, sv_283, sv_284, sv_285, sv_286, sv_287, sv_288, sv_289, sv_290, sv_291, sv_292, sv_293, sv_294, is_270, ia_0, ia_1, is_m0, is_m1, im_8, ml_8, im_11, ml_11, im_12, ml_12, im_88, ml_88, im_89, ml_89, j_lt_0, j_gt_0, j_le_0, j_ge_0, j_eq_0, j_lt_1, j_gt_1, j_le_1, j_ge_1, j_eq_1, j_lt_2, j_gt_2, j_le_2, j_ge_2, j_eq_2, j_lt_3, j_gt_3, j_le_3, j_ge_3, j_eq_3, j_lt_4, j_gt_4, j_le_4, j_ge_4, j_eq_4, j_lt_5, j_gt_5, j_le_5, j_ge_5, j_eq_5, j_lt_6, j_gt_6, j_le_6, j_ge_6, j_eq_6, j_lt_8, j_gt_8, j_le_8, j_ge_8, j_eq_8, j_lt_12, j_gt_12, j_le_12, j_ge_12, j_eq_12, j_lt_209, j_gt_209, j_le_209, j_ge_209, j_eq_209, j_lt_255, j_gt_255, j_le_255, j_ge_255, j_eq_255, j_lt_1000000000, j_gt_1000000000, j_le_1000000000, j_ge_1000000000, j_eq_1000000000, up2_n, h23, mh_has C0, bI_0]
    cases q1 : inR (pM P) x
    · rw [if_pos rfl]
    · rw [if_neg (by decide)]
      rw [q1, Bool.true_and] at hq
      cases q2 : inR (pM P) y
      · rw [if_pos rfl]
      · rw [if_neg (by decide)]
        rw [q2, Bool.true_and] at hq
        obtain ⟨s, hs, rfl, es⟩ := inR_ex (by omega) q1
        obtain ⟨o, ho, rfl, eo⟩ := inR_ex (by omega) q2
        rw [es, eo] at hq
        have hI : (Int32.ofNat s = Int32.ofNat o) = (s = o) := i_eq (by omega) (by omega)
        by_cases q3 : s = o
        · rw [if_pos (by rw [hI]; exact q3)]
        · rw [if_neg (by rw [hI]; exact q3)]
          rw [decide_eq_true q3, Bool.true_and, decide_eq_false_iff_not] at hq
          have q4 : pOv P s o = b := Decidable.byContradiction hq
          simp (disch := omega) only [bq_s, aq_I, aq_R, aq_V, cq_t, cq_f, if_true, if_false, Bool.true_and, Bool.and_true, Bool.or_true, Bool.true_or, gi_270_0, gi_270_10, gi_270_11, gi_270_12, gi_270_13, gi_270_14, gi_270_15, gi_270_21, gi_270_22, gi_270_23, gi_270_34, gi_270_35, gi_270_36, pi_270_0, pi_270_10, pi_270_11, pi_270_12, pi_270_13, pi_270_14, pi_270_15, pi_270_21, pi_270_22, pi_270_23, pi_270_34, pi_270_35, pi_270_36, gr_270_1, gr_270_2, gr_270_3, gr_270_4, gr_270_5, gr_270_6, gr_270_7, gr_270_8, gr_270_9, gr_270_16, gr_270_17, gr_270_18, gr_270_19, gr_270_20, gr_270_24, gr_270_25, gr_270_26, gr_270_27, gr_270_28, gr_270_29, gr_270_30, gr_270_31, gr_270_32, gr_270_33, ld_271, ld_272, ld_273, ld_274, ld_275, ld_276, ld_277, ld_278, ld_279, ld_280, ld_281, ld_282, ld_283, ld_284, ld_285, ld_286, ld_287, ld_288, ld_289, ld_290, ld_291, ld_292, ld_293, ld_294, sv_271, sv_272, sv_273, sv_274, sv_275, sv_276, sv_277, sv_278, sv_279, sv_280, sv_281, sv_282, sv_283, sv_284, sv_285, sv_286, sv_287, sv_288, sv_289, sv_290, sv_291, sv_292, sv_293, sv_294, is_270, ia_0, ia_1, is_m0, is_m1, im_8, ml_8, im_11, ml_11, im_12, ml_12, im_88, ml_88, im_89, ml_89, j_lt_0, j_gt_0, j_le_0, j_ge_0, j_eq_0, j_lt_1, j_gt_1, j_le_1, j_ge_1, j_eq_1, j_lt_2, j_gt_2, j_le_2, j_ge_2, j_eq_2, j_lt_3, j_gt_3, j_le_3, j_ge_3, j_eq_3, j_lt_4, j_gt_4, j_le_4, j_ge_4, j_eq_4, j_lt_5, j_gt_5, j_le_5, j_ge_5, j_eq_5, j_lt_6, j_gt_6, j_le_6, j_ge_6, j_eq_6, j_lt_8, j_gt_8, j_le_8, j_ge_8, j_eq_8, j_lt_12, j_gt_12, j_le_12, j_ge_12, j_eq_12, j_lt_209, j_gt_209, j_le_209, j_ge_209, j_eq_209, j_lt_255, j_gt_255, j_le_255, j_ge_255, j_eq_255, j_lt_1000000000, j_gt_1000000000, j_le_1000000000, j_ge_1000000000, j_eq_1000000000, i_add, C0.2.2.2 s o hs ho, bI_eq, q4]
  · intro hq
    rw [Bool.and_eq_true, Bool.and_eq_true, Bool.and_eq_true, decide_eq_true_eq, decide_eq_true_eq] at hq
    obtain ⟨q1, q2, q3, q4⟩ := hq
    obtain ⟨s, hs, rfl, es⟩ := inR_ex (by omega) q1
    obtain ⟨o, ho, rfl, eo⟩ := inR_ex (by omega) q2
    rw [es, eo] at q3 q4 ⊢
    refine ⟨up2 (up2 σ 270 0 0) 279 (8 * s + o) (bI b), ?_, ⟨⟨?_, ?_, ?_, ?_⟩, ?_, ?_, ?_, ⟨l, PhM_congr (fun a a1 a2 => ?_) ?_ ?_ l1, l2⟩, ?_, ?_, ?_⟩, ?_⟩
    · rw [sg_X7_over_0]
      simp (disch := omega) only [bq_s, aq_I, aq_R, aq_V, cq_t, cq_f, if_true, if_false, Bool.true_and, Bool.and_true, Bool.or_true, Bool.true_or, gi_270_0, gi_270_10, gi_270_11, gi_270_12, gi_270_13, gi_270_14, gi_270_15, gi_270_21, gi_270_22, gi_270_23, gi_270_34, gi_270_35, gi_270_36, pi_270_0, pi_270_10, pi_270_11, pi_270_12, pi_270_13, pi_270_14, pi_270_15, pi_270_21, pi_270_22, pi_270_23, pi_270_34, pi_270_35, pi_270_36, gr_270_1, gr_270_2, gr_270_3, gr_270_4, gr_270_5, gr_270_6, gr_270_7, gr_270_8, gr_270_9, gr_270_16, gr_270_17, gr_270_18, gr_270_19, gr_270_20, gr_270_24, gr_270_25, gr_270_26, gr_270_27, gr_270_28, gr_270_29, gr_270_30, gr_270_31, gr_270_32, gr_270_33, ld_271, ld_272, ld_273, ld_274, ld_275, ld_276, ld_277, ld_278, ld_279, ld_280, ld_281, ld_282, ld_283, ld_284, ld_285, ld_286, ld_287, ld_288, ld_289, ld_290, ld_291, ld_292, ld_293, ld_294, sv_271, sv_272, sv_273, sv_274, sv_275, sv_276, sv_277, sv_278, sv_279, sv_280, sv_281, sv_282, sv_283, sv_284, sv_285, sv_286, sv_287, sv_288, sv_289, sv_290, sv_291, sv_292, sv_293, sv_294, is_270, ia_0, ia_1, is_m0, is_m1, im_8, ml_8, im_11, ml_11, im_12, ml_12, im_88, ml_88, im_89, ml_89, j_lt_0, j_gt_0, j_le_0, j_ge_0, j_eq_0, j_lt_1, j_gt_1, j_le_1, j_ge_1, j_eq_1, j_lt_2, j_gt_2, j_le_2, j_ge_2, j_eq_2, j_lt_3, j_gt_3, j_le_3, j_ge_3, j_eq_3, j_lt_4, j_gt_4, j_le_4, j_ge_4, j_eq_4, j_lt_5, j_gt_5, j_le_5, j_ge_5, j_eq_5, j_lt_6, j_gt_6, j_le_6, j_ge_6, j_eq_6, j_lt_8, j_gt_8, j_le_8, j_ge_8, j_eq_8, j_lt_12, j_gt_12, j_le_12, j_ge_12, j_eq_12, j_lt_209, j_gt_209, j_le_209, j_ge_209, j_eq_209, j_lt_255, j_gt_255, j_le_255, j_ge_255, j_eq_255, j_lt_1000000000, j_gt_1000000000, j_le_1000000000, j_ge_1000000000, j_eq_1000000000, up2_n, h23, mh_has C0, bI_0, q1, q2, Bool.true_eq_false]
      have hI : (Int32.ofNat s = Int32.ofNat o) = (s = o) := i_eq (by omega) (by omega)
      rw [if_neg (by rw [hI]; exact q3)]
      simp (disch := omega) only [bq_s, aq_I, aq_R, aq_V, cq_t, cq_f, if_true, if_false, Bool.true_and, Bool.and_true, Bool.or_true, Bool.true_or, gi_270_0, gi_270_10, gi_270_11, gi_270_12, gi_270_13, gi_270_14, gi_270_15, gi_270_21, gi_270_22, gi_270_23, gi_270_34, gi_270_35, gi_270_36, pi_270_0, pi_270_10, pi_270_11, pi_270_12, pi_270_13, pi_270_14, pi_270_15, pi_270_21, pi_270_22, pi_270_23, pi_270_34, pi_270_35, pi_270_36, gr_270_1, gr_270_2, gr_270_3, gr_270_4, gr_270_5, gr_270_6, gr_270_7, gr_270_8, gr_270_9, gr_270_16, gr_270_17, gr_270_18, gr_270_19, gr_270_20, gr_270_24, gr_270_25, gr_270_26, gr_270_27, gr_270_28, gr_270_29, gr_270_30, gr_270_31, gr_270_32, gr_270_33, ld_271, ld_272, ld_273, ld_274, ld_275, ld_276, ld_277, ld_278, ld_279, ld_280, ld_281, ld_282, ld_283, ld_284, ld_285, ld_286, ld_287, ld_288, ld_289, ld_290, ld_291, ld_292, ld_293, ld_294, sv_271, sv_272, sv_273, sv_274, sv_275, sv_276, sv_277, sv_278, sv_279, sv_280, sv_281, sv_282, sv_283, sv_284, sv_285, sv_286, sv_287, sv_288, sv_289, sv_290, sv_291, sv_292, sv_293, sv_294, is_270, ia_0, ia_1, is_m0, is_m1, im_8, ml_8, im_11, ml_11, im_12, ml_12, im_88, ml_88, im_89, ml_89, j_lt_0, j_gt_0, j_le_0, j_ge_0, j_eq_0, j_lt_1, j_gt_1, j_le_1, j_ge_1, j_eq_1, j_lt_2, j_gt_2, j_le_2, j_ge_2, j_eq_2, j_lt_3, j_gt_3, j_le_3, j_ge_3, j_eq_3, j_lt_4, j_gt_4, j_le_4, j_ge_4, j_eq_4, j_lt_5, j_gt_5, j_le_5, j_ge_5, j_eq_5, j_lt_6, j_gt_6, j_le_6, j_ge_6, j_eq_6, j_lt_8, j_gt_8, j_le_8, j_ge_8, j_eq_8, j_lt_12, j_gt_12, j_le_12, j_ge_12, j_eq_12, j_lt_209, j_gt_209, j_le_209, j_ge_209, j_eq_209, j_lt_255, j_gt_255, j_le_255, j_ge_255, j_eq_255, j_lt_1000000000, j_gt_1000000000, j_le_1000000000, j_ge_1000000000, j_eq_1000000000, i_add, C0.2.2.2 s o hs ho, bI_eq, q4]
      cases b <;> rfl
    · simp (disch := omega) only [up2_n, up2_row]; exact C.1
    · intro k hk; simp (disch := omega) only [up2_row]; exact C.2.1 k hk
    · intro v hv
      unfold StM
      simp (disch := omega) only [up2_row]
      exact C.2.2.1 v hv
    · intro v q hv hq
      have hv' : v < pM P := hv
      have hq' : q < pM P := hq
      rw [ovP_ov]
      by_cases z : v = s ∧ q = o
      · rw [if_pos z, z.1, z.2, up2_s]
      · rw [if_neg z, up2_n _ _ (by omega), up2_row _ _ (by omega)]; exact C.2.2.2 v q hv hq
    · unfold ArM; simp (disch := omega) only [up2_n, up2_row]; exact hA
    · simp (disch := omega) only [up2_n, up2_row]; exact h23
    · simp (disch := omega) only [up2_n, up2_row]; exact h36
    · simp (disch := omega) only [up2_row]
    · simp (disch := omega) only [up2_n, up2_row]
    · simp (disch := omega) only [up2_n, up2_row]
    · intro v hv; simp (disch := omega) only [up2_row]; exact hE v hv
    · simp (disch := omega) only [up2_n, up2_row]; exact h14
    · simp (disch := omega) only [up2_n, up2_row]; exact h15
    · intro a ha; simp (disch := omega) only [up2_row]
end OVR
