/-! count, on both sides -/
section CNT
variable {tb : dT} {d c t : Nat} {g : Nat → Option dE} {fl : Nat → Bool} {tg : Nat} {σ : dSg} {P : dP} {lf : Nat → Bool} {n j : Int32}
def ans5 (a : Nat → Int32) (x : Int32) : Int32 := if x = 0 then a 0 else if x = 1 then a 1 else if x = 2 then a 2 else if x = 3 then a 3 else if x = 4 then a 4 else -1
theorem sw5 {a : Nat → Int32} {x : Int32} {a0 a1 a2 a3 a4 : Int} {h : dH} {D : Option (Option Value × dH)} {G : Int → Option (Option Value × dH)} (hD : D = some (some (.int (-1)), h)) (h0 : G a0 = some (some (.int (a 0)), h)) (h1 : G a1 = some (some (.int (a 1)), h)) (h2 : G a2 = some (some (.int (a 2)), h)) (h3 : G a3 = some (some (.int (a 3)), h)) (h4 : G a4 = some (some (.int (a 4)), h)) : (if x.toInt < 0 ∨ 4 < x.toInt then D else (#[a0, a1, a2, a3, a4][(x.toInt - 0).toNat]?).bind G) = some (some (.int (ans5 a x)), h) := by
  unfold ans5
  by_cases q0 : x = 0
  · subst q0; exact h0
  rw [if_neg q0]
  by_cases q1 : x = 1
  · subst q1; exact h1
  rw [if_neg q1]
  by_cases q2 : x = 2
  · subst q2; exact h2
  rw [if_neg q2]
  by_cases q3 : x = 3
  · subst q3; exact h3
  rw [if_neg q3]
  by_cases q4 : x = 4
  · subst q4; exact h4
  rw [if_neg q4]
  have f : ∀ z : Int32, x ≠ z → x.toInt ≠ z.toInt := fun z hz q => hz (Int32.toInt_inj.mp q)
  have f0 := f 0 q0
  have f1 := f 1 q1
  have f2 := f 2 q2
  have f3 := f 3 q3
  have f4 := f 4 q4
  have e0 : (0 : Int32).toInt = 0 := rfl
  have e1 : (1 : Int32).toInt = 1 := rfl
  have e2 : (2 : Int32).toInt = 2 := rfl
  have e3 : (3 : Int32).toInt = 3 := rfl
  have e4 : (4 : Int32).toInt = 4 := rfl
  rw [if_pos (by omega)]; exact hD
def cU (f : Nat → Bool) : Nat → Nat
  | 0 => 0
  | o + 1 => cU f o + (bif f o then 1 else 0)
theorem cU_le (f : Nat → Bool) : ∀ m, cU f m ≤ m := by
  intro m
  induction m with
  | zero => exact Nat.le_refl 0
  | succ m ih => show cU f m + (bif f m then 1 else 0) ≤ m + 1; cases f m <;> simp only [cond_true, cond_false] <;> omega
theorem pc8_lfm (f : Nat → Bool) : ∀ m, m ≤ 8 → pc8 (lfm f m) = cU f m := by
  intro m
  induction m with
  | zero => intro _; show pc8 0 = 0; decide
  | succ m ih =>
    intro h
    show pc8 (bif f m then lfm f m ||| 2 ^ m else lfm f m) = cU f m + (bif f m then 1 else 0)
    cases f m
    · exact ih (by omega)
    · rw [cond_true, cond_true, pc8_or (Nat.lt_of_lt_of_le (lfm_lt f m) (p8 (by omega))) (by omega) (by rw [lfm_tb, decide_eq_false (by omega), Bool.false_and]), ih (by omega)]
theorem ovm_lfm (s : Nat) : ovm P s 8 = lfm (pOv P s) 8 := by
  apply Nat.eq_of_testBit_eq
  intro i
  rw [ovm_tb, lfm_tb]
theorem cU_ext (f : Nat → Bool) {m : Nat} (h : ∀ o, m ≤ o → f o = false) : ∀ q, cU f (m + q) = cU f m := by
  intro q
  induction q with
  | zero => rfl
  | succ q ih => show cU f (m + q) + (bif f (m + q) then 1 else 0) = cU f m; rw [h (m + q) (by omega), ih]; rfl
theorem pc_ov (W : Wf P) (s : Nat) : pc8 (ovm P s 8) = cU (pOv P s) (pM P) := by
  have hm := W.1
  rw [ovm_lfm, pc8_lfm _ 8 (by omega)]
  have := cU_ext (pOv P s) (m := pM P) (fun o ho => by
    cases q : pOv P s o
    · rfl
    · have := (W.2.2.2.2.2.2.2 s o q).2.1; omega) (8 - pM P)
  rw [show pM P + (8 - pM P) = 8 by omega] at this
  exact this
def prU (P : dP) : Nat → Nat
  | 0 => 0
  | s + 1 => prU P s + cU (pOv P s) (pM P)
theorem prU_le (W : Wf P) : ∀ s, prU P s ≤ 8 * s := by
  have hm := W.1
  intro s
  induction s with
  | zero => exact Nat.le_refl 0
  | succ s ih => show prU P s + cU (pOv P s) (pM P) ≤ _; have := cU_le (pOv P s) (pM P); omega
theorem kq_prL (C : ShC P fl σ) (W : Wf P) : ∀ q s, s + q = pM P → dX tb (d + 1) 51 4 [.ref 1, .int (Int32.ofNat (prU P s)), .int (Int32.ofNat s)] [] (c, t, hp g (SH fl tg) σ) = some (some (.int (Int32.ofNat (prU P (pM P)))), (c, t, hp g (SH fl tg) σ)) := by
  have hm := W.1
  have C1 := C.1
  intro q
  induction q with
  | zero =>
    intro s hs
    have e : s = pM P := hs
    rw [sg_X4_pairsOver_4, e]
    simp (disch := omega) only [bq_s, aq_I, aq_R, aq_V, cq_t, cq_f, if_true, if_false, Bool.true_and, Bool.and_true, Bool.or_true, Bool.true_or, gi_1_3, gi_s, pi_1_3, pi_s, gr_0_0, gr_0_1, gr_0_2, gr_0_3, gr_1_0, gr_1_1, gr_1_2, gr_s_7, gr_s_8, gr_s_9, gr_s_10, ld_3, ld_4, ld_x, ld_y, ld_u, ld_v, sv_3, sv_4, sv_x, sv_y, sv_u, sv_v, is_0, is_1, is_s, lr_2, C1, i_le, Nat.le_refl]
  | succ q ih =>
    intro s hs
    have e : ¬ pM P ≤ s := by omega
    have o := C.2.2.2 s (by omega)
    rw [sg_X4_pairsOver_4]
    simp (disch := omega) only [bq_s, aq_I, aq_R, aq_V, cq_t, cq_f, if_true, if_false, Bool.true_and, Bool.and_true, Bool.or_true, Bool.true_or, gi_1_3, gi_s, pi_1_3, pi_s, gr_0_0, gr_0_1, gr_0_2, gr_0_3, gr_1_0, gr_1_1, gr_1_2, gr_s_7, gr_s_8, gr_s_9, gr_s_10, ld_3, ld_4, ld_x, ld_y, ld_u, ld_v, sv_3, sv_4, sv_x, sv_y, sv_u, sv_v, is_0, is_1, is_s, lr_2, ia_0, ia_1, is_m0, is_m1, im_8, ml_8, im_11, ml_11, im_12, ml_12, im_88, ml_88, im_89, ml_89, j_lt_0, j_gt_0, j_le_0, j_ge_0, j_eq_0, j_lt_1, j_gt_1, j_le_1, j_ge_1, j_eq_1, j_lt_2, j_gt_2, j_le_2, j_ge_2, j_eq_2, j_lt_3, j_gt_3, j_le_3, j_ge_3, j_eq_3, j_lt_4, j_gt_4, j_le_4, j_ge_4, j_eq_4, j_lt_5, j_gt_5, j_le_5, j_ge_5, j_eq_5, j_lt_6, j_gt_6, j_le_6, j_ge_6, j_eq_6, j_lt_8, j_gt_8, j_le_8, j_ge_8, j_eq_8, j_lt_12, j_gt_12, j_le_12, j_ge_12, j_eq_12, j_lt_209, j_gt_209, j_le_209, j_ge_209, j_eq_209, j_lt_255, j_gt_255, j_le_255, j_ge_255, j_eq_255, j_lt_1000000000, j_gt_1000000000, j_le_1000000000, j_ge_1000000000, j_eq_1000000000, C1, i_le, e, o, b_cnt _ (ovm_256 P s), pc_ov W, i_add]
    exact ih (s + 1) (by omega)
def cntA (P : dP) (lf : Nat → Bool) (n j : Int32) (i : Nat) : Int32 := match i with
  | 0 => Int32.ofNat (pM P)
  | 1 => Int32.ofNat (cU lf (pM P))
  | 2 => Int32.ofNat (prU P (pM P))
  | 3 => n
  | _ => j
theorem kq_count (C : ShC P fl σ) (W : Wf P) (Lc : LfC P lf σ) (h13 : σ 57 13 = n) (h14 : σ 57 14 = j) (x : Int32) : dX tb (d + 2) 86 0 [.ref 0, .int x] [] (c, t, hp g (SH fl tg) σ) = some (some (.int (ans5 (cntA P lf n j) x)), (c, t, hp g (SH fl tg) σ)) := by
  have hm := W.1
  have C1 := C.1
  rw [sg_X6_count_0]
  refine sw5 ?_ ?_ ?_ ?_ ?_ ?_
  · rw [sg_X6_count_79]
  · show dX tb (d + 2) 86 36 _ _ _ = _
    rw [sg_X6_count_36]; simp (disch := omega) only [bq_s, aq_I, aq_R, aq_V, cq_t, cq_f, if_true, if_false, Bool.true_and, Bool.and_true, Bool.or_true, Bool.true_or, gi_1_3, gi_s, pi_1_3, pi_s, gr_0_0, gr_0_1, gr_0_2, gr_0_3, gr_1_0, gr_1_1, gr_1_2, gr_s_7, gr_s_8, gr_s_9, gr_s_10, ld_3, ld_4, ld_x, ld_y, ld_u, ld_v, sv_3, sv_4, sv_x, sv_y, sv_u, sv_v, is_0, is_1, is_s, lr_2, C1]; rfl
  · show dX tb (d + 2) 86 44 _ _ _ = _
    rw [sg_X6_count_44]; simp (disch := omega) only [bq_s, aq_I, aq_R, aq_V, cq_t, cq_f, if_true, if_false, Bool.true_and, Bool.and_true, Bool.or_true, Bool.true_or, gi_1_3, gi_s, pi_1_3, pi_s, gr_0_0, gr_0_1, gr_0_2, gr_0_3, gr_1_0, gr_1_1, gr_1_2, gr_s_7, gr_s_8, gr_s_9, gr_s_10, ld_3, ld_4, ld_x, ld_y, ld_u, ld_v, sv_3, sv_4, sv_x, sv_y, sv_u, sv_v, is_0, is_1, is_s, lr_2, kc_left C W Lc, b_cnt _ (Nat.lt_of_lt_of_le (lfm_lt lf (pM P)) (p8 hm)), pc8_lfm lf _ hm]; rfl
  · show dX tb (d + 2) 86 55 _ _ _ = _
    rw [sg_X6_count_55]
    simp (disch := omega) only [bq_s, aq_I, aq_R, aq_V, cq_t, cq_f, if_true, if_false, Bool.true_and, Bool.and_true, Bool.or_true, Bool.true_or, gi_1_3, gi_s, pi_1_3, pi_s, gr_0_0, gr_0_1, gr_0_2, gr_0_3, gr_1_0, gr_1_1, gr_1_2, gr_s_7, gr_s_8, gr_s_9, gr_s_10, ld_3, ld_4, ld_x, ld_y, ld_u, ld_v, sv_3, sv_4, sv_x, sv_y, sv_u, sv_v, is_0, is_1, is_s, lr_2, sg_X4_pairsOver_0]
    rw [show dX tb (d + 1) 51 4 [.ref 1, .int 0, .int 0] [] (c, t, hp g (SH fl tg) σ) = some (some (.int (Int32.ofNat (prU P (pM P)))), (c, t, hp g (SH fl tg) σ)) from kq_prL C W (pM P) 0 (by omega), aq_I]; rfl
  · show dX tb (d + 2) 86 63 _ _ _ = _
    rw [sg_X6_count_63]; simp (disch := omega) only [bq_s, aq_I, aq_R, aq_V, cq_t, cq_f, if_true, if_false, Bool.true_and, Bool.and_true, Bool.or_true, Bool.true_or, gi_1_3, gi_s, pi_1_3, pi_s, gr_0_0, gr_0_1, gr_0_2, gr_0_3, gr_1_0, gr_1_1, gr_1_2, gr_s_7, gr_s_8, gr_s_9, gr_s_10, ld_3, ld_4, ld_x, ld_y, ld_u, ld_v, sv_3, sv_4, sv_x, sv_y, sv_u, sv_v, is_0, is_1, is_s, lr_2, gi_45_0, gi_45_1, gi_45_2, gi_45_3, gi_59_0, gi_59_1, gi_59_2, gi_59_3, gi_57_3, gi_57_4, gi_57_6, gi_57_8, gi_57_9, gi_57_10, gi_57_11, gi_57_12, gi_57_13, gi_57_14, gi_l, pi_45_0, pi_45_1, pi_45_2, pi_45_3, pi_59_0, pi_59_1, pi_59_2, pi_59_3, pi_57_3, pi_57_4, pi_57_6, pi_57_8, pi_57_9, pi_57_10, pi_57_11, pi_57_12, pi_57_13, pi_57_14, pi_l, gr_57_0, gr_57_1, gr_57_2, gr_57_5, gr_57_7, ld_60, sv_60, is_45, is_59, is_57, is_l, lr_58, h13]; rfl
  · show dX tb (d + 2) 86 71 _ _ _ = _
    rw [sg_X6_count_71]; simp (disch := omega) only [bq_s, aq_I, aq_R, aq_V, cq_t, cq_f, if_true, if_false, Bool.true_and, Bool.and_true, Bool.or_true, Bool.true_or, gi_1_3, gi_s, pi_1_3, pi_s, gr_0_0, gr_0_1, gr_0_2, gr_0_3, gr_1_0, gr_1_1, gr_1_2, gr_s_7, gr_s_8, gr_s_9, gr_s_10, ld_3, ld_4, ld_x, ld_y, ld_u, ld_v, sv_3, sv_4, sv_x, sv_y, sv_u, sv_v, is_0, is_1, is_s, lr_2, gi_45_0, gi_45_1, gi_45_2, gi_45_3, gi_59_0, gi_59_1, gi_59_2, gi_59_3, gi_57_3, gi_57_4, gi_57_6, gi_57_8, gi_57_9, gi_57_10, gi_57_11, gi_57_12, gi_57_13, gi_57_14, gi_l, pi_45_0, pi_45_1, pi_45_2, pi_45_3, pi_59_0, pi_59_1, pi_59_2, pi_59_3, pi_57_3, pi_57_4, pi_57_6, pi_57_8, pi_57_9, pi_57_10, pi_57_11, pi_57_12, pi_57_13, pi_57_14, pi_l, gr_57_0, gr_57_1, gr_57_2, gr_57_5, gr_57_7, ld_60, sv_60, is_45, is_59, is_57, is_l, lr_58, h14]; rfl
theorem mq_ctL (W : Wf P) (h10 : σ 270 10 = Int32.ofNat (pM P)) (hl : ∀ s, s < pM P → dX tb d 133 0 [.ref 270, .int (Int32.ofNat s)] [] (c, t, hp g (SH fl tg) σ) = some (some (.int (bI (lf s))), (c, t, hp g (SH fl tg) σ))) {x : Int32} {l4 : Value} : ∀ q s, s + q = pM P → dX tb (d + 1) 136 51 [.ref 270, .int x, .int (Int32.ofNat (cU lf s)), .int (Int32.ofNat s), l4] [] (c, t, hp g (SH fl tg) σ) = some (some (.int (Int32.ofNat (cU lf (pM P)))), (c, t, hp g (SH fl tg) σ)) := by
  have hm := W.1
  intro q
  induction q with
  | zero =>
    intro s hs
    have e : s = pM P := hs
    rw [sg_X7_count_51, e]
    simp (disch := omega) only [bq_s, aq_I, aq_R, aq_V, cq_t, cq_f, if_true, if_false, Bool.true_and, Bool.and_true, Bool.or_true, Bool.true_or, gi_270_0, gi_270_10, gi_270_11, gi_270_12, gi_270_13, gi_270_14, gi_270_15, gi_270_21, gi_270_22, gi_270_23, gi_270_34, gi_270_35, gi_270_36, pi_270_0, pi_270_10, pi_270_11, pi_270_12, pi_270_13, pi_270_14, pi_270_15, pi_270_21, pi_270_22, pi_270_23, pi_270_34, pi_270_35, pi_270_36, gr_270_1, gr_270_2, gr_270_3, gr_270_4, gr_270_5, gr_270_6, gr_270_7, gr_270_8, gr_270_9, gr_270_16, gr_270_17, gr_270_18, gr_270_19, gr_270_20, gr_270_24, gr_270_25, gr_270_26, gr_270_27, gr_270_28, gr_270_29, gr_270_30, gr_270_31, gr_270_32, gr_270_33, ld_271, ld_272, ld_273, ld_274, ld_275, ld_276, ld_277, ld_278, ld_279, ld_280, ld_281, ld_282, ld_283, ld_284, ld_285, ld_286, ld_287, ld_288, ld_289, ld_290, ld_291, ld_292, ld_293, ld_294, sv_271, sv_272, sv_273, sv_274, sv_275, sv_276, sv_277, sv_278, sv_279, sv_280, sv_281, sv_282, sv_283, sv_284, sv_285, sv_286, sv_287, sv_288, sv_289, sv_290, sv_291, sv_292, sv_293, sv_294, is_270, h10, i_le, Nat.le_refl]
  | succ q ih =>
    intro s hs
    have e : ¬ pM P ≤ s := by omega
    have h := ih (s + 1) (by omega)
    rw [sg_X7_count_51]
    simp (disch := omega) only [bq_s, aq_I, aq_R, aq_V, cq_t, cq_f, if_true, if_false, Bool.true_and, Bool.and_true, Bool.or_true, Bool.true_or, gi_270_0, gi_270_10, gi_270_11, gi_270_12, gi_270_13, gi_270_14, gi_270_15, gi_270_21, gi_270_22, gi_270_23, gi_270_34, gi_270_35, gi_270_36, pi_270_0, pi_270_10, pi_270_11, pi_270_12, pi_270_13, pi_270_14, pi_270_15, pi_270_21, pi_270_22, pi_270_23, pi_270_34, pi_270_35, pi_270_36, gr_270_1, gr_270_2, gr_270_3, gr_270_4, gr_270_5, gr_270_6, gr_270_7, gr_270_8, gr_270_9, gr_270_16, gr_270_17, gr_270_18, gr_270_19, gr_270_20, gr_270_24, gr_270_25, gr_270_26, gr_270_27, gr_270_28, gr_270_29, gr_270_30, gr_270_31, gr_270_32, gr_270_33, ld_271, ld_272, ld_273, ld_274, ld_275, ld_276, ld_277, ld_278, ld_279, ld_280, ld_281, ld_282, ld_283, ld_284, ld_285, ld_286, ld_287, ld_288, ld_289, ld_290, ld_291, ld_292, ld_293, ld_294, sv_271, sv_272, sv_273, sv_274, sv_275, sv_276, sv_277, sv_278, sv_279, sv_280, sv_281, sv_282, sv_283, sv_284, sv_285, sv_286, sv_287, sv_288, sv_289, sv_290, sv_291, sv_292, sv_293, sv_294, is_270, ia_0, ia_1, is_m0, is_m1, im_8, ml_8, im_11, ml_11, im_12, ml_12, im_88, ml_88, im_89, ml_89, j_lt_0, j_gt_0, j_le_0, j_ge_0, j_eq_0, j_lt_1, j_gt_1, j_le_1, j_ge_1, j_eq_1, j_lt_2, j_gt_2, j_le_2, j_ge_2, j_eq_2, j_lt_3, j_gt_3, j_le_3, j_ge_3, j_eq_3, j_lt_4, j_gt_4, j_le_4, j_ge_4, j_eq_4, j_lt_5, j_gt_5, j_le_5, j_ge_5, j_eq_5, j_lt_6, j_gt_6, j_le_6, j_ge_6, j_eq_6, j_lt_8, j_gt_8, j_le_8, j_ge_8, j_eq_8, j_lt_12, j_gt_12, j_le_12, j_ge_12, j_eq_12, j_lt_209, j_gt_209, j_le_209, j_ge_209, j_eq_209, j_lt_255, j_gt_255, j_le_255, j_ge_255, j_eq_255, j_lt_1000000000, j_gt_1000000000, j_le_1000000000, j_ge_1000000000, j_eq_1000000000, h10, i_le, e, hl s (by omega)]
    have h' : dX tb (d + 1) 136 51 [.ref 270, .int x, .int (Int32.ofNat (cU lf s + (bif lf s then 1 else 0))), .int (Int32.ofNat (s + 1)), l4] [] (c, t, hp g (SH fl tg) σ) = some (some (.int (Int32.ofNat (cU lf (pM P)))), (c, t, hp g (SH fl tg) σ)) := h
    cases q : lf s
    · rw [q] at h'; rw [if_pos (by decide)]; exact h'
    · rw [q] at h'; rw [if_neg (by decide)]; exact h'
theorem mq_cpI (C : ShM P σ) (W : Wf P) {x : Int32} {s a : Nat} (hs : s < pM P) : ∀ q o, o + q = pM P → dX tb (d + 1) 136 96 [.ref 270, .int x, .int (Int32.ofNat (a + cU (pOv P s) o)), .int (Int32.ofNat s), .int (Int32.ofNat o)] [] (c, t, hp g (SH fl tg) σ) = dX tb (d + 1) 136 85 [.ref 270, .int x, .int (Int32.ofNat (a + cU (pOv P s) (pM P))), .int (Int32.ofNat (s + 1)), .int (Int32.ofNat (pM P))] [] (c, t, hp g (SH fl tg) σ) := by
  have hm := W.1
  have C1 := C.1
  intro q
  induction q with
  | zero =>
    intro o ho
    have e : o = pM P := ho
    rw [sg_X7_count_96, e]
    simp (disch := omega) only [bq_s, aq_I, aq_R, aq_V, cq_t, cq_f, if_true, if_false, Bool.true_and, Bool.and_true, Bool.or_true, Bool.true_or, gi_270_0, gi_270_10, gi_270_11, gi_270_12, gi_270_13, gi_270_14, gi_270_15, gi_270_21, gi_270_22, gi_270_23, gi_270_34, gi_270_35, gi_270_36, pi_270_0, pi_270_10, pi_270_11, pi_270_12, pi_270_13, pi_270_14, pi_270_15, pi_270_21, pi_270_22, pi_270_23, pi_270_34, pi_270_35, pi_270_36, gr_270_1, gr_270_2, gr_270_3, gr_270_4, gr_270_5, gr_270_6, gr_270_7, gr_270_8, gr_270_9, gr_270_16, gr_270_17, gr_270_18, gr_270_19, gr_270_20, gr_270_24, gr_270_25, gr_270_26, gr_270_27, gr_270_28, gr_270_29, gr_270_30, gr_270_31, gr_270_32, gr_270_33, ld_271, ld_272, ld_273, ld_274, ld_275, ld_276, ld_277, ld_278, ld_279, ld_280, ld_281, ld_282, ld_283, ld_284, ld_285, ld_286, ld_287, ld_288, ld_289, ld_290, ld_291, ld_292, ld_293, ld_294, sv_271, sv_272, sv_273, sv_274, sv_275, sv_276, sv_277, sv_278, sv_279, sv_280, sv_281, sv_282, sv_283, sv_284, sv_285, sv_286, sv_287, sv_288, sv_289, sv_290, sv_291, sv_292, sv_293, sv_294, is_270, ia_0, ia_1, is_m0, is_m1, im_8, ml_8, im_11, ml_11, im_12, ml_12, im_88, ml_88, im_89, ml_89, j_lt_0, j_gt_0, j_le_0, j_ge_0, j_eq_0, j_lt_1, j_gt_1, j_le_1, j_ge_1, j_eq_1, j_lt_2, j_gt_2, j_le_2, j_ge_2, j_eq_2, j_lt_3, j_gt_3, j_le_3, j_ge_3, j_eq_3, j_lt_4, j_gt_4, j_le_4, j_ge_4, j_eq_4, j_lt_5, j_gt_5, j_le_5, j_ge_5, j_eq_5, j_lt_6, j_gt_6, j_le_6, j_ge_6, j_eq_6, j_lt_8, j_gt_8, j_le_8, j_ge_8, j_eq_8, j_lt_12, j_gt_12, j_le_12, j_ge_12, j_eq_12, j_lt_209, j_gt_209, j_le_209, j_ge_209, j_eq_209, j_lt_255, j_gt_255, j_le_255, j_ge_255, j_eq_255, j_lt_1000000000, j_gt_1000000000, j_le_1000000000, j_ge_1000000000, j_eq_1000000000, C1, i_le, Nat.le_refl]
  | succ q ih =>
    intro o ho
    have e : ¬ pM P ≤ o := by omega
    have h := ih (o + 1) (by omega)
    have e279 := C.2.2.2 s o hs (by omega)
    rw [sg_X7_count_96]
    simp (disch := omega) only [bq_s, aq_I, aq_R, aq_V, cq_t, cq_f, if_true, if_false, Bool.true_and, Bool.and_true, Bool.or_true, Bool.true_or, gi_270_0, gi_270_10, gi_270_11, gi_270_12, gi_270_13, gi_270_14, gi_270_15, gi_270_21, gi_270_22, gi_270_23, gi_270_34, gi_270_35, gi_270_36, pi_270_0, pi_270_10, pi_270_11, pi_270_12, pi_270_13, pi_270_14, pi_270_15, pi_270_21, pi_270_22, pi_270_23, pi_270_34, pi_270_35, pi_270_36, gr_270_1, gr_270_2, gr_270_3, gr_270_4, gr_270_5, gr_270_6, gr_270_7, gr_270_8, gr_270_9, gr_270_16, gr_270_17, gr_270_18, gr_270_19, gr_270_20, gr_270_24, gr_270_25, gr_270_26, gr_270_27, gr_270_28, gr_270_29, gr_270_30, gr_270_31, gr_270_32, gr_270_33, ld_271, ld_272, ld_273, ld_274, ld_275, ld_276, ld_277, ld_278, ld_279, ld_280, ld_281, ld_282, ld_283, ld_284, ld_285, ld_286, ld_287, ld_288, ld_289, ld_290, ld_291, ld_292, ld_293, ld_294, sv_271, sv_272, sv_273, sv_274, sv_275, sv_276, sv_277, sv_278, sv_279, sv_280, sv_281, sv_282, sv_283, sv_284, sv_285, sv_286, sv_287, sv_288, sv_289, sv_290, sv_291, sv_292, sv_293, sv_294, is_270, ia_0, ia_1, is_m0, is_m1, im_8, ml_8, im_11, ml_11, im_12, ml_12, im_88, ml_88, im_89, ml_89, j_lt_0, j_gt_0, j_le_0, j_ge_0, j_eq_0, j_lt_1, j_gt_1, j_le_1, j_ge_1, j_eq_1, j_lt_2, j_gt_2, j_le_2, j_ge_2, j_eq_2, j_lt_3, j_gt_3, j_le_3, j_ge_3, j_eq_3, j_lt_4, j_gt_4, j_le_4, j_ge_4, j_eq_4, j_lt_5, j_gt_5, j_le_5, j_ge_5, j_eq_5, j_lt_6, j_gt_6, j_le_6, j_ge_6, j_eq_6, j_lt_8, j_gt_8, j_le_8, j_ge_8, j_eq_8, j_lt_12, j_gt_12, j_le_12, j_ge_12, j_eq_12, j_lt_209, j_gt_209, j_le_209, j_ge_209, j_eq_209, j_lt_255, j_gt_255, j_le_255, j_ge_255, j_eq_255, j_lt_1000000000, j_gt_1000000000, j_le_1000000000, j_ge_1000000000, j_eq_1000000000, C1, i_le, e, i_add, e279]
    have h' : dX tb (d + 1) 136 96 [.ref 270, .int x, .int (Int32.ofNat (a + (cU (pOv P s) o + (bif pOv P s o then 1 else 0)))), .int (Int32.ofNat s), .int (Int32.ofNat (o + 1))] [] (c, t, hp g (SH fl tg) σ) = dX tb (d + 1) 136 85 [.ref 270, .int x, .int (Int32.ofNat (a + cU (pOv P s) (pM P))), .int (Int32.ofNat (s + 1)), .int (Int32.ofNat (pM P))] [] (c, t, hp g (SH fl tg) σ) := h
    cases q : pOv P s o
    · rw [q] at h'; rw [if_pos (by decide)]; exact h'
    · rw [q] at h'; rw [if_neg (by decide)]; exact h'
theorem mq_cpO (C : ShM P σ) (W : Wf P) {x : Int32} : ∀ q s (l4 : Value), s + q = pM P → dX tb (d + 1) 136 85 [.ref 270, .int x, .int (Int32.ofNat (prU P s)), .int (Int32.ofNat s), l4] [] (c, t, hp g (SH fl tg) σ) = some (some (.int (Int32.ofNat (prU P (pM P)))), (c, t, hp g (SH fl tg) σ)) := by
  have hm := W.1
  have C1 := C.1
  intro q
  induction q with
  | zero =>
    intro s l4 hs
    have e : s = pM P := hs
    rw [sg_X7_count_85, e]
    simp (disch := omega) only [bq_s, aq_I, aq_R, aq_V, cq_t, cq_f, if_true, if_false, Bool.true_and, Bool.and_true, Bool.or_true, Bool.true_or, gi_270_0, gi_270_10, gi_270_11, gi_270_12, gi_270_13, gi_270_14, gi_270_15, gi_270_21, gi_270_22, gi_270_23, gi_270_34, gi_270_35, gi_270_36, pi_270_0, pi_270_10, pi_270_11, pi_270_12, pi_270_13, pi_270_14, pi_270_15, pi_270_21, pi_270_22, pi_270_23, pi_270_34, pi_270_35, pi_270_36, gr_270_1, gr_270_2, gr_270_3, gr_270_4, gr_270_5, gr_270_6, gr_270_7, gr_270_8, gr_270_9, gr_270_16, gr_270_17, gr_270_18, gr_270_19, gr_270_20, gr_270_24, gr_270_25, gr_270_26, gr_270_27, gr_270_28, gr_270_29, gr_270_30, gr_270_31, gr_270_32, gr_270_33, ld_271, ld_272, ld_273, ld_274, ld_275, ld_276, ld_277, ld_278, ld_279, ld_280, ld_281, ld_282, ld_283, ld_284, ld_285, ld_286, ld_287, ld_288, ld_289, ld_290, ld_291, ld_292, ld_293, ld_294, sv_271, sv_272, sv_273, sv_274, sv_275, sv_276, sv_277, sv_278, sv_279, sv_280, sv_281, sv_282, sv_283, sv_284, sv_285, sv_286, sv_287, sv_288, sv_289, sv_290, sv_291, sv_292, sv_293, sv_294, is_270, C1, i_le, Nat.le_refl]
  | succ q ih =>
    intro s l4 hs
    have e : ¬ pM P ≤ s := by omega
    rw [sg_X7_count_85]
    simp (disch := omega) only [bq_s, aq_I, aq_R, aq_V, cq_t, cq_f, if_true, if_false, Bool.true_and, Bool.and_true, Bool.or_true, Bool.true_or, gi_270_0, gi_270_10, gi_270_11, gi_270_12, gi_270_13, gi_270_14, gi_270_15, gi_270_21, gi_270_22, gi_270_23, gi_270_34, gi_270_35, gi_270_36, pi_270_0, pi_270_10, pi_270_11, pi_270_12, pi_270_13, pi_270_14, pi_270_15, pi_270_21, pi_270_22, pi_270_23, pi_270_34, pi_270_35, pi_270_36, gr_270_1, gr_270_2, gr_270_3, gr_270_4, gr_270_5, gr_270_6, gr_270_7, gr_270_8, gr_270_9, gr_270_16, gr_270_17, gr_270_18, gr_270_19, gr_270_20, gr_270_24, gr_270_25, gr_270_26, gr_270_27, gr_270_28, gr_270_29, gr_270_30, gr_270_31, gr_270_32, gr_270_33, ld_271, ld_272, ld_273, ld_274, ld_275, ld_276, ld_277, ld_278, ld_279, ld_280, ld_281, ld_282, ld_283, ld_284, ld_285, ld_286, ld_287, ld_288, ld_289, ld_290, ld_291, ld_292, ld_293, ld_294, sv_271, sv_272, sv_273, sv_274, sv_275, sv_276, sv_277, sv_278, sv_279, sv_280, sv_281, sv_282, sv_283, sv_284, sv_285, sv_286, sv_287, sv_288, sv_289, sv_290, sv_291, sv_292, sv_293, sv_294, is_270, C1, i_le, e]
    refine (mq_cpI (tb := tb) (d := d) (c := c) (t := t) (g := g) (fl := fl) (tg := tg) C W (x := x) (s := s) (a := prU P s) (by omega) (pM P) 0 (by omega)).trans ?_
    exact ih (s + 1) _ (by omega)
theorem mq_count (C : ShM P (up2 σ 270 0 0)) (W : Wf P) (hl : ∀ s, s < pM P → dX tb (d + 1) 133 0 [.ref 270, .int (Int32.ofNat s)] [] (c, t, hp g (SH fl tg) (up2 σ 270 0 0)) = some (some (.int (bI (lf s))), (c, t, hp g (SH fl tg) (up2 σ 270 0 0)))) (h14 : σ 270 14 = n) (h15 : σ 270 15 = j) (x : Int32) : dX tb (d + 2) 136 0 [.ref 270, .int x, .null, .null, .null] [] (c, t, hp g (SH fl tg) σ) = some (some (.int (ans5 (cntA P lf n j) x)), (c, t, hp g (SH fl tg) (up2 σ 270 0 0))) := by
  have C1 := C.1
  rw [sg_X7_count_0, pi_270_0, bq_s]
  refine sw5 ?_ ?_ ?_ ?_ ?_ ?_
  · rw [sg_X7_count_152]
  · show dX tb (d + 2) 136 44 _ _ _ = _
    rw [sg_X7_count_44, gi_270_10, bq_s, C1]; rfl
  · show dX tb (d + 2) 136 49 _ _ _ = _
    rw [sg_X7_count_49]; exact mq_ctL W C1 hl (pM P) 0 (by omega)
  · show dX tb (d + 2) 136 83 _ _ _ = _
    rw [sg_X7_count_83]; exact mq_cpO C W (pM P) 0 _ (by omega)
  · show dX tb (d + 2) 136 142 _ _ _ = _
    rw [sg_X7_count_142, gi_270_14, bq_s, up2_n _ _ (by omega), h14]; rfl
  · show dX tb (d + 2) 136 147 _ _ _ = _
    rw [sg_X7_count_147, gi_270_15, bq_s, up2_n _ _ (by omega), h15]; rfl
end CNT
