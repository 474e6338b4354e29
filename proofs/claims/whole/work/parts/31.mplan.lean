/-! THE REFERENCE'S PLAN, first part: what it may come to, the ticks to begin, the least sum -/
section MPL
variable {tb : dT} {d c t : Nat} {g : Nat → Option dE} {fl : Nat → Bool} {tg : Nat} {σ : dSg} {P : dP} {A : dA}
theorem lp_0 : dm_ldI (c, t, hp g (SH fl tg) σ) 276 0 0 = some (σ 276 0) := ld_276 (m := 0) (by decide)
theorem lp_1 : dm_ldI (c, t, hp g (SH fl tg) σ) 276 0 1 = some (σ 276 1) := ld_276 (m := 1) (by decide)
theorem lp_2 : dm_ldI (c, t, hp g (SH fl tg) σ) 276 0 2 = some (σ 276 2) := ld_276 (m := 2) (by decide)
theorem lp_3 : dm_ldI (c, t, hp g (SH fl tg) σ) 276 0 3 = some (σ 276 3) := ld_276 (m := 3) (by decide)
theorem lp_4 : dm_ldI (c, t, hp g (SH fl tg) σ) 276 0 4 = some (σ 276 4) := ld_276 (m := 4) (by decide)
theorem lq_0 : dm_ldI (c, t, hp g (SH fl tg) σ) 4 0 0 = some (σ 4 0) := ld_4 (m := 0) (by decide)
theorem lq_1 : dm_ldI (c, t, hp g (SH fl tg) σ) 4 0 1 = some (σ 4 1) := ld_4 (m := 1) (by decide)
theorem lq_2 : dm_ldI (c, t, hp g (SH fl tg) σ) 4 0 2 = some (σ 4 2) := ld_4 (m := 2) (by decide)
theorem lq_3 : dm_ldI (c, t, hp g (SH fl tg) σ) 4 0 3 = some (σ 4 3) := ld_4 (m := 3) (by decide)
theorem lq_4 : dm_ldI (c, t, hp g (SH fl tg) σ) 4 0 4 = some (σ 4 4) := ld_4 (m := 4) (by decide)
theorem lx_0 {s : Nat} (hs : s < 8) : dm_ldI (c, t, hp g (SH fl tg) σ) (xA fl s) 0 0 = some (σ (xA fl s) 0) := ld_x (m := 0) hs (by decide)
theorem ly_0 {s : Nat} (hs : s < 8) : dm_ldI (c, t, hp g (SH fl tg) σ) (yA fl s) 0 0 = some (σ (yA fl s) 0) := ld_y (m := 0) hs (by decide)
theorem km_dx0 (C : ShM P σ) (W : Wf P) {s b : Nat} (hs : s < pM P) (hb : b < bgn P s) (hk : 0 < pN P s) : dX tb (d + 3) 104 0 [.ref 270, .int (Int32.ofNat s), .int (Int32.ofNat b), .int 0] [] (c, t, hp g (SH fl tg) σ) = some (some (.int (Int32.ofNat (dXn P s b 0))), (c, t, hp g (SH fl tg) σ)) := km_dx C W hs hb hk
theorem km_dy0 (C : ShM P σ) (W : Wf P) {s b : Nat} (hs : s < pM P) (hb : b < bgn P s) (hk : 0 < pN P s) : dX tb (d + 3) 105 0 [.ref 270, .int (Int32.ofNat s), .int (Int32.ofNat b), .int 0] [] (c, t, hp g (SH fl tg) σ) = some (some (.int (Int32.ofNat (dYn P s b 0))), (c, t, hp g (SH fl tg) σ)) := km_dy C W hs hb hk
theorem n_m1 {a : Nat} (h : a < 2 ^ 31) : (Int32.ofNat a = -1) = False := eq_false fun z => by
  have h2 := congrArg Int32.toInt z
  rw [Int32.toInt_ofNat_of_lt h] at h2
  have h3 : (-1 : Int32).toInt = -1 := rfl
  omega
theorem m1_m1 : ((-1 : Int32) = -1) = True := eq_true rfl
def ArM (A : dA) (σ : dSg) : Prop := σ 270 11 = Int32.ofNat A.1 ∧ σ 270 12 = Int32.ofNat A.2.1 ∧ σ 270 13 = A.2.2 ∧ A.1 ≤ 500 ∧ A.2.1 ≤ 500
theorem km_tb136 (C : ShM P σ) (W : Wf P) {s : Nat} (hs : s < pM P) {down same : Bool} {w : Nat} (hw : w ≤ 500) {l1 l2 l4 l6 l7 l8 : Int32} (h8 : (l8 = Int32.ofNat (pPen P s)) = (same = true)) (hq : (down && (same && decide (w = 0))) = false) : dX tb (d + 1) 109 136 [.ref 270, .int l1, .int l2, .int (Int32.ofNat s), .int l4, .int (bI down), .int l6, .int l7, .int l8, .int (Int32.ofNat w)] [] (c, t, hp g (SH fl tg) σ) = some (some (.int (Int32.ofNat (tbW P down same w))), (c, t, hp g (SH fl tg) σ)) := by
  have hm := W.1
  have e2 := (C.2.2.1 s hs).2.1
  have c1 := C.2.1 1 (by decide)
  have c2 := C.2.1 2 (by decide)
  have c3 := C.2.1 3 (by decide)
  rw [sg_X7_toBegin_136]
  unfold tbW
  rw [hq]
  cases down <;> cases same <;> simp (disch := omega) only [Option.bind_some, as_I, as_R, as_V, ct_t, ct_f, if_true, if_false, Bool.true_and, Bool.and_true, Bool.or_true, Bool.true_or, gi_270_0, gi_270_10, gi_270_11, gi_270_12, gi_270_13, gi_270_14, gi_270_15, gi_270_21, gi_270_22, gi_270_23, gi_270_34, gi_270_35, gi_270_36, pi_270_0, pi_270_10, pi_270_11, pi_270_12, pi_270_13, pi_270_14, pi_270_15, pi_270_21, pi_270_22, pi_270_23, pi_270_34, pi_270_35, pi_270_36, gr_270_1, gr_270_2, gr_270_3, gr_270_4, gr_270_5, gr_270_6, gr_270_7, gr_270_8, gr_270_9, gr_270_16, gr_270_17, gr_270_18, gr_270_19, gr_270_20, gr_270_24, gr_270_25, gr_270_26, gr_270_27, gr_270_28, gr_270_29, gr_270_30, gr_270_31, gr_270_32, gr_270_33, ld_271, ld_272, ld_273, ld_274, ld_275, ld_276, ld_277, ld_278, ld_279, ld_280, ld_281, ld_282, ld_283, ld_284, ld_285, ld_286, ld_287, ld_288, ld_289, ld_290, ld_291, ld_292, ld_293, ld_294, sv_271, sv_272, sv_273, sv_274, sv_275, sv_276, sv_277, sv_278, sv_279, sv_280, sv_281, sv_282, sv_283, sv_284, sv_285, sv_286, sv_287, sv_288, sv_289, sv_290, sv_291, sv_292, sv_293, sv_294, is_270, lp_0, lp_1, lp_2, lp_3, lp_4, lq_0, lq_1, lq_2, lq_3, lq_4, lx_0, ly_0, bI_0, e2, c1, c2, c3, h8, Int32.zero_add, Int32.add_zero, i_mul, i_add, Bool.true_eq_false, Bool.false_eq_true, Nat.zero_add, Nat.add_zero]
theorem km_tbA (C : ShM P σ) (W : Wf P) (hA : ArM A σ) {s b : Nat} (hs : s < pM P) (hb : b < bgn P s) (h2 : 2 ≤ pN P s) (x : Int32) : dX tb (d + 4) 109 0 [.ref 270, .int (-1), .int x, .int (Int32.ofNat s), .int (Int32.ofNat b), .null, .null, .null, .null, .null] [] (c, t, hp g (SH fl tg) σ) = some (some (.int (Int32.ofNat (tbF P A 88 s b))), (c, t, hp g (SH fl tg) σ)) := by
  have x1 := dXn_le (b := b) (k := 0) W hs (by omega)
  have y1 := dYn_le (b := b) (k := 0) W hs (by omega)
  obtain ⟨a1, a2, a3, a4, a5⟩ := hA
  rw [sg_X7_toBegin_0]
  simp (disch := omega) only [Option.bind_some, as_I, as_R, as_V, ct_t, ct_f, if_true, if_false, Bool.true_and, Bool.and_true, Bool.or_true, Bool.true_or, gi_270_0, gi_270_10, gi_270_11, gi_270_12, gi_270_13, gi_270_14, gi_270_15, gi_270_21, gi_270_22, gi_270_23, gi_270_34, gi_270_35, gi_270_36, pi_270_0, pi_270_10, pi_270_11, pi_270_12, pi_270_13, pi_270_14, pi_270_15, pi_270_21, pi_270_22, pi_270_23, pi_270_34, pi_270_35, pi_270_36, gr_270_1, gr_270_2, gr_270_3, gr_270_4, gr_270_5, gr_270_6, gr_270_7, gr_270_8, gr_270_9, gr_270_16, gr_270_17, gr_270_18, gr_270_19, gr_270_20, gr_270_24, gr_270_25, gr_270_26, gr_270_27, gr_270_28, gr_270_29, gr_270_30, gr_270_31, gr_270_32, gr_270_33, ld_271, ld_272, ld_273, ld_274, ld_275, ld_276, ld_277, ld_278, ld_279, ld_280, ld_281, ld_282, ld_283, ld_284, ld_285, ld_286, ld_287, ld_288, ld_289, ld_290, ld_291, ld_292, ld_293, ld_294, sv_271, sv_272, sv_273, sv_274, sv_275, sv_276, sv_277, sv_278, sv_279, sv_280, sv_281, sv_282, sv_283, sv_284, sv_285, sv_286, sv_287, sv_288, sv_289, sv_290, sv_291, sv_292, sv_293, sv_294, is_270, m1_m1, a1, a2, a3, km_dx0 C W hs hb, km_dy0 C W hs hb, sg_X7_way_0, i_way a4 a5 x1 y1]
  have := km_tb136 (tb := tb) (d := d + 3) (c := c) (t := t) (g := g) (fl := fl) (tg := tg) C W hs (down := false) (same := decide (A.2.2 = Int32.ofNat (pPen P s))) (w := wayN A.1 A.2.1 (dXn P s b 0) (dYn P s b 0)) (l1 := -1) (l2 := x) (l4 := Int32.ofNat b) (l6 := Int32.ofNat A.1) (l7 := Int32.ofNat A.2.1) (l8 := A.2.2) (way_le a4 a5 x1 y1) (by rw [decide_eq_true_eq]) rfl
  unfold tbF
  rw [if_pos rfl]
  exact this
theorem km_tbS (C : ShM P σ) (W : Wf P) {f s b : Nat} (hf : f < 88) (hf1 : f / 11 < pM P) (hf2 : f % 11 < bgn P (f / 11)) (hf3 : 2 ≤ pN P (f / 11)) (hs : s < pM P) (hb : b < bgn P s) (h2 : 2 ≤ pN P s) : dX tb (d + 4) 109 0 [.ref 270, .int (Int32.ofNat (f / 11)), .int (Int32.ofNat (f % 11)), .int (Int32.ofNat s), .int (Int32.ofNat b), .null, .null, .null, .null, .null] [] (c, t, hp g (SH fl tg) σ) = some (some (.int (Int32.ofNat (tbF P A f s b))), (c, t, hp g (SH fl tg) σ)) := by
  have hm := W.1
  have x1 := dXn_le (b := b) (k := 0) W hs (by omega)
  have y1 := dYn_le (b := b) (k := 0) W hs (by omega)
  have x2 := dXn_le (s := f / 11) (b := f % 11) (k := pN P (f / 11) - 1) W hf1 (by omega)
  have y2 := dYn_le (s := f / 11) (b := f % 11) (k := pN P (f / 11) - 1) W hf1 (by omega)
  have hn := (W.2.1 _ hf1).1
  have p1 := (W.2.1 _ hf1).2.1
  have p2 := (W.2.1 _ hs).2.1
  have e1 := (C.2.2.1 _ hf1).1
  have e2 := (C.2.2.1 _ hf1).2.1
  have e3 := (C.2.2.1 _ hs).2.1
  have hw := way_le x2 y2 x1 y1
  rw [sg_X7_toBegin_0]
  simp (disch := omega) only [Option.bind_some, as_I, as_R, as_V, ct_t, ct_f, if_true, if_false, Bool.true_and, Bool.and_true, Bool.or_true, Bool.true_or, gi_270_0, gi_270_10, gi_270_11, gi_270_12, gi_270_13, gi_270_14, gi_270_15, gi_270_21, gi_270_22, gi_270_23, gi_270_34, gi_270_35, gi_270_36, pi_270_0, pi_270_10, pi_270_11, pi_270_12, pi_270_13, pi_270_14, pi_270_15, pi_270_21, pi_270_22, pi_270_23, pi_270_34, pi_270_35, pi_270_36, gr_270_1, gr_270_2, gr_270_3, gr_270_4, gr_270_5, gr_270_6, gr_270_7, gr_270_8, gr_270_9, gr_270_16, gr_270_17, gr_270_18, gr_270_19, gr_270_20, gr_270_24, gr_270_25, gr_270_26, gr_270_27, gr_270_28, gr_270_29, gr_270_30, gr_270_31, gr_270_32, gr_270_33, ld_271, ld_272, ld_273, ld_274, ld_275, ld_276, ld_277, ld_278, ld_279, ld_280, ld_281, ld_282, ld_283, ld_284, ld_285, ld_286, ld_287, ld_288, ld_289, ld_290, ld_291, ld_292, ld_293, ld_294, sv_271, sv_272, sv_273, sv_274, sv_275, sv_276, sv_277, sv_278, sv_279, sv_280, sv_281, sv_282, sv_283, sv_284, sv_285, sv_286, sv_287, sv_288, sv_289, sv_290, sv_291, sv_292, sv_293, sv_294, is_270, ia_0, ia_1, is_m0, is_m1, im_8, ml_8, im_11, ml_11, im_12, ml_12, im_88, ml_88, im_89, ml_89, j_lt_0, j_gt_0, j_le_0, j_ge_0, j_eq_0, j_lt_1, j_gt_1, j_le_1, j_ge_1, j_eq_1, j_lt_2, j_gt_2, j_le_2, j_ge_2, j_eq_2, j_lt_3, j_gt_3, j_le_3, j_ge_3, j_eq_3, j_lt_4, j_gt_4, j_le_4, j_ge_4, j_eq_4, j_lt_5, j_gt_5, j_le_5, j_ge_5, j_eq_5, j_lt_6, j_gt_6, j_le_6, j_ge_6, j_eq_6, j_lt_8, j_gt_8, j_le_8, j_ge_8, j_eq_8, j_lt_12, j_gt_12, j_le_12, j_ge_12, j_eq_12, j_lt_209, j_gt_209, j_le_209, j_ge_209, j_eq_209, j_lt_255, j_gt_255, j_le_255, j_ge_255, j_eq_255, j_lt_1000000000, j_gt_1000000000, j_le_1000000000, j_ge_1000000000, j_eq_1000000000, n_m1, e1, e2, e3, km_dx C W hf1 hf2, km_dy C W hf1 hf2, km_dx0 C W hs hb, km_dy0 C W hs hb, sg_X7_way_0, i_way x2 y2 x1 y1, i_eq]
  unfold tbF
  rw [if_neg (show ¬ f = 88 by omega)]
  generalize wayN (dXn P (f / 11) (f % 11) (pN P (f / 11) - 1)) (dYn P (f / 11) (f % 11) (pN P (f / 11) - 1)) (dXn P s b 0) (dYn P s b 0) = w at *
  have key := fun (h : (true && (decide (pPen P (f / 11) = pPen P s) && decide (w = 0))) = false) => km_tb136 (tb := tb) (d := d + 3) (c := c) (t := t) (g := g) (fl := fl) (tg := tg) C W hs (down := true) (same := decide (pPen P (f / 11) = pPen P s)) (w := w) (l1 := Int32.ofNat (f / 11)) (l2 := Int32.ofNat (f % 11)) (l4 := Int32.ofNat b) (l6 := Int32.ofNat (dXn P (f / 11) (f % 11) (pN P (f / 11) - 1))) (l7 := Int32.ofNat (dYn P (f / 11) (f % 11) (pN P (f / 11) - 1))) (l8 := Int32.ofNat (pPen P (f / 11))) hw (by rw [decide_eq_true_eq, i_eq (by omega) (by omega)]) h
  by_cases q1 : w = 0
  · rw [if_pos q1]
    by_cases q2 : pPen P (f / 11) = pPen P s
    · rw [if_pos q2, decide_eq_true q2]
      unfold tbW
      rw [decide_eq_true q1]
      rfl
    · rw [if_neg q2]
      exact key (by rw [decide_eq_false q2]; rfl)
  · rw [if_neg q1]
    exact key (by rw [decide_eq_false q1]; simp only [Bool.and_false])
/-- masks of strokes -/
def lfm (lf : Nat → Bool) : Nat → Nat
  | 0 => 0
  | o + 1 => bif lf o then lfm lf o ||| 2 ^ o else lfm lf o
theorem lfm_lt (lf : Nat → Bool) (n : Nat) : lfm lf n < 2 ^ n := by
  induction n with
  | zero => exact Nat.zero_lt_one
  | succ n ih =>
    have h1 : lfm lf n < 2 ^ (n + 1) := Nat.lt_of_lt_of_le ih (Nat.pow_le_pow_right (by decide) (by omega))
    show (bif lf n then lfm lf n ||| 2 ^ n else lfm lf n) < _
    cases lf n
    · exact h1
    · exact Nat.or_lt_two_pow h1 (Nat.pow_lt_pow_right (by decide) (by omega))
theorem lfm_tb (lf : Nat → Bool) (n q : Nat) : (lfm lf n).testBit q = (decide (q < n) && lf q) := by
  induction n with
  | zero => show (0 : Nat).testBit q = _; simp
  | succ n ih =>
    show (bif lf n then lfm lf n ||| 2 ^ n else lfm lf n).testBit q = _
    cases hl : lf n
    · show (lfm lf n).testBit q = _
      rw [ih]
      by_cases h : q = n
      · subst h; rw [hl, Bool.and_false, Bool.and_false]
      · rw [show decide (q < n + 1) = decide (q < n) from decide_eq_decide.mpr (by omega)]
    · show (lfm lf n ||| 2 ^ n).testBit q = _
      rw [or_tb, ih]
      by_cases h : q = n
      · subst h; rw [hl, decide_eq_true (show q < q + 1 by omega), decide_eq_true (rfl : q = q), Bool.or_true]; rfl
      · rw [decide_eq_false (show ¬ n = q by omega), Bool.or_false, show decide (q < n + 1) = decide (q < n) from decide_eq_decide.mpr (by omega)]
theorem p8 {n : Nat} (h : n ≤ 8) : 2 ^ n ≤ 256 := Nat.pow_le_pow_right (n := 2) (by decide) h
theorem km_leftL (C : ShM P σ) (W : Wf P) : ∀ q s, s + q = pM P → dX tb d 111 4 [.ref 270, .int (Int32.ofNat (lfm (pLf P) s)), .int (Int32.ofNat s)] [] (c, t, hp g (SH fl tg) σ) = some (some (.int (Int32.ofNat (lfm (pLf P) (pM P)))), (c, t, hp g (SH fl tg) σ)) := by
  have hm := W.1
  intro q
  induction q with
  | zero =>
    intro s h
    rw [sg_X7_leftSet_4]
    have h1 : pM P ≤ s := by omega
    simp (disch := omega) only [Option.bind_some, as_I, as_R, as_V, ct_t, ct_f, if_true, if_false, Bool.true_and, Bool.and_true, Bool.or_true, Bool.true_or, gi_270_0, gi_270_10, gi_270_11, gi_270_12, gi_270_13, gi_270_14, gi_270_15, gi_270_21, gi_270_22, gi_270_23, gi_270_34, gi_270_35, gi_270_36, pi_270_0, pi_270_10, pi_270_11, pi_270_12, pi_270_13, pi_270_14, pi_270_15, pi_270_21, pi_270_22, pi_270_23, pi_270_34, pi_270_35, pi_270_36, gr_270_1, gr_270_2, gr_270_3, gr_270_4, gr_270_5, gr_270_6, gr_270_7, gr_270_8, gr_270_9, gr_270_16, gr_270_17, gr_270_18, gr_270_19, gr_270_20, gr_270_24, gr_270_25, gr_270_26, gr_270_27, gr_270_28, gr_270_29, gr_270_30, gr_270_31, gr_270_32, gr_270_33, ld_271, ld_272, ld_273, ld_274, ld_275, ld_276, ld_277, ld_278, ld_279, ld_280, ld_281, ld_282, ld_283, ld_284, ld_285, ld_286, ld_287, ld_288, ld_289, ld_290, ld_291, ld_292, ld_293, ld_294, sv_271, sv_272, sv_273, sv_274, sv_275, sv_276, sv_277, sv_278, sv_279, sv_280, sv_281, sv_282, sv_283, sv_284, sv_285, sv_286, sv_287, sv_288, sv_289, sv_290, sv_291, sv_292, sv_293, sv_294, is_270, C.1, i_le, h1]
    rw [show s = pM P by omega]
  | succ q ih =>
    intro s h
    have hs : s < pM P := by omega
    have h1 : ¬ pM P ≤ s := by omega
    have e4 := (C.2.2.1 s hs).2.2.2.1
    have hl := Nat.lt_of_lt_of_le (lfm_lt (pLf P) s) (p8 (n := s) (by omega))
    have nx := ih (s + 1) (by omega)
    rw [show lfm (pLf P) (s + 1) = bif pLf P s then lfm (pLf P) s ||| 2 ^ s else lfm (pLf P) s from rfl] at nx
    rw [sg_X7_leftSet_4]
    simp (disch := omega) only [Option.bind_some, as_I, as_R, as_V, ct_t, ct_f, if_true, if_false, Bool.true_and, Bool.and_true, Bool.or_true, Bool.true_or, gi_270_0, gi_270_10, gi_270_11, gi_270_12, gi_270_13, gi_270_14, gi_270_15, gi_270_21, gi_270_22, gi_270_23, gi_270_34, gi_270_35, gi_270_36, pi_270_0, pi_270_10, pi_270_11, pi_270_12, pi_270_13, pi_270_14, pi_270_15, pi_270_21, pi_270_22, pi_270_23, pi_270_34, pi_270_35, pi_270_36, gr_270_1, gr_270_2, gr_270_3, gr_270_4, gr_270_5, gr_270_6, gr_270_7, gr_270_8, gr_270_9, gr_270_16, gr_270_17, gr_270_18, gr_270_19, gr_270_20, gr_270_24, gr_270_25, gr_270_26, gr_270_27, gr_270_28, gr_270_29, gr_270_30, gr_270_31, gr_270_32, gr_270_33, ld_271, ld_272, ld_273, ld_274, ld_275, ld_276, ld_277, ld_278, ld_279, ld_280, ld_281, ld_282, ld_283, ld_284, ld_285, ld_286, ld_287, ld_288, ld_289, ld_290, ld_291, ld_292, ld_293, ld_294, sv_271, sv_272, sv_273, sv_274, sv_275, sv_276, sv_277, sv_278, sv_279, sv_280, sv_281, sv_282, sv_283, sv_284, sv_285, sv_286, sv_287, sv_288, sv_289, sv_290, sv_291, sv_292, sv_293, sv_294, is_270, ia_0, ia_1, is_m0, is_m1, im_8, ml_8, im_11, ml_11, im_12, ml_12, im_88, ml_88, im_89, ml_89, j_lt_0, j_gt_0, j_le_0, j_ge_0, j_eq_0, j_lt_1, j_gt_1, j_le_1, j_ge_1, j_eq_1, j_lt_2, j_gt_2, j_le_2, j_ge_2, j_eq_2, j_lt_3, j_gt_3, j_le_3, j_ge_3, j_eq_3, j_lt_4, j_gt_4, j_le_4, j_ge_4, j_eq_4, j_lt_5, j_gt_5, j_le_5, j_ge_5, j_eq_5, j_lt_6, j_gt_6, j_le_6, j_ge_6, j_eq_6, j_lt_8, j_gt_8, j_le_8, j_ge_8, j_eq_8, j_lt_12, j_gt_12, j_le_12, j_ge_12, j_eq_12, j_lt_209, j_gt_209, j_le_209, j_ge_209, j_eq_209, j_lt_255, j_gt_255, j_le_255, j_ge_255, j_eq_255, j_lt_1000000000, j_gt_1000000000, j_le_1000000000, j_ge_1000000000, j_eq_1000000000, C.1, i_le, h1, e4, bI_0, b_or]
    cases hq : pLf P s
    · rw [hq] at nx
      rw [if_pos rfl, show Int32.ofNat (lfm (pLf P) s) ||| 0 = Int32.ofNat (lfm (pLf P) s) from Int32.or_zero]
      exact nx
    · rw [hq] at nx
      rw [if_neg (by decide)]
      exact nx
theorem km_left (C : ShM P σ) (W : Wf P) : dX tb d 111 0 [.ref 270, .null, .null] [] (c, t, hp g (SH fl tg) σ) = some (some (.int (Int32.ofNat (lfm (pLf P) (pM P)))), (c, t, hp g (SH fl tg) σ)) := by
  rw [sg_X7_leftSet_0]
  exact km_leftL C W (pM P) 0 (by omega)
theorem km_mayL (C : ShM P σ) (W : Wf P) {all set s : Nat} (ha : all < 256) (hS : set < 256) (hs : s < pM P) : ∀ q o (ok : Bool), o + q = pM P → dX tb d 112 25 [.ref 270, .int (Int32.ofNat s), .int (Int32.ofNat set), .int (Int32.ofNat all), .int (bI ok), .int (Int32.ofNat o)] [] (c, t, hp g (SH fl tg) σ) = some (some (.int (bI (dcd (ok = true ∧ ∀ o', o ≤ o' → o' < pM P → pOv P s o' = true → all.testBit o' = true → set.testBit o' = true)))), (c, t, hp g (SH fl tg) σ)) := by
  have hm := W.1
  intro q
  induction q with
  | zero =>
    intro o ok h
    have h1 : pM P ≤ o := by omega
    rw [sg_X7_mayCome_25]
    simp (disch := omega) only [Option.bind_some, as_I, as_R, as_V, ct_t, ct_f, if_true, if_false, Bool.true_and, Bool.and_true, Bool.or_true, Bool.true_or, gi_270_0, gi_270_10, gi_270_11, gi_270_12, gi_270_13, gi_270_14, gi_270_15, gi_270_21, gi_270_22, gi_270_23, gi_270_34, gi_270_35, gi_270_36, pi_270_0, pi_270_10, pi_270_11, pi_270_12, pi_270_13, pi_270_14, pi_270_15, pi_270_21, pi_270_22, pi_270_23, pi_270_34, pi_270_35, pi_270_36, gr_270_1, gr_270_2, gr_270_3, gr_270_4, gr_270_5, gr_270_6, gr_270_7, gr_270_8, gr_270_9, gr_270_16, gr_270_17, gr_270_18, gr_270_19, gr_270_20, gr_270_24, gr_270_25, gr_270_26, gr_270_27, gr_270_28, gr_270_29, gr_270_30, gr_270_31, gr_270_32, gr_270_33, ld_271, ld_272, ld_273, ld_274, ld_275, ld_276, ld_277, ld_278, ld_279, ld_280, ld_281, ld_282, ld_283, ld_284, ld_285, ld_286, ld_287, ld_288, ld_289, ld_290, ld_291, ld_292, ld_293, ld_294, sv_271, sv_272, sv_273, sv_274, sv_275, sv_276, sv_277, sv_278, sv_279, sv_280, sv_281, sv_282, sv_283, sv_284, sv_285, sv_286, sv_287, sv_288, sv_289, sv_290, sv_291, sv_292, sv_293, sv_294, is_270, C.1, i_le, h1, bI_d]
    cases ok
    · rw [dcd_f (fun z => absurd z.1 (by decide))]
    · rw [dcd_t ⟨rfl, fun o' a b => by omega⟩]
  | succ q ih =>
    intro o ok h
    have ho : o < pM P := by omega
    have h1 : ¬ pM P ≤ o := by omega
    have e := C.2.2.2 s o hs ho
    have nx0 := ih (o + 1) false (by omega)
    have nx1 := ih (o + 1) true (by omega)
    rw [sg_X7_mayCome_25]
    simp (disch := omega) only [Option.bind_some, as_I, as_R, as_V, ct_t, ct_f, if_true, if_false, Bool.true_and, Bool.and_true, Bool.or_true, Bool.true_or, gi_270_0, gi_270_10, gi_270_11, gi_270_12, gi_270_13, gi_270_14, gi_270_15, gi_270_21, gi_270_22, gi_270_23, gi_270_34, gi_270_35, gi_270_36, pi_270_0, pi_270_10, pi_270_11, pi_270_12, pi_270_13, pi_270_14, pi_270_15, pi_270_21, pi_270_22, pi_270_23, pi_270_34, pi_270_35, pi_270_36, gr_270_1, gr_270_2, gr_270_3, gr_270_4, gr_270_5, gr_270_6, gr_270_7, gr_270_8, gr_270_9, gr_270_16, gr_270_17, gr_270_18, gr_270_19, gr_270_20, gr_270_24, gr_270_25, gr_270_26, gr_270_27, gr_270_28, gr_270_29, gr_270_30, gr_270_31, gr_270_32, gr_270_33, ld_271, ld_272, ld_273, ld_274, ld_275, ld_276, ld_277, ld_278, ld_279, ld_280, ld_281, ld_282, ld_283, ld_284, ld_285, ld_286, ld_287, ld_288, ld_289, ld_290, ld_291, ld_292, ld_293, ld_294, sv_271, sv_272, sv_273, sv_274, sv_275, sv_276, sv_277, sv_278, sv_279, sv_280, sv_281, sv_282, sv_283, sv_284, sv_285, sv_286, sv_287, sv_288, sv_289, sv_290, sv_291, sv_292, sv_293, sv_294, is_270, ia_0, ia_1, is_m0, is_m1, im_8, ml_8, im_11, ml_11, im_12, ml_12, im_88, ml_88, im_89, ml_89, j_lt_0, j_gt_0, j_le_0, j_ge_0, j_eq_0, j_lt_1, j_gt_1, j_le_1, j_ge_1, j_eq_1, j_lt_2, j_gt_2, j_le_2, j_ge_2, j_eq_2, j_lt_3, j_gt_3, j_le_3, j_ge_3, j_eq_3, j_lt_4, j_gt_4, j_le_4, j_ge_4, j_eq_4, j_lt_5, j_gt_5, j_le_5, j_ge_5, j_eq_5, j_lt_6, j_gt_6, j_le_6, j_ge_6, j_eq_6, j_lt_8, j_gt_8, j_le_8, j_ge_8, j_eq_8, j_lt_12, j_gt_12, j_le_12, j_ge_12, j_eq_12, j_lt_209, j_gt_209, j_le_209, j_ge_209, j_eq_209, j_lt_255, j_gt_255, j_le_255, j_ge_255, j_eq_255, j_lt_1000000000, j_gt_1000000000, j_le_1000000000, j_ge_1000000000, j_eq_1000000000, C.1, i_le, h1, bI_0, bI_1, b_tst, i_add, i_mul, e]
    cases ok
    · rw [if_pos rfl]
      refine nx0.trans ?_
      rw [dcd_f (fun z => absurd z.1 (by decide)), dcd_f (fun z => absurd z.1 (by decide))]
    · rw [if_neg (by decide)]
      have go : ∀ p : Prop, p → (p → (pOv P s o = true → all.testBit o = true → set.testBit o = true)) → dX tb d 112 25 [.ref 270, .int (Int32.ofNat s), .int (Int32.ofNat set), .int (Int32.ofNat all), .int 1, .int (Int32.ofNat (o + 1))] [] (c, t, hp g (SH fl tg) σ) = some (some (.int (bI (dcd (true = true ∧ ∀ o', o ≤ o' → o' < pM P → pOv P s o' = true → all.testBit o' = true → set.testBit o' = true)))), (c, t, hp g (SH fl tg) σ)) := by
        intro p hp hq
        refine nx1.trans ?_
        rw [dcd_c (show (true = true ∧ ∀ o', o + 1 ≤ o' → o' < pM P → pOv P s o' = true → all.testBit o' = true → set.testBit o' = true) ↔ (true = true ∧ ∀ o', o ≤ o' → o' < pM P → pOv P s o' = true → all.testBit o' = true → set.testBit o' = true) from ⟨fun z => ⟨rfl, fun o' a b => ?_⟩, fun z => ⟨rfl, fun o' a b => z.2 o' (by omega) b⟩⟩)]
        by_cases hh : o' = o
        · subst hh; exact hq hp
        · exact z.2 o' (by omega) b
      cases q1 : pOv P s o
      · rw [if_pos rfl]
        exact go _ q1 (fun a b => by rw [a] at b; exact absurd b (by decide))
      · rw [if_neg (by decide)]
        cases q2 : all.testBit o
        · rw [if_neg (by decide)]
          exact go _ q2 (fun a _ b => by rw [a] at b; exact absurd b (by decide))
        · rw [if_pos rfl]
          cases q3 : set.testBit o
          · rw [if_pos rfl]
            refine nx0.trans ?_
            rw [dcd_f (fun z => absurd z.1 (by decide)), dcd_f (fun z => by have := z.2 o (Nat.le_refl _) ho q1 q2; rw [q3] at this; exact absurd this (by decide))]
          · rw [if_neg (by decide)]
            exact go _ q3 (fun a _ _ => a)
theorem km_may (C : ShM P σ) (W : Wf P) {all set s : Nat} (ha : all < 256) (hS : set < 256) (hs : s < pM P) : dX tb d 112 0 [.ref 270, .int (Int32.ofNat s), .int (Int32.ofNat set), .int (Int32.ofNat all), .null, .null] [] (c, t, hp g (SH fl tg) σ) = some (some (.int (bI (dcd (cand P all set s)))), (c, t, hp g (SH fl tg) σ)) := by
  have hm := W.1
  rw [sg_X7_mayCome_0]
  simp (disch := omega) only [b_tst, bI_0, bI_1]
  cases q1 : all.testBit s
  · rw [if_pos rfl, dcd_f (fun z => by have := z.2.1; rw [q1] at this; exact absurd this (by decide))]; rfl
  · rw [if_neg (by decide)]
    cases q2 : set.testBit s
    · rw [if_neg (by decide)]
      have := km_mayL (tb := tb) (d := d) (c := c) (t := t) (g := g) (fl := fl) (tg := tg) C W ha hS hs (pM P) 0 true (by omega)
      refine this.trans ?_
      rw [dcd_c (show (true = true ∧ ∀ o', 0 ≤ o' → o' < pM P → pOv P s o' = true → all.testBit o' = true → set.testBit o' = true) ↔ cand P all set s from ⟨fun z => ⟨hs, q1, q2, fun o ho => z.2 o (by omega) ho⟩, fun z => ⟨rfl, fun o _ ho => z.2.2.2 o ho⟩⟩)]
    · rw [if_pos rfl, dcd_f (fun z => by have := z.2.2.1; rw [q2] at this; exact absurd this (by decide))]; rfl
end MPL
