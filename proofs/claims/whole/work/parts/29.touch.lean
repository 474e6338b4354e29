/-! TOUCHING: both sides' loops over the pieces -/
section TCH
noncomputable def dcd (p : Prop) : Bool := @decide p (Classical.propDecidable p)
theorem dcd_t {p : Prop} (h : p) : dcd p = true := @decide_eq_true p (Classical.propDecidable p) h
theorem dcd_f {p : Prop} (h : ¬ p) : dcd p = false := @decide_eq_false p (Classical.propDecidable p) h
theorem dcd_c {p q : Prop} (h : p ↔ q) : dcd p = dcd q := by rw [propext h]
theorem dcd_e {p : Prop} : dcd p = true ↔ p := ⟨fun h => Classical.byContradiction fun n => (by rw [dcd_f n] at h; exact absurd h (by decide)), dcd_t⟩
def mt4 (P : dP) (s i u j : Nat) : Prop := M4 (pX P s i) (pY P s i) (pX P s (i + 1)) (pY P s (i + 1)) (pX P u j) (pY P u j) (pX P u (j + 1)) (pY P u (j + 1))
def tch (P : dP) (s u : Nat) : Prop := ∃ i j, i + 1 < pN P s ∧ j + 1 < pN P u ∧ mt4 P s i u j
def tchU (P : dP) (s u i0 j0 : Nat) : Prop := ∃ i j, (i0 < i ∨ (i0 = i ∧ j0 ≤ j)) ∧ i + 1 < pN P s ∧ j + 1 < pN P u ∧ mt4 P s i u j
theorem tchU_0 (P : dP) (s u : Nat) : tchU P s u 0 0 ↔ tch P s u := ⟨fun ⟨i, j, _, h⟩ => ⟨i, j, h⟩, fun ⟨i, j, h⟩ => ⟨i, j, by omega, h⟩⟩
theorem tchU_e {P : dP} {s u i j : Nat} (h : pN P s ≤ i + 1) : ¬ tchU P s u i j := fun ⟨a, b, h1, h2, _⟩ => by omega
theorem tchU_r {P : dP} {s u i j : Nat} (h : pN P u ≤ j + 1) : tchU P s u i j ↔ tchU P s u (i + 1) 0 := ⟨fun ⟨a, b, h1, h2, h3, h4⟩ => ⟨a, b, by omega, h2, h3, h4⟩, fun ⟨a, b, h1, h2, h3, h4⟩ => ⟨a, b, by omega, h2, h3, h4⟩⟩
theorem tchU_y {P : dP} {s u i j : Nat} (h1 : i + 1 < pN P s) (h2 : j + 1 < pN P u) (h : mt4 P s i u j) : tchU P s u i j := ⟨i, j, by omega, h1, h2, h⟩
theorem tchU_n {P : dP} {s u i j : Nat} (h : ¬ mt4 P s i u j) : tchU P s u i j ↔ tchU P s u i (j + 1) := by
  constructor
  · intro ⟨a, b, h1, h2, h3, h4⟩
    refine ⟨a, b, ?_, h2, h3, h4⟩
    by_cases q : a = i ∧ b = j
    · obtain ⟨rfl, rfl⟩ := q; exact absurd h4 h
    · omega
  · intro ⟨a, b, h1, h2, h3, h4⟩
    exact ⟨a, b, by omega, h2, h3, h4⟩
variable {tb : dT} {d c t : Nat} {g : Nat → Option dE} {fl : Nat → Bool} {tg : Nat} {σ : dSg} {P : dP}
theorem z_cr {x1 y1 x2 y2 x y : Nat} : (Int32.ofNat x2 - Int32.ofNat x1) * (Int32.ofNat y - Int32.ofNat y1) - (Int32.ofNat y2 - Int32.ofNat y1) * (Int32.ofNat x - Int32.ofNat x1) = Int32.ofInt (crI x1 y1 x2 y2 x y) := by
  simp only [i_sI, z_mul, z_sub, crI]
theorem cr_le {x1 y1 x2 y2 x y : Nat} (a1 : x1 ≤ 500) (a2 : y1 ≤ 500) (a3 : x2 ≤ 500) (a4 : y2 ≤ 500) (a5 : x ≤ 500) (a6 : y ≤ 500) : -500000 ≤ crI x1 y1 x2 y2 x y ∧ crI x1 y1 x2 y2 x y ≤ 500000 := by
  have m1 := mulb (a := (x2 : Int) - x1) (b := (y : Int) - y1) (by omega) (by omega)
  have m2 := mulb (a := (y2 : Int) - y1) (b := (x : Int) - x1) (by omega) (by omega)
  unfold crI
  omega
theorem z_cmp {z : Int} (hz : -500000 ≤ z ∧ z ≤ 500000) (h : dH) : dX tb d 137 0 [.int (Int32.ofInt z), .int 0] [] h = some (some (.int (Int32.ofInt z.sign)), h) := by
  rw [sg_J6_compare_7cf53_0]
  simp (disch := omega) only [z_0, z_le, z_eq]
  rcases Int.lt_trichotomy z 0 with h1 | h1 | h1
  · rw [if_neg (by omega), Int.sign_eq_neg_one_of_neg h1]; rfl
  · subst h1; rfl
  · rw [if_pos (by omega), if_neg (by omega), Int.sign_eq_one_of_pos h1]; rfl
theorem km_cross {x1 y1 x2 y2 x y : Nat} (a1 : x1 ≤ 500) (a2 : y1 ≤ 500) (a3 : x2 ≤ 500) (a4 : y2 ≤ 500) (a5 : x ≤ 500) (a6 : y ≤ 500) (h : dH) : dX tb (d + 1) 117 0 [.int (Int32.ofNat x1), .int (Int32.ofNat y1), .int (Int32.ofNat x2), .int (Int32.ofNat y2), .int (Int32.ofNat x), .int (Int32.ofNat y)] [] h = some (some (.int (Int32.ofInt (crI x1 y1 x2 y2 x y).sign)), h) := by
  rw [sg_X7_cross_0, z_cr, z_cmp (cr_le a1 a2 a3 a4 a5 a6)]
  rfl
theorem sgn_le (z : Int) : -1 ≤ z.sign ∧ z.sign ≤ 1 := by
  rcases Int.lt_trichotomy z 0 with h1 | h1 | h1
  · rw [Int.sign_eq_neg_one_of_neg h1]; omega
  · subst h1; decide
  · rw [Int.sign_eq_one_of_pos h1]; omega
theorem sgn_0 (z : Int) : (Int32.ofInt z.sign = 0) = (z = 0) := by
  have := sgn_le z
  rw [z_0, z_eq (by omega) (by omega), eq_iff_iff, Int.sign_eq_zero_iff_zero]
theorem sgn_m (y z : Int) : (0 ≤ Int32.ofInt y.sign * Int32.ofInt z.sign) = ¬ (y * z < 0) := by
  have := sgn_le (y * z)
  rw [z_mul, ← Int.sign_mul, z_0, z_le (by omega) (by omega), eq_iff_iff]
  rcases Int.lt_trichotomy (y * z) 0 with h1 | h1 | h1
  · rw [Int.sign_eq_neg_one_of_neg h1]; omega
  · rw [h1]; decide
  · rw [Int.sign_eq_one_of_pos h1]; omega
theorem km_isIn {a b x : Nat} (ha : a < 2 ^ 31) (hb : b < 2 ^ 31) (hx : x < 2 ^ 31) (h : dH) : dX tb d 91 0 [.int (Int32.ofNat x), .int (Int32.ofNat a), .int (Int32.ofNat b)] [] h = some (some (.int (bI (decide (a ≤ x ∧ x ≤ b)))), h) := by
  rw [sg_X7_isIn_0]
  simp only [i_lt hx ha, i_lt hb hx]
  by_cases q1 : x < a
  · rw [if_pos q1, decide_eq_false (by omega)]; rfl
  · by_cases q2 : b < x
    · rw [if_neg q1, if_pos q2, decide_eq_false (by omega)]; rfl
    · rw [if_neg q1, if_neg q2, decide_eq_true (by omega)]; rfl
theorem km_on {x1 y1 x2 y2 x y : Nat} (a1 : x1 ≤ 500) (a2 : y1 ≤ 500) (a3 : x2 ≤ 500) (a4 : y2 ≤ 500) (a5 : x ≤ 500) (a6 : y ≤ 500) (h : dH) : dX tb (d + 2) 118 0 [.int (Int32.ofNat x1), .int (Int32.ofNat y1), .int (Int32.ofNat x2), .int (Int32.ofNat y2), .int (Int32.ofNat x), .int (Int32.ofNat y)] [] h = some (some (.int (bI (dcd (onI x1 y1 x2 y2 x y)))), h) := by
  rw [sg_X7_isOn_0, km_cross a1 a2 a3 a4 a5 a6]
  simp (disch := omega) only [Option.bind_some, as_I, as_R, as_V, ct_t, ct_f, if_true, if_false, Bool.true_and, Bool.and_true, Bool.or_true, Bool.true_or, sgn_0, i_min, i_max, km_isIn, bI_0]
  by_cases q : crI x1 y1 x2 y2 x y = 0
  · rw [if_pos q]
    by_cases q1 : min x1 x2 ≤ x ∧ x ≤ max x1 x2
    · by_cases q2 : min y1 y2 ≤ y ∧ y ≤ max y1 y2
      · rw [decide_eq_true q1, decide_eq_true q2, dcd_t ⟨q, by unfold btw; omega, by unfold btw; omega⟩]; rfl
      · rw [decide_eq_true q1, decide_eq_false q2, dcd_f fun z => q2 (by have := z.2.2; unfold btw at this; omega)]; rfl
    · rw [decide_eq_false q1, dcd_f fun z => q1 (by have := z.2.1; unfold btw at this; omega)]; rfl
  · rw [if_neg q, dcd_f fun z => q z.1]; rfl
theorem km_meet (C : ShM P σ) (W : Wf P) {s i u j : Nat} (hs : s < pM P) (hi : i + 1 < pN P s) (hu : u < pM P) (hj : j + 1 < pN P u) : dX tb (d + 3) 119 0 [.ref 270, .int (Int32.ofNat s), .int (Int32.ofNat i), .int (Int32.ofNat u), .int (Int32.ofNat j), .null, .null, .null, .null, .null, .null, .null, .null] [] (c, t, hp g (SH fl tg) σ) = some (some (.int (bI (dcd (mt4 P s i u j)))), (c, t, hp g (SH fl tg) σ)) := by
  have a1 := pX_le W hs (show i < pN P s by omega)
  have a2 := pY_le W hs (show i < pN P s by omega)
  have a3 := pX_le W hs hi
  have a4 := pY_le W hs hi
  have a5 := pX_le W hu (show j < pN P u by omega)
  have a6 := pY_le W hu (show j < pN P u by omega)
  have a7 := pX_le W hu hj
  have a8 := pY_le W hu hj
  rw [sg_X7_meet_0]
  rw [ia_1, ia_1, is_270, ct_t, km_x C W hs (show i < pN P s by omega), as_I, is_270, ct_t, km_y C W hs (show i < pN P s by omega), as_I, is_270, ct_t, km_x C W hs hi, as_I, is_270, ct_t, km_y C W hs hi, as_I, is_270, ct_t, km_x C W hu (show j < pN P u by omega), as_I, is_270, ct_t, km_y C W hu (show j < pN P u by omega), as_I, is_270, ct_t, km_x C W hu hj, as_I, is_270, ct_t, km_y C W hu hj, as_I]
  rw [km_on a1 a2 a3 a4 a5 a6, as_I]
  by_cases q1 : onI (pX P s i) (pY P s i) (pX P s (i + 1)) (pY P s (i + 1)) (pX P u j) (pY P u j)
  · rw [dcd_t q1, if_neg (show ¬ bI true = 0 by decide), dcd_t (show mt4 P s i u j from Or.inl q1)]; rfl
  rw [dcd_f q1, if_pos (show bI false = 0 from rfl), km_on a1 a2 a3 a4 a7 a8, as_I]
  by_cases q2 : onI (pX P s i) (pY P s i) (pX P s (i + 1)) (pY P s (i + 1)) (pX P u (j + 1)) (pY P u (j + 1))
  · rw [dcd_t q2, if_neg (show ¬ bI true = 0 by decide), dcd_t (show mt4 P s i u j from Or.inr (Or.inl q2))]; rfl
  rw [dcd_f q2, if_pos (show bI false = 0 from rfl), km_on a5 a6 a7 a8 a1 a2, as_I]
  by_cases q3 : onI (pX P u j) (pY P u j) (pX P u (j + 1)) (pY P u (j + 1)) (pX P s i) (pY P s i)
  · rw [dcd_t q3, if_neg (show ¬ bI true = 0 by decide), dcd_t (show mt4 P s i u j from Or.inr (Or.inr (Or.inl q3)))]; rfl
  rw [dcd_f q3, if_pos (show bI false = 0 from rfl), km_on a5 a6 a7 a8 a3 a4, as_I]
  by_cases q4 : onI (pX P u j) (pY P u j) (pX P u (j + 1)) (pY P u (j + 1)) (pX P s (i + 1)) (pY P s (i + 1))
  · rw [dcd_t q4, if_neg (show ¬ bI true = 0 by decide), dcd_t (show mt4 P s i u j from Or.inr (Or.inr (Or.inr (Or.inl q4))))]; rfl
  rw [dcd_f q4, if_pos (show bI false = 0 from rfl), km_cross a1 a2 a3 a4 a5 a6, as_I, km_cross a1 a2 a3 a4 a7 a8, as_I]
  by_cases q5 : crI (pX P s i) (pY P s i) (pX P s (i + 1)) (pY P s (i + 1)) (pX P u j) (pY P u j) * crI (pX P s i) (pY P s i) (pX P s (i + 1)) (pY P s (i + 1)) (pX P u (j + 1)) (pY P u (j + 1)) < 0
  · rw [if_neg (by rw [sgn_m]; exact fun z => z q5), km_cross a5 a6 a7 a8 a1 a2, as_I, km_cross a5 a6 a7 a8 a3 a4, as_I]
    by_cases q6 : crI (pX P u j) (pY P u j) (pX P u (j + 1)) (pY P u (j + 1)) (pX P s i) (pY P s i) * crI (pX P u j) (pY P u j) (pX P u (j + 1)) (pY P u (j + 1)) (pX P s (i + 1)) (pY P s (i + 1)) < 0
    · rw [if_neg (by rw [sgn_m]; exact fun z => z q6), dcd_t (show mt4 P s i u j from Or.inr (Or.inr (Or.inr (Or.inr ⟨q5, q6⟩))))]; rfl
    · rw [if_pos (by rw [sgn_m]; exact q6), dcd_f (show ¬ mt4 P s i u j from fun z => by rcases z with z | z | z | z | z <;> first | exact q1 z | exact q2 z | exact q3 z | exact q4 z | exact q6 z.2)]; rfl
  · rw [if_pos (by rw [sgn_m]; exact q5), dcd_f (show ¬ mt4 P s i u j from fun z => by rcases z with z | z | z | z | z <;> first | exact q1 z | exact q2 z | exact q3 z | exact q4 z | exact q5 z.1)]; rfl
theorem km_tchU (C : ShM P σ) (W : Wf P) {s u : Nat} (hs : s < pM P) (hu : u < pM P) : ∀ (m i j : Nat), i < 13 → j < 13 → 169 ≤ m + 13 * i + j → i + 1 < pN P s → dX tb (d + 4) 120 17 [.ref 270, .int (Int32.ofNat s), .int (Int32.ofNat u), .int (Int32.ofNat i), .int (Int32.ofNat j)] [] (c, t, hp g (SH fl tg) σ) = some (some (.int (bI (dcd (tchU P s u i j)))), (c, t, hp g (SH fl tg) σ)) := by
  have hm := W.1
  have hn := (W.2.1 s hs).1
  have hn2 := (W.2.1 u hu).1
  obtain ⟨e1, -⟩ := C.2.2.1 s hs
  obtain ⟨f1, -⟩ := C.2.2.1 u hu
  intro m
  induction m with
  | zero => intro i j hi hj h; omega
  | succ m ih =>
    intro i j hi hj h h1
    rw [sg_X7_touches_17]
    simp (disch := omega) only [Option.bind_some, as_I, as_R, as_V, ct_t, ct_f, if_true, if_false, Bool.true_and, Bool.and_true, Bool.or_true, Bool.true_or, gi_270_0, gi_270_10, gi_270_11, gi_270_12, gi_270_13, gi_270_14, gi_270_15, gi_270_21, gi_270_22, gi_270_23, gi_270_34, gi_270_35, gi_270_36, pi_270_0, pi_270_10, pi_270_11, pi_270_12, pi_270_13, pi_270_14, pi_270_15, pi_270_21, pi_270_22, pi_270_23, pi_270_34, pi_270_35, pi_270_36, gr_270_1, gr_270_2, gr_270_3, gr_270_4, gr_270_5, gr_270_6, gr_270_7, gr_270_8, gr_270_9, gr_270_16, gr_270_17, gr_270_18, gr_270_19, gr_270_20, gr_270_24, gr_270_25, gr_270_26, gr_270_27, gr_270_28, gr_270_29, gr_270_30, gr_270_31, gr_270_32, gr_270_33, ld_271, ld_272, ld_273, ld_274, ld_275, ld_276, ld_277, ld_278, ld_279, ld_280, ld_281, ld_282, ld_283, ld_284, ld_285, ld_286, ld_287, ld_288, ld_289, ld_290, ld_291, ld_292, ld_293, ld_294, sv_271, sv_272, sv_273, sv_274, sv_275, sv_276, sv_277, sv_278, sv_279, sv_280, sv_281, sv_282, sv_283, sv_284, sv_285, sv_286, sv_287, sv_288, sv_289, sv_290, sv_291, sv_292, sv_293, sv_294, is_270, ia_0, ia_1, is_m0, is_m1, im_8, ml_8, im_11, ml_11, im_12, ml_12, im_88, ml_88, im_89, ml_89, j_lt_0, j_gt_0, j_le_0, j_ge_0, j_eq_0, j_lt_1, j_gt_1, j_le_1, j_ge_1, j_eq_1, j_lt_2, j_gt_2, j_le_2, j_ge_2, j_eq_2, j_lt_3, j_gt_3, j_le_3, j_ge_3, j_eq_3, j_lt_4, j_gt_4, j_le_4, j_ge_4, j_eq_4, j_lt_5, j_gt_5, j_le_5, j_ge_5, j_eq_5, j_lt_6, j_gt_6, j_le_6, j_ge_6, j_eq_6, j_lt_8, j_gt_8, j_le_8, j_ge_8, j_eq_8, j_lt_12, j_gt_12, j_le_12, j_ge_12, j_eq_12, j_lt_209, j_gt_209, j_le_209, j_ge_209, j_eq_209, j_lt_255, j_gt_255, j_le_255, j_ge_255, j_eq_255, j_lt_1000000000, j_gt_1000000000, j_le_1000000000, j_ge_1000000000, j_eq_1000000000, i_le, f1]
    by_cases q : pN P u ≤ j + 1
    · rw [if_pos q, sg_X7_touches_2]
      simp (disch := omega) only [Option.bind_some, as_I, as_R, as_V, ct_t, ct_f, if_true, if_false, Bool.true_and, Bool.and_true, Bool.or_true, Bool.true_or, gi_270_0, gi_270_10, gi_270_11, gi_270_12, gi_270_13, gi_270_14, gi_270_15, gi_270_21, gi_270_22, gi_270_23, gi_270_34, gi_270_35, gi_270_36, pi_270_0, pi_270_10, pi_270_11, pi_270_12, pi_270_13, pi_270_14, pi_270_15, pi_270_21, pi_270_22, pi_270_23, pi_270_34, pi_270_35, pi_270_36, gr_270_1, gr_270_2, gr_270_3, gr_270_4, gr_270_5, gr_270_6, gr_270_7, gr_270_8, gr_270_9, gr_270_16, gr_270_17, gr_270_18, gr_270_19, gr_270_20, gr_270_24, gr_270_25, gr_270_26, gr_270_27, gr_270_28, gr_270_29, gr_270_30, gr_270_31, gr_270_32, gr_270_33, ld_271, ld_272, ld_273, ld_274, ld_275, ld_276, ld_277, ld_278, ld_279, ld_280, ld_281, ld_282, ld_283, ld_284, ld_285, ld_286, ld_287, ld_288, ld_289, ld_290, ld_291, ld_292, ld_293, ld_294, sv_271, sv_272, sv_273, sv_274, sv_275, sv_276, sv_277, sv_278, sv_279, sv_280, sv_281, sv_282, sv_283, sv_284, sv_285, sv_286, sv_287, sv_288, sv_289, sv_290, sv_291, sv_292, sv_293, sv_294, is_270, ia_0, ia_1, is_m0, is_m1, im_8, ml_8, im_11, ml_11, im_12, ml_12, im_88, ml_88, im_89, ml_89, j_lt_0, j_gt_0, j_le_0, j_ge_0, j_eq_0, j_lt_1, j_gt_1, j_le_1, j_ge_1, j_eq_1, j_lt_2, j_gt_2, j_le_2, j_ge_2, j_eq_2, j_lt_3, j_gt_3, j_le_3, j_ge_3, j_eq_3, j_lt_4, j_gt_4, j_le_4, j_ge_4, j_eq_4, j_lt_5, j_gt_5, j_le_5, j_ge_5, j_eq_5, j_lt_6, j_gt_6, j_le_6, j_ge_6, j_eq_6, j_lt_8, j_gt_8, j_le_8, j_ge_8, j_eq_8, j_lt_12, j_gt_12, j_le_12, j_ge_12, j_eq_12, j_lt_209, j_gt_209, j_le_209, j_ge_209, j_eq_209, j_lt_255, j_gt_255, j_le_255, j_ge_255, j_eq_255, j_lt_1000000000, j_gt_1000000000, j_le_1000000000, j_ge_1000000000, j_eq_1000000000, i_le, e1]
      by_cases q2 : pN P s ≤ i + 1 + 1
      · rw [if_pos q2, dcd_f (fun z => tchU_e q2 ((tchU_r q).mp z))]; rfl
      · rw [if_neg q2, dcd_c (tchU_r q)]
        exact ih (i + 1) 0 (by omega) (by omega) (by omega) (by omega)
    · rw [if_neg q]
      simp (disch := omega) only [Option.bind_some, as_I, as_R, as_V, ct_t, ct_f, if_true, if_false, Bool.true_and, Bool.and_true, Bool.or_true, Bool.true_or, gi_270_0, gi_270_10, gi_270_11, gi_270_12, gi_270_13, gi_270_14, gi_270_15, gi_270_21, gi_270_22, gi_270_23, gi_270_34, gi_270_35, gi_270_36, pi_270_0, pi_270_10, pi_270_11, pi_270_12, pi_270_13, pi_270_14, pi_270_15, pi_270_21, pi_270_22, pi_270_23, pi_270_34, pi_270_35, pi_270_36, gr_270_1, gr_270_2, gr_270_3, gr_270_4, gr_270_5, gr_270_6, gr_270_7, gr_270_8, gr_270_9, gr_270_16, gr_270_17, gr_270_18, gr_270_19, gr_270_20, gr_270_24, gr_270_25, gr_270_26, gr_270_27, gr_270_28, gr_270_29, gr_270_30, gr_270_31, gr_270_32, gr_270_33, ld_271, ld_272, ld_273, ld_274, ld_275, ld_276, ld_277, ld_278, ld_279, ld_280, ld_281, ld_282, ld_283, ld_284, ld_285, ld_286, ld_287, ld_288, ld_289, ld_290, ld_291, ld_292, ld_293, ld_294, sv_271, sv_272, sv_273, sv_274, sv_275, sv_276, sv_277, sv_278, sv_279, sv_280, sv_281, sv_282, sv_283, sv_284, sv_285, sv_286, sv_287, sv_288, sv_289, sv_290, sv_291, sv_292, sv_293, sv_294, is_270, km_meet C W hs h1 hu, bI_0]
      by_cases q2 : mt4 P s i u j
      · rw [dcd_t q2, dcd_t (tchU_y h1 (by omega) q2)]; rfl
      · rw [dcd_f q2, if_pos rfl, dcd_c (tchU_n q2)]
        exact ih i (j + 1) hi (by omega) (by omega) h1
theorem km_tch (C : ShM P σ) (W : Wf P) {s u : Nat} (hs : s < pM P) (hu : u < pM P) : dX tb (d + 4) 120 0 [.ref 270, .int (Int32.ofNat s), .int (Int32.ofNat u), .null, .null] [] (c, t, hp g (SH fl tg) σ) = some (some (.int (bI (dcd (tch P s u)))), (c, t, hp g (SH fl tg) σ)) := by
  have hm := W.1
  have hn := (W.2.1 s hs).1
  obtain ⟨e1, -⟩ := C.2.2.1 s hs
  rw [sg_X7_touches_0, sg_X7_touches_2]
  simp (disch := omega) only [Option.bind_some, as_I, as_R, as_V, ct_t, ct_f, if_true, if_false, Bool.true_and, Bool.and_true, Bool.or_true, Bool.true_or, gi_270_0, gi_270_10, gi_270_11, gi_270_12, gi_270_13, gi_270_14, gi_270_15, gi_270_21, gi_270_22, gi_270_23, gi_270_34, gi_270_35, gi_270_36, pi_270_0, pi_270_10, pi_270_11, pi_270_12, pi_270_13, pi_270_14, pi_270_15, pi_270_21, pi_270_22, pi_270_23, pi_270_34, pi_270_35, pi_270_36, gr_270_1, gr_270_2, gr_270_3, gr_270_4, gr_270_5, gr_270_6, gr_270_7, gr_270_8, gr_270_9, gr_270_16, gr_270_17, gr_270_18, gr_270_19, gr_270_20, gr_270_24, gr_270_25, gr_270_26, gr_270_27, gr_270_28, gr_270_29, gr_270_30, gr_270_31, gr_270_32, gr_270_33, ld_271, ld_272, ld_273, ld_274, ld_275, ld_276, ld_277, ld_278, ld_279, ld_280, ld_281, ld_282, ld_283, ld_284, ld_285, ld_286, ld_287, ld_288, ld_289, ld_290, ld_291, ld_292, ld_293, ld_294, sv_271, sv_272, sv_273, sv_274, sv_275, sv_276, sv_277, sv_278, sv_279, sv_280, sv_281, sv_282, sv_283, sv_284, sv_285, sv_286, sv_287, sv_288, sv_289, sv_290, sv_291, sv_292, sv_293, sv_294, is_270, e1]
  by_cases q : pN P s ≤ 1
  · rw [if_pos (by rw [show (0 : Int32) + 1 = Int32.ofNat 1 from rfl, i_le (by omega) (by omega)]; exact q), dcd_f (fun ⟨i, j, h, _⟩ => by omega)]; rfl
  · rw [if_neg (by rw [show (0 : Int32) + 1 = Int32.ofNat 1 from rfl, i_le (by omega) (by omega)]; exact q), ← dcd_c (tchU_0 P s u)]
    exact km_tchU C W hs hu 169 0 0 (by omega) (by omega) (by omega) (by omega)
theorem kc_spans {a b : Nat} (hs : a < 8) (hu : b < 8) {i j w1 w2 w3 w4 : Nat} (hi : i + 1 < 12) (hj : j + 1 < 12) (A : Nat) (B : Nat) (hA : SH fl tg A = some (.inl (0, 12))) (hB : SH fl tg B = some (.inl (0, 12))) (b1 : w1 ≤ 500) (b2 : w2 ≤ 500) (b3 : w3 ≤ 500) (b4 : w4 ≤ 500) (r1 : σ A i = Int32.ofNat w1) (r2 : σ A (i + 1) = Int32.ofNat w2) (r3 : σ B j = Int32.ofNat w3) (r4 : σ B (j + 1) = Int32.ofNat w4) :
    dX tb (d + 1) 67 0 [.ref A, .int (Int32.ofNat i), .ref B, .int (Int32.ofNat j)] [] (c, t, hp g (SH fl tg) σ) = some (some (.int (bI (dcd (ovl w1 w2 w3 w4)))), (c, t, hp g (SH fl tg) σ)) := by
  rw [sg_X5_spansMeet_0]
  simp (disch := omega) only [Option.bind_some, as_I, as_R, as_V, ct_t, ct_f, if_true, if_false, Bool.true_and, Bool.and_true, Bool.or_true, Bool.true_or, ia_0, ia_1, is_m0, is_m1, im_8, ml_8, im_11, ml_11, im_12, ml_12, im_88, ml_88, im_89, ml_89, j_lt_0, j_gt_0, j_le_0, j_ge_0, j_eq_0, j_lt_1, j_gt_1, j_le_1, j_ge_1, j_eq_1, j_lt_2, j_gt_2, j_le_2, j_ge_2, j_eq_2, j_lt_3, j_gt_3, j_le_3, j_ge_3, j_eq_3, j_lt_4, j_gt_4, j_le_4, j_ge_4, j_eq_4, j_lt_5, j_gt_5, j_le_5, j_ge_5, j_eq_5, j_lt_6, j_gt_6, j_le_6, j_ge_6, j_eq_6, j_lt_8, j_gt_8, j_le_8, j_ge_8, j_eq_8, j_lt_12, j_gt_12, j_le_12, j_ge_12, j_eq_12, j_lt_209, j_gt_209, j_le_209, j_ge_209, j_eq_209, j_lt_255, j_gt_255, j_le_255, j_ge_255, j_eq_255, j_lt_1000000000, j_gt_1000000000, j_le_1000000000, j_ge_1000000000, j_eq_1000000000, hp_ldI hA, hp_ldI hB, r1, r2, r3, r4, i_max, i_min]
  simp (disch := omega) only [i_lt]
  by_cases q1 : max w1 w2 < min w3 w4
  · rw [if_pos q1, dcd_f (fun z => by unfold ovl at z; omega)]; rfl
  · by_cases q2 : max w3 w4 < min w1 w2
    · rw [if_neg q1, if_pos q2, dcd_f (fun z => by unfold ovl at z; omega)]; rfl
    · rw [if_neg q1, if_neg q2, dcd_t (by unfold ovl; omega)]; rfl
theorem kc_side (C : ShC P fl σ) (W : Wf P) {s i x y : Nat} (hs : s < pM P) (hi : i + 1 < pN P s) : dX tb d 69 0 [.ref (5 + 5 * s), .int (Int32.ofNat i), .int (Int32.ofNat x), .int (Int32.ofNat y)] [] (c, t, hp g (SH fl tg) σ) = some (some (.int (Int32.ofInt (crI (pX P s i) (pY P s i) (pX P s (i + 1)) (pY P s (i + 1)) x y))), (c, t, hp g (SH fl tg) σ)) := by
  have hm := W.1
  have hn := (W.2.1 s hs).1
  obtain ⟨-, -, -, -, -, e6⟩ := C.2.2.1 s hs
  have f1 := e6 i (by omega)
  have f2 := e6 (i + 1) hi
  rw [sg_X5_sideOf_0]
  simp (disch := omega) only [Option.bind_some, as_I, as_R, as_V, ct_t, ct_f, if_true, if_false, Bool.true_and, Bool.and_true, Bool.or_true, Bool.true_or, gi_1_3, gi_s, pi_1_3, pi_s, gr_0_0, gr_0_1, gr_0_2, gr_0_3, gr_1_0, gr_1_1, gr_1_2, gr_s_7, gr_s_8, gr_s_9, gr_s_10, ld_3, ld_4, ld_x, ld_y, ld_u, ld_v, sv_3, sv_4, sv_x, sv_y, sv_u, sv_v, is_0, is_1, is_s, lr_2, ia_0, ia_1, is_m0, is_m1, im_8, ml_8, im_11, ml_11, im_12, ml_12, im_88, ml_88, im_89, ml_89, j_lt_0, j_gt_0, j_le_0, j_ge_0, j_eq_0, j_lt_1, j_gt_1, j_le_1, j_ge_1, j_eq_1, j_lt_2, j_gt_2, j_le_2, j_ge_2, j_eq_2, j_lt_3, j_gt_3, j_le_3, j_ge_3, j_eq_3, j_lt_4, j_gt_4, j_le_4, j_ge_4, j_eq_4, j_lt_5, j_gt_5, j_le_5, j_ge_5, j_eq_5, j_lt_6, j_gt_6, j_le_6, j_ge_6, j_eq_6, j_lt_8, j_gt_8, j_le_8, j_ge_8, j_eq_8, j_lt_12, j_gt_12, j_le_12, j_ge_12, j_eq_12, j_lt_209, j_gt_209, j_le_209, j_ge_209, j_eq_209, j_lt_255, j_gt_255, j_le_255, j_ge_255, j_eq_255, j_lt_1000000000, j_gt_1000000000, j_le_1000000000, j_ge_1000000000, j_eq_1000000000, f1.1, f1.2, f2.1, f2.2, z_cr]
theorem l_cmp {y z : Int} (hy : -500000 ≤ y ∧ y ≤ 500000) (hz : -500000 ≤ z ∧ z ≤ 500000) : (0 < lg_cmp ((Int32.ofInt y).toInt64 * (Int32.ofInt z).toInt64) 0) = ¬ (y * z ≤ 0) := by
  have h3 : (y * z).natAbs ≤ 500000 * 500000 := by rw [Int.natAbs_mul]; exact Nat.mul_le_mul (by omega) (by omega)
  have e1 : ((Int32.ofInt y).toInt64 * (Int32.ofInt z).toInt64).toInt = y * z := by
    rw [Int64.toInt_mul, Int32.toInt_toInt64, Int32.toInt_toInt64, z_toI (by omega), z_toI (by omega)]
    exact Int.bmod_eq_of_le (by omega) (by omega)
  unfold lg_cmp
  rw [eq_iff_iff]
  by_cases q : 0 < y * z
  · rw [if_pos (show _ > (0 : Int64) from Int64.lt_iff_toInt_lt.mpr (by rw [e1]; exact q))]
    exact ⟨fun _ => by omega, fun _ => by decide⟩
  · rw [if_neg (show ¬ _ > (0 : Int64) from fun z => q (by have := Int64.lt_iff_toInt_lt.mp z; rw [e1] at this; exact this))]
    refine ⟨fun z => ?_, fun z => absurd (show y * _ ≤ 0 by omega) z⟩
    split at z <;> exact absurd z (by decide)
theorem kc_parts (C : ShC P fl σ) (W : Wf P) {s i u j : Nat} (hs : s < pM P) (hi : i + 1 < pN P s) (hu : u < pM P) (hj : j + 1 < pN P u) : dX tb (d + 1) 68 0 [.ref (5 + 5 * s), .int (Int32.ofNat i), .ref (5 + 5 * u), .int (Int32.ofNat j), .null, .null, .null, .null] [] (c, t, hp g (SH fl tg) σ) = some (some (.int (bI (dcd (crI (pX P s i) (pY P s i) (pX P s (i + 1)) (pY P s (i + 1)) (pX P u j) (pY P u j) * crI (pX P s i) (pY P s i) (pX P s (i + 1)) (pY P s (i + 1)) (pX P u (j + 1)) (pY P u (j + 1)) ≤ 0)))), (c, t, hp g (SH fl tg) σ)) := by
  have hm := W.1
  have hn := (W.2.1 s hs).1
  have hn2 := (W.2.1 u hu).1
  have a1 := pX_le W hs (show i < pN P s by omega)
  have a2 := pY_le W hs (show i < pN P s by omega)
  have a3 := pX_le W hs hi
  have a4 := pY_le W hs hi
  have a5 := pX_le W hu (show j < pN P u by omega)
  have a6 := pY_le W hu (show j < pN P u by omega)
  have a7 := pX_le W hu hj
  have a8 := pY_le W hu hj
  obtain ⟨-, -, -, -, -, e6⟩ := C.2.2.1 u hu
  have f1 := e6 j (by omega)
  have f2 := e6 (j + 1) hj
  rw [sg_X5_lineParts_0]
  simp (disch := omega) only [Option.bind_some, as_I, as_R, as_V, ct_t, ct_f, if_true, if_false, Bool.true_and, Bool.and_true, Bool.or_true, Bool.true_or, gi_1_3, gi_s, pi_1_3, pi_s, gr_0_0, gr_0_1, gr_0_2, gr_0_3, gr_1_0, gr_1_1, gr_1_2, gr_s_7, gr_s_8, gr_s_9, gr_s_10, ld_3, ld_4, ld_x, ld_y, ld_u, ld_v, sv_3, sv_4, sv_x, sv_y, sv_u, sv_v, is_0, is_1, is_s, lr_2, ia_0, ia_1, is_m0, is_m1, im_8, ml_8, im_11, ml_11, im_12, ml_12, im_88, ml_88, im_89, ml_89, j_lt_0, j_gt_0, j_le_0, j_ge_0, j_eq_0, j_lt_1, j_gt_1, j_le_1, j_ge_1, j_eq_1, j_lt_2, j_gt_2, j_le_2, j_ge_2, j_eq_2, j_lt_3, j_gt_3, j_le_3, j_ge_3, j_eq_3, j_lt_4, j_gt_4, j_le_4, j_ge_4, j_eq_4, j_lt_5, j_gt_5, j_le_5, j_ge_5, j_eq_5, j_lt_6, j_gt_6, j_le_6, j_ge_6, j_eq_6, j_lt_8, j_gt_8, j_le_8, j_ge_8, j_eq_8, j_lt_12, j_gt_12, j_le_12, j_ge_12, j_eq_12, j_lt_209, j_gt_209, j_le_209, j_ge_209, j_eq_209, j_lt_255, j_gt_255, j_le_255, j_ge_255, j_eq_255, j_lt_1000000000, j_gt_1000000000, j_le_1000000000, j_ge_1000000000, j_eq_1000000000, f1.1, f1.2, f2.1, f2.2, kc_side C W hs hi]
  simp only [l_cmp (cr_le a1 a2 a3 a4 a5 a6) (cr_le a1 a2 a3 a4 a7 a8)]
  by_cases q : crI (pX P s i) (pY P s i) (pX P s (i + 1)) (pY P s (i + 1)) (pX P u j) (pY P u j) * crI (pX P s i) (pY P s i) (pX P s (i + 1)) (pY P s (i + 1)) (pX P u (j + 1)) (pY P u (j + 1)) ≤ 0
  · rw [if_neg (fun z => z q), dcd_t q]; rfl
  · rw [if_pos q, dcd_f q]; rfl
theorem kc_tchU (C : ShC P fl σ) (W : Wf P) {s u : Nat} (hs : s < pM P) (hu : u < pM P) : ∀ (m i j : Nat), i < 13 → j < 13 → 169 ≤ m + 13 * i + j → i + 1 < pN P s → dX tb (d + 2) 66 14 [.ref (5 + 5 * s), .ref (5 + 5 * u), .int (Int32.ofNat i), .int (Int32.ofNat j)] [] (c, t, hp g (SH fl tg) σ) = some (some (.int (bI (dcd (tchU P s u i j)))), (c, t, hp g (SH fl tg) σ)) := by
  have hm := W.1
  have hn := (W.2.1 s hs).1
  have hn2 := (W.2.1 u hu).1
  obtain ⟨-, -, e2, -, -, e6⟩ := C.2.2.1 s hs
  obtain ⟨-, -, f2, -, -, f6⟩ := C.2.2.1 u hu
  intro m
  induction m with
  | zero => intro i j hi hj h; omega
  | succ m ih =>
    intro i j hi hj h h1
    rw [sg_X5_meets_14]
    simp (disch := omega) only [Option.bind_some, as_I, as_R, as_V, ct_t, ct_f, if_true, if_false, Bool.true_and, Bool.and_true, Bool.or_true, Bool.true_or, gi_1_3, gi_s, pi_1_3, pi_s, gr_0_0, gr_0_1, gr_0_2, gr_0_3, gr_1_0, gr_1_1, gr_1_2, gr_s_7, gr_s_8, gr_s_9, gr_s_10, ld_3, ld_4, ld_x, ld_y, ld_u, ld_v, sv_3, sv_4, sv_x, sv_y, sv_u, sv_v, is_0, is_1, is_s, lr_2, ia_0, ia_1, is_m0, is_m1, im_8, ml_8, im_11, ml_11, im_12, ml_12, im_88, ml_88, im_89, ml_89, j_lt_0, j_gt_0, j_le_0, j_ge_0, j_eq_0, j_lt_1, j_gt_1, j_le_1, j_ge_1, j_eq_1, j_lt_2, j_gt_2, j_le_2, j_ge_2, j_eq_2, j_lt_3, j_gt_3, j_le_3, j_ge_3, j_eq_3, j_lt_4, j_gt_4, j_le_4, j_ge_4, j_eq_4, j_lt_5, j_gt_5, j_le_5, j_ge_5, j_eq_5, j_lt_6, j_gt_6, j_le_6, j_ge_6, j_eq_6, j_lt_8, j_gt_8, j_le_8, j_ge_8, j_eq_8, j_lt_12, j_gt_12, j_le_12, j_ge_12, j_eq_12, j_lt_209, j_gt_209, j_le_209, j_ge_209, j_eq_209, j_lt_255, j_gt_255, j_le_255, j_ge_255, j_eq_255, j_lt_1000000000, j_gt_1000000000, j_le_1000000000, j_ge_1000000000, j_eq_1000000000, i_le, f2]
    by_cases q : pN P u ≤ j + 1
    · rw [if_pos q, sg_X5_meets_2]
      simp (disch := omega) only [Option.bind_some, as_I, as_R, as_V, ct_t, ct_f, if_true, if_false, Bool.true_and, Bool.and_true, Bool.or_true, Bool.true_or, gi_1_3, gi_s, pi_1_3, pi_s, gr_0_0, gr_0_1, gr_0_2, gr_0_3, gr_1_0, gr_1_1, gr_1_2, gr_s_7, gr_s_8, gr_s_9, gr_s_10, ld_3, ld_4, ld_x, ld_y, ld_u, ld_v, sv_3, sv_4, sv_x, sv_y, sv_u, sv_v, is_0, is_1, is_s, lr_2, ia_0, ia_1, is_m0, is_m1, im_8, ml_8, im_11, ml_11, im_12, ml_12, im_88, ml_88, im_89, ml_89, j_lt_0, j_gt_0, j_le_0, j_ge_0, j_eq_0, j_lt_1, j_gt_1, j_le_1, j_ge_1, j_eq_1, j_lt_2, j_gt_2, j_le_2, j_ge_2, j_eq_2, j_lt_3, j_gt_3, j_le_3, j_ge_3, j_eq_3, j_lt_4, j_gt_4, j_le_4, j_ge_4, j_eq_4, j_lt_5, j_gt_5, j_le_5, j_ge_5, j_eq_5, j_lt_6, j_gt_6, j_le_6, j_ge_6, j_eq_6, j_lt_8, j_gt_8, j_le_8, j_ge_8, j_eq_8, j_lt_12, j_gt_12, j_le_12, j_ge_12, j_eq_12, j_lt_209, j_gt_209, j_le_209, j_ge_209, j_eq_209, j_lt_255, j_gt_255, j_le_255, j_ge_255, j_eq_255, j_lt_1000000000, j_gt_1000000000, j_le_1000000000, j_ge_1000000000, j_eq_1000000000, i_le, e2]
      by_cases q2 : pN P s ≤ i + 1 + 1
      · rw [if_pos q2, dcd_f (fun z => tchU_e q2 ((tchU_r q).mp z))]; rfl
      · rw [if_neg q2, dcd_c (tchU_r q)]
        exact ih (i + 1) 0 (by omega) (by omega) (by omega) (by omega)
    · rw [if_neg q]
      have hj1 : j + 1 < pN P u := by omega
      have nx := ih i (j + 1) hi (by omega) (by omega) h1
      have ds := (W.2.1 s hs).2.2.2.2 i h1
      have du := (W.2.1 u hu).2.2.2.2 j hj1
      have iff4 := T_iff_M (x1 := pX P s i) (y1 := pY P s i) (x2 := pX P s (i + 1)) (y2 := pY P s (i + 1)) (x3 := pX P u j) (y3 := pY P u j) (x4 := pX P u (j + 1)) (y4 := pY P u (j + 1)) (by omega) (by omega)
      have sx := kc_spans (tb := tb) (d := d) (c := c) (t := t) (g := g) (fl := fl) (tg := tg) (σ := σ) (show s < 8 by omega) (show u < 8 by omega) (show i + 1 < 12 by omega) (show j + 1 < 12 by omega) (xA fl s) (xA fl u) (SH_x (by omega)) (SH_x (by omega)) (pX_le W hs (show i < pN P s by omega)) (pX_le W hs h1) (pX_le W hu (show j < pN P u by omega)) (pX_le W hu hj1) (e6 i (by omega)).1 (e6 _ h1).1 (f6 j (by omega)).1 (f6 _ hj1).1
      have sy := kc_spans (tb := tb) (d := d) (c := c) (t := t) (g := g) (fl := fl) (tg := tg) (σ := σ) (show s < 8 by omega) (show u < 8 by omega) (show i + 1 < 12 by omega) (show j + 1 < 12 by omega) (yA fl s) (yA fl u) (SH_y (by omega)) (SH_y (by omega)) (pY_le W hs (show i < pN P s by omega)) (pY_le W hs h1) (pY_le W hu (show j < pN P u by omega)) (pY_le W hu hj1) (e6 i (by omega)).2 (e6 _ h1).2 (f6 j (by omega)).2 (f6 _ hj1).2
      simp (disch := omega) only [Option.bind_some, as_I, as_R, as_V, ct_t, ct_f, if_true, if_false, Bool.true_and, Bool.and_true, Bool.or_true, Bool.true_or, gi_1_3, gi_s, pi_1_3, pi_s, gr_0_0, gr_0_1, gr_0_2, gr_0_3, gr_1_0, gr_1_1, gr_1_2, gr_s_7, gr_s_8, gr_s_9, gr_s_10, ld_3, ld_4, ld_x, ld_y, ld_u, ld_v, sv_3, sv_4, sv_x, sv_y, sv_u, sv_v, is_0, is_1, is_s, lr_2, sx, sy, kc_parts C W hs h1 hu hj1, kc_parts C W hu hj1 hs h1, bI_0]
      by_cases q1 : ovl (pX P s i) (pX P s (i + 1)) (pX P u j) (pX P u (j + 1))
      · rw [dcd_t q1, if_neg (by decide)]
        by_cases q2 : ovl (pY P s i) (pY P s (i + 1)) (pY P u j) (pY P u (j + 1))
        · rw [dcd_t q2, if_neg (by decide)]
          by_cases q3 : crI (pX P s i) (pY P s i) (pX P s (i + 1)) (pY P s (i + 1)) (pX P u j) (pY P u j) * crI (pX P s i) (pY P s i) (pX P s (i + 1)) (pY P s (i + 1)) (pX P u (j + 1)) (pY P u (j + 1)) ≤ 0
          · rw [dcd_t q3, if_neg (by decide)]
            by_cases q4 : crI (pX P u j) (pY P u j) (pX P u (j + 1)) (pY P u (j + 1)) (pX P s i) (pY P s i) * crI (pX P u j) (pY P u j) (pX P u (j + 1)) (pY P u (j + 1)) (pX P s (i + 1)) (pY P s (i + 1)) ≤ 0
            · rw [dcd_t q4, if_neg (by decide), dcd_t (tchU_y h1 hj1 (iff4.mp ⟨q1, q2, q3, q4⟩))]; rfl
            · rw [dcd_f q4, if_pos rfl, dcd_c (tchU_n fun z => q4 (iff4.mpr z).2.2.2)]; exact nx
          · rw [dcd_f q3, if_pos rfl, dcd_c (tchU_n fun z => q3 (iff4.mpr z).2.2.1)]; exact nx
        · rw [dcd_f q2, if_pos rfl, dcd_c (tchU_n fun z => q2 (iff4.mpr z).2.1)]; exact nx
      · rw [dcd_f q1, if_pos rfl, dcd_c (tchU_n fun z => q1 (iff4.mpr z).1)]; exact nx
theorem kc_tch (C : ShC P fl σ) (W : Wf P) {s u : Nat} (hs : s < pM P) (hu : u < pM P) : dX tb (d + 2) 66 0 [.ref (5 + 5 * s), .ref (5 + 5 * u), .null, .null] [] (c, t, hp g (SH fl tg) σ) = some (some (.int (bI (dcd (tch P s u)))), (c, t, hp g (SH fl tg) σ)) := by
  have hm := W.1
  have hn := (W.2.1 s hs).1
  obtain ⟨-, -, e2, -, -, e6⟩ := C.2.2.1 s hs
  rw [sg_X5_meets_0, sg_X5_meets_2]
  simp (disch := omega) only [Option.bind_some, as_I, as_R, as_V, ct_t, ct_f, if_true, if_false, Bool.true_and, Bool.and_true, Bool.or_true, Bool.true_or, gi_1_3, gi_s, pi_1_3, pi_s, gr_0_0, gr_0_1, gr_0_2, gr_0_3, gr_1_0, gr_1_1, gr_1_2, gr_s_7, gr_s_8, gr_s_9, gr_s_10, ld_3, ld_4, ld_x, ld_y, ld_u, ld_v, sv_3, sv_4, sv_x, sv_y, sv_u, sv_v, is_0, is_1, is_s, lr_2, e2]
  by_cases q : pN P s ≤ 1
  · rw [if_pos (by rw [show (0 : Int32) + 1 = Int32.ofNat 1 from rfl, i_le (by omega) (by omega)]; exact q), dcd_f (fun ⟨i, j, h, _⟩ => by omega)]; rfl
  · rw [if_neg (by rw [show (0 : Int32) + 1 = Int32.ofNat 1 from rfl, i_le (by omega) (by omega)]; exact q), ← dcd_c (tchU_0 P s u)]
    exact kc_tchU C W hs hu 169 0 0 (by omega) (by omega) (by omega) (by omega)
end TCH
