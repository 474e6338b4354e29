/-! THE CLASS'S SHEET: what it holds, and what its methods that only read answer -/
section BITS
theorem b_tst0 : ∀ a : Fin 256, ∀ o : Fin 8, (Int32.ofNat a.val >>> (Int32.ofNat o.val &&& 31)) &&& 1 = bI (a.val.testBit o.val) := by decide +kernel
theorem b_or0 : ∀ a : Fin 256, ∀ o : Fin 8, Int32.ofNat a.val ||| (1 <<< (Int32.ofNat o.val &&& 31)) = Int32.ofNat (a.val ||| 2 ^ o.val) := by decide +kernel
theorem b_tst {a o : Nat} (ha : a < 256) (ho : o < 8) : (Int32.ofNat a >>> (Int32.ofNat o &&& 31)) &&& 1 = bI (a.testBit o) := b_tst0 ⟨a, ha⟩ ⟨o, ho⟩
theorem b_or {a o : Nat} (ha : a < 256) (ho : o < 8) : Int32.ofNat a ||| (1 <<< (Int32.ofNat o &&& 31)) = Int32.ofNat (a ||| 2 ^ o) := b_or0 ⟨a, ha⟩ ⟨o, ho⟩
theorem ovm_lt (P : dP) (s o : Nat) : ovm P s o < 2 ^ o := by
  induction o with
  | zero => exact Nat.zero_lt_one
  | succ o ih =>
    show ovm P s o + (bif pOv P s o then 2 ^ o else 0) < 2 ^ (o + 1)
    rw [Nat.pow_succ]
    cases pOv P s o
    · show _ + 0 < _; omega
    · show _ + 2 ^ o < _; omega
theorem tb_add {a o q : Nat} (ha : a < 2 ^ o) (b : Bool) : (a + (bif b then 2 ^ o else 0)).testBit q = if q = o then b else a.testBit q := by
  cases b
  · show (a + 0).testBit q = _
    split
    · rename_i h; subst h; exact Nat.testBit_lt_two_pow ha
    · rfl
  · show (a + 2 ^ o).testBit q = _
    rw [Nat.add_comm]
    split
    · rename_i h; subst h; rw [Nat.testBit_two_pow_add_eq, Nat.testBit_lt_two_pow ha]; rfl
    · rename_i h
      rcases Nat.lt_or_gt_of_ne h with h2 | h2
      · rw [Nat.testBit_two_pow_add_gt h2]
      · have e1 : (2 ^ o + a) < 2 ^ q := by
          have : 2 ^ (o + 1) ≤ 2 ^ q := Nat.pow_le_pow_right (by decide) h2
          rw [Nat.pow_succ] at this
          omega
        rw [Nat.testBit_lt_two_pow e1, Nat.testBit_lt_two_pow (Nat.lt_of_le_of_lt (Nat.le_add_left _ _) e1)]
theorem ovm_tb (P : dP) (s o q : Nat) : (ovm P s o).testBit q = (decide (q < o) && pOv P s q) := by
  induction o with
  | zero => show (0 : Nat).testBit q = _; simp
  | succ o ih =>
    show (ovm P s o + (bif pOv P s o then 2 ^ o else 0)).testBit q = _
    rw [tb_add (ovm_lt P s o), ih]
    by_cases h : q = o
    · subst h; rw [if_pos rfl, decide_eq_true (by omega)]; rfl
    · rw [if_neg h]
      by_cases h2 : q < o
      · rw [decide_eq_true h2, decide_eq_true (by omega)]
      · rw [decide_eq_false h2, decide_eq_false (by omega)]
end BITS
section SHC
def StC (P : dP) (fl : Nat → Bool) (σ : dSg) (s : Nat) : Prop := σ (5 + 5 * s) 0 = Int32.ofNat (pPen P s) ∧ σ (5 + 5 * s) 1 = Int32.ofNat (pWet P s) ∧ σ (5 + 5 * s) 2 = Int32.ofNat (pN P s) ∧ σ (5 + 5 * s) 4 = bI (pCut P s) ∧ σ (5 + 5 * s) 5 = bI (clo P s) ∧ ∀ k, k < pN P s → σ (xA fl s) k = Int32.ofNat (pX P s k) ∧ σ (yA fl s) k = Int32.ofNat (pY P s k)
def ShC (P : dP) (fl : Nat → Bool) (σ : dSg) : Prop := σ 1 3 = Int32.ofNat (pM P) ∧ (∀ j, j < 5 → σ 4 j = Int32.ofNat (pPr P j)) ∧ (∀ s, s < pM P → StC P fl σ s) ∧ ∀ s, s < 8 → σ 3 s = Int32.ofNat (ovm P s 8)
/-- what is left now (in a run another row than the picture's) -/
def LfC (P : dP) (lf : Nat → Bool) (σ : dSg) : Prop := ∀ s, s < pM P → σ (5 + 5 * s) 3 = bI (lf s)
theorem xA_r (fl : Nat → Bool) (s : Nat) : xA fl s = 6 + 5 * s ∨ xA fl s = 8 + 5 * s := by unfold xA; cases fl s; exact Or.inl rfl; exact Or.inr rfl
theorem yA_r (fl : Nat → Bool) (s : Nat) : yA fl s = 7 + 5 * s ∨ yA fl s = 9 + 5 * s := by unfold yA; cases fl s; exact Or.inl rfl; exact Or.inr rfl
theorem ShC_congr {P : dP} {fl : Nat → Bool} {σ τ : dSg} (W : Wf P) (C : ShC P fl σ) (h : ∀ a, a < 45 → τ a = σ a) : ShC P fl τ := by
  have hm := W.1
  refine ⟨by rw [h 1 (by omega)]; exact C.1, fun j hj => by rw [h 4 (by omega)]; exact C.2.1 j hj, fun s hs => ?_, fun s hs => by rw [h 3 (by omega)]; exact C.2.2.2 s hs⟩
  obtain ⟨e0, e1, e2, e4, e5, e6⟩ := C.2.2.1 s hs
  have hx := xA_r fl s
  have hy := yA_r fl s
  refine ⟨?_, ?_, ?_, ?_, ?_, fun k hk => ?_⟩
  · rw [h _ (by omega)]; exact e0
  · rw [h _ (by omega)]; exact e1
  · rw [h _ (by omega)]; exact e2
  · rw [h _ (by omega)]; exact e4
  · rw [h _ (by omega)]; exact e5
  · rw [h _ (by omega), h _ (by omega)]; exact e6 k hk
theorem LfC_congr {P : dP} {lf : Nat → Bool} {σ τ : dSg} (W : Wf P) (C : LfC P lf σ) (h : ∀ a, a < 45 → τ a = σ a) : LfC P lf τ := fun s hs => by
  have hm := W.1
  rw [h _ (by omega)]; exact C s hs
variable {tb : dT} {d c t : Nat} {g : Nat → Option dE} {fl : Nat → Bool} {tg : Nat} {σ : dSg} {P : dP}
theorem kc_has (C : ShC P fl σ) (W : Wf P) (x : Int32) : dX tb (d + 1) 47 0 [.ref 1, .int x] [] (c, t, hp g (SH fl tg) σ) = some (some (.int (bI (decide (0 ≤ x) && decide (x < Int32.ofNat (pM P))))), (c, t, hp g (SH fl tg) σ)) := by
  have hm := W.1
  rw [sg_X4_has_0]
  simp only [Option.bind_some, as_I, as_R, as_V, ct_t, ct_f, if_true, if_false, Bool.true_and, Bool.and_true, Bool.or_true, Bool.true_or, i_add, i_mul, i_sub, i_lt, i_le, i_eq, bI_0, bI_1, bI_d, ia_0, ia_1, is_m0, is_m1, im_8, ml_8, im_11, ml_11, im_12, ml_12, im_88, ml_88, im_89, ml_89, j_lt_0, j_gt_0, j_le_0, j_ge_0, j_eq_0, j_lt_1, j_gt_1, j_le_1, j_ge_1, j_eq_1, j_lt_2, j_gt_2, j_le_2, j_ge_2, j_eq_2, j_lt_3, j_gt_3, j_le_3, j_ge_3, j_eq_3, j_lt_4, j_gt_4, j_le_4, j_ge_4, j_eq_4, j_lt_5, j_gt_5, j_le_5, j_ge_5, j_eq_5, j_lt_6, j_gt_6, j_le_6, j_ge_6, j_eq_6, j_lt_8, j_gt_8, j_le_8, j_ge_8, j_eq_8, j_lt_12, j_gt_12, j_le_12, j_ge_12, j_eq_12, j_lt_209, j_gt_209, j_le_209, j_ge_209, j_eq_209, j_lt_255, j_gt_255, j_le_255, j_ge_255, j_eq_255, j_lt_1000000000, j_gt_1000000000, j_le_1000000000, j_ge_1000000000, j_eq_1000000000, gi_1_3, gi_s, pi_1_3, pi_s, gr_0_0, gr_0_1, gr_0_2, gr_0_3, gr_1_0, gr_1_1, gr_1_2, gr_s_7, gr_s_8, gr_s_9, gr_s_10, ld_3, ld_4, ld_x, ld_y, ld_u, ld_v, sv_3, sv_4, sv_x, sv_y, sv_u, sv_v, is_0, is_1, is_s, lr_2, C.1, sg_X6_within_0]
  have e1 : (x < 0) = ¬ (0 ≤ x) := by rw [eq_iff_iff, Int32.not_le]
  have e2 : (Int32.ofNat (pM P) - 1 < x) = ¬ (x < Int32.ofNat (pM P)) := by
    rw [eq_iff_iff, Int32.not_lt, Int32.lt_iff_toInt_lt, Int32.le_iff_toInt_le, Int32.toInt_ofNat_of_lt (by omega)]
    rw [show Int32.ofNat (pM P) - 1 = Int32.ofInt ((pM P : Int) - 1) from i_sI (pM P) 1, z_toI (by omega)]
    omega
  simp only [e1, e2]
  by_cases q1 : 0 ≤ x
  · by_cases q2 : x < Int32.ofNat (pM P)
    · simp only [q1, q2, not_true, if_false, decide_true, Bool.and_true, as_I]; rfl
    · simp only [q1, q2, not_true, not_false_iff, if_false, if_true, decide_true, decide_false, Bool.and_false, as_I]; rfl
  · simp only [q1, not_false_iff, if_true, decide_false, Bool.false_and, as_I]; rfl
theorem kc_begs (C : ShC P fl σ) (W : Wf P) {s : Nat} (hs : s < pM P) : dX tb d 59 0 [.ref (5 + 5 * s)] [] (c, t, hp g (SH fl tg) σ) = some (some (.int (Int32.ofNat (if 2 ≤ pN P s then bgn P s else 0))), (c, t, hp g (SH fl tg) σ)) := by
  have hm := W.1
  have hn := (W.2.1 s hs).1
  obtain ⟨e0, e1, e2, e4, e5, e6⟩ := C.2.2.1 s hs
  rw [sg_X5_beginnings_0]
  by_cases q : 2 ≤ pN P s
  · simp (disch := omega) only [Option.bind_some, as_I, as_R, as_V, ct_t, ct_f, if_true, if_false, Bool.true_and, Bool.and_true, Bool.or_true, Bool.true_or, i_add, i_mul, i_sub, i_lt, i_le, i_eq, bI_0, bI_1, bI_d, ia_0, ia_1, is_m0, is_m1, im_8, ml_8, im_11, ml_11, im_12, ml_12, im_88, ml_88, im_89, ml_89, j_lt_0, j_gt_0, j_le_0, j_ge_0, j_eq_0, j_lt_1, j_gt_1, j_le_1, j_ge_1, j_eq_1, j_lt_2, j_gt_2, j_le_2, j_ge_2, j_eq_2, j_lt_3, j_gt_3, j_le_3, j_ge_3, j_eq_3, j_lt_4, j_gt_4, j_le_4, j_ge_4, j_eq_4, j_lt_5, j_gt_5, j_le_5, j_ge_5, j_eq_5, j_lt_6, j_gt_6, j_le_6, j_ge_6, j_eq_6, j_lt_8, j_gt_8, j_le_8, j_ge_8, j_eq_8, j_lt_12, j_gt_12, j_le_12, j_ge_12, j_eq_12, j_lt_209, j_gt_209, j_le_209, j_ge_209, j_eq_209, j_lt_255, j_gt_255, j_le_255, j_ge_255, j_eq_255, j_lt_1000000000, j_gt_1000000000, j_le_1000000000, j_ge_1000000000, j_eq_1000000000, gi_1_3, gi_s, pi_1_3, pi_s, gr_0_0, gr_0_1, gr_0_2, gr_0_3, gr_1_0, gr_1_1, gr_1_2, gr_s_7, gr_s_8, gr_s_9, gr_s_10, ld_3, ld_4, ld_x, ld_y, ld_u, ld_v, sv_3, sv_4, sv_x, sv_y, sv_u, sv_v, is_0, is_1, is_s, lr_2, e2, e5, q]
    cases hc : clo P s
    · simp only [bgn, hc, ct_f, if_true]; rfl
    · simp (disch := omega) only [bgn, hc, ct_t, ia_0, ia_1, is_m0, is_m1, im_8, ml_8, im_11, ml_11, im_12, ml_12, im_88, ml_88, im_89, ml_89, j_lt_0, j_gt_0, j_le_0, j_ge_0, j_eq_0, j_lt_1, j_gt_1, j_le_1, j_ge_1, j_eq_1, j_lt_2, j_gt_2, j_le_2, j_ge_2, j_eq_2, j_lt_3, j_gt_3, j_le_3, j_ge_3, j_eq_3, j_lt_4, j_gt_4, j_le_4, j_ge_4, j_eq_4, j_lt_5, j_gt_5, j_le_5, j_ge_5, j_eq_5, j_lt_6, j_gt_6, j_le_6, j_ge_6, j_eq_6, j_lt_8, j_gt_8, j_le_8, j_ge_8, j_eq_8, j_lt_12, j_gt_12, j_le_12, j_ge_12, j_eq_12, j_lt_209, j_gt_209, j_le_209, j_ge_209, j_eq_209, j_lt_255, j_gt_255, j_le_255, j_ge_255, j_eq_255, j_lt_1000000000, j_gt_1000000000, j_le_1000000000, j_ge_1000000000, j_eq_1000000000, Bool.true_eq_false, if_false]
  · simp (disch := omega) only [Option.bind_some, as_I, as_R, as_V, ct_t, ct_f, if_true, if_false, Bool.true_and, Bool.and_true, Bool.or_true, Bool.true_or, i_add, i_mul, i_sub, i_lt, i_le, i_eq, bI_0, bI_1, bI_d, ia_0, ia_1, is_m0, is_m1, im_8, ml_8, im_11, ml_11, im_12, ml_12, im_88, ml_88, im_89, ml_89, j_lt_0, j_gt_0, j_le_0, j_ge_0, j_eq_0, j_lt_1, j_gt_1, j_le_1, j_ge_1, j_eq_1, j_lt_2, j_gt_2, j_le_2, j_ge_2, j_eq_2, j_lt_3, j_gt_3, j_le_3, j_ge_3, j_eq_3, j_lt_4, j_gt_4, j_le_4, j_ge_4, j_eq_4, j_lt_5, j_gt_5, j_le_5, j_ge_5, j_eq_5, j_lt_6, j_gt_6, j_le_6, j_ge_6, j_eq_6, j_lt_8, j_gt_8, j_le_8, j_ge_8, j_eq_8, j_lt_12, j_gt_12, j_le_12, j_ge_12, j_eq_12, j_lt_209, j_gt_209, j_le_209, j_ge_209, j_eq_209, j_lt_255, j_gt_255, j_le_255, j_ge_255, j_eq_255, j_lt_1000000000, j_gt_1000000000, j_le_1000000000, j_ge_1000000000, j_eq_1000000000, gi_1_3, gi_s, pi_1_3, pi_s, gr_0_0, gr_0_1, gr_0_2, gr_0_3, gr_1_0, gr_1_1, gr_1_2, gr_s_7, gr_s_8, gr_s_9, gr_s_10, ld_3, ld_4, ld_x, ld_y, ld_u, ld_v, sv_3, sv_4, sv_x, sv_y, sv_u, sv_v, is_0, is_1, is_s, lr_2, e2, e5, q]; rfl
theorem kc_dpt (C : ShC P fl σ) (W : Wf P) {s b k : Nat} (hs : s < pM P) (hb : b < bgn P s) (hk : k < pN P s) : dX tb d 60 0 [.ref (5 + 5 * s), .int (Int32.ofNat b), .int (Int32.ofNat k), .null] [] (c, t, hp g (SH fl tg) σ) = some (some (.int (Int32.ofNat (drw P s b k))), (c, t, hp g (SH fl tg) σ)) := by
  have hm := W.1
  have hn := (W.2.1 s hs).1
  obtain ⟨e0, e1, e2, e4, e5, e6⟩ := C.2.2.1 s hs
  rw [sg_X5_drawnPoint_0]
  cases hc : clo P s
  · have hb2 : b < 2 := by unfold bgn at hb; rw [hc] at hb; exact hb
    simp (disch := omega) only [Option.bind_some, as_I, as_R, as_V, ct_t, ct_f, if_true, if_false, Bool.true_and, Bool.and_true, Bool.or_true, Bool.true_or, i_add, i_mul, i_sub, i_lt, i_le, i_eq, bI_0, bI_1, bI_d, ia_0, ia_1, is_m0, is_m1, im_8, ml_8, im_11, ml_11, im_12, ml_12, im_88, ml_88, im_89, ml_89, j_lt_0, j_gt_0, j_le_0, j_ge_0, j_eq_0, j_lt_1, j_gt_1, j_le_1, j_ge_1, j_eq_1, j_lt_2, j_gt_2, j_le_2, j_ge_2, j_eq_2, j_lt_3, j_gt_3, j_le_3, j_ge_3, j_eq_3, j_lt_4, j_gt_4, j_le_4, j_ge_4, j_eq_4, j_lt_5, j_gt_5, j_le_5, j_ge_5, j_eq_5, j_lt_6, j_gt_6, j_le_6, j_ge_6, j_eq_6, j_lt_8, j_gt_8, j_le_8, j_ge_8, j_eq_8, j_lt_12, j_gt_12, j_le_12, j_ge_12, j_eq_12, j_lt_209, j_gt_209, j_le_209, j_ge_209, j_eq_209, j_lt_255, j_gt_255, j_le_255, j_ge_255, j_eq_255, j_lt_1000000000, j_gt_1000000000, j_le_1000000000, j_ge_1000000000, j_eq_1000000000, gi_1_3, gi_s, pi_1_3, pi_s, gr_0_0, gr_0_1, gr_0_2, gr_0_3, gr_1_0, gr_1_1, gr_1_2, gr_s_7, gr_s_8, gr_s_9, gr_s_10, ld_3, ld_4, ld_x, ld_y, ld_u, ld_v, sv_3, sv_4, sv_x, sv_y, sv_u, sv_v, is_0, is_1, is_s, lr_2, e2, e5, hc, drw]
    by_cases q : b = 0
    · simp only [q, if_true]
    · simp (disch := omega) only [q, if_false, i_sub, ia_0, ia_1, is_m0, is_m1, im_8, ml_8, im_11, ml_11, im_12, ml_12, im_88, ml_88, im_89, ml_89, j_lt_0, j_gt_0, j_le_0, j_ge_0, j_eq_0, j_lt_1, j_gt_1, j_le_1, j_ge_1, j_eq_1, j_lt_2, j_gt_2, j_le_2, j_ge_2, j_eq_2, j_lt_3, j_gt_3, j_le_3, j_ge_3, j_eq_3, j_lt_4, j_gt_4, j_le_4, j_ge_4, j_eq_4, j_lt_5, j_gt_5, j_le_5, j_ge_5, j_eq_5, j_lt_6, j_gt_6, j_le_6, j_ge_6, j_eq_6, j_lt_8, j_gt_8, j_le_8, j_ge_8, j_eq_8, j_lt_12, j_gt_12, j_le_12, j_ge_12, j_eq_12, j_lt_209, j_gt_209, j_le_209, j_ge_209, j_eq_209, j_lt_255, j_gt_255, j_le_255, j_ge_255, j_eq_255, j_lt_1000000000, j_gt_1000000000, j_le_1000000000, j_ge_1000000000, j_eq_1000000000]
  · have h4 := clo_n hc
    have hb2 : b < pN P s - 1 := by unfold bgn at hb; rw [hc] at hb; exact hb
    simp (disch := omega) only [Option.bind_some, as_I, as_R, as_V, ct_t, ct_f, if_true, if_false, Bool.true_and, Bool.and_true, Bool.or_true, Bool.true_or, i_add, i_mul, i_sub, i_lt, i_le, i_eq, bI_0, bI_1, bI_d, ia_0, ia_1, is_m0, is_m1, im_8, ml_8, im_11, ml_11, im_12, ml_12, im_88, ml_88, im_89, ml_89, j_lt_0, j_gt_0, j_le_0, j_ge_0, j_eq_0, j_lt_1, j_gt_1, j_le_1, j_ge_1, j_eq_1, j_lt_2, j_gt_2, j_le_2, j_ge_2, j_eq_2, j_lt_3, j_gt_3, j_le_3, j_ge_3, j_eq_3, j_lt_4, j_gt_4, j_le_4, j_ge_4, j_eq_4, j_lt_5, j_gt_5, j_le_5, j_ge_5, j_eq_5, j_lt_6, j_gt_6, j_le_6, j_ge_6, j_eq_6, j_lt_8, j_gt_8, j_le_8, j_ge_8, j_eq_8, j_lt_12, j_gt_12, j_le_12, j_ge_12, j_eq_12, j_lt_209, j_gt_209, j_le_209, j_ge_209, j_eq_209, j_lt_255, j_gt_255, j_le_255, j_ge_255, j_eq_255, j_lt_1000000000, j_gt_1000000000, j_le_1000000000, j_ge_1000000000, j_eq_1000000000, gi_1_3, gi_s, pi_1_3, pi_s, gr_0_0, gr_0_1, gr_0_2, gr_0_3, gr_1_0, gr_1_1, gr_1_2, gr_s_7, gr_s_8, gr_s_9, gr_s_10, ld_3, ld_4, ld_x, ld_y, ld_u, ld_v, sv_3, sv_4, sv_x, sv_y, sv_u, sv_v, is_0, is_1, is_s, lr_2, e2, e5, hc, drw, Bool.true_eq_false]
    by_cases q : pN P s - 1 ≤ b + k
    · rw [if_pos q, Nat.mod_eq_sub_mod q, Nat.mod_eq_of_lt (by omega)]
    · rw [if_neg q, Nat.mod_eq_of_lt (by omega)]
theorem kc_dx (C : ShC P fl σ) (W : Wf P) {s b k : Nat} (hs : s < pM P) (hb : b < bgn P s) (hk : k < pN P s) : dX tb (d + 1) 61 0 [.ref (5 + 5 * s), .int (Int32.ofNat b), .int (Int32.ofNat k)] [] (c, t, hp g (SH fl tg) σ) = some (some (.int (Int32.ofNat (dXn P s b k))), (c, t, hp g (SH fl tg) σ)) := by
  have hm := W.1
  have hn := (W.2.1 s hs).1
  have hd := drw_lt (b := b) hk
  obtain ⟨e0, e1, e2, e4, e5, e6⟩ := C.2.2.1 s hs
  rw [sg_X5_drawnX_0]
  simp (disch := omega) only [Option.bind_some, as_I, as_R, as_V, ct_t, ct_f, if_true, if_false, Bool.true_and, Bool.and_true, Bool.or_true, Bool.true_or, gi_1_3, gi_s, pi_1_3, pi_s, gr_0_0, gr_0_1, gr_0_2, gr_0_3, gr_1_0, gr_1_1, gr_1_2, gr_s_7, gr_s_8, gr_s_9, gr_s_10, ld_3, ld_4, ld_x, ld_y, ld_u, ld_v, sv_3, sv_4, sv_x, sv_y, sv_u, sv_v, is_0, is_1, is_s, lr_2, kc_dpt C W hs hb hk, (e6 _ hd).1, dXn]
theorem kc_dy (C : ShC P fl σ) (W : Wf P) {s b k : Nat} (hs : s < pM P) (hb : b < bgn P s) (hk : k < pN P s) : dX tb (d + 1) 62 0 [.ref (5 + 5 * s), .int (Int32.ofNat b), .int (Int32.ofNat k)] [] (c, t, hp g (SH fl tg) σ) = some (some (.int (Int32.ofNat (dYn P s b k))), (c, t, hp g (SH fl tg) σ)) := by
  have hm := W.1
  have hn := (W.2.1 s hs).1
  have hd := drw_lt (b := b) hk
  obtain ⟨e0, e1, e2, e4, e5, e6⟩ := C.2.2.1 s hs
  rw [sg_X5_drawnY_0]
  simp (disch := omega) only [Option.bind_some, as_I, as_R, as_V, ct_t, ct_f, if_true, if_false, Bool.true_and, Bool.and_true, Bool.or_true, Bool.true_or, gi_1_3, gi_s, pi_1_3, pi_s, gr_0_0, gr_0_1, gr_0_2, gr_0_3, gr_1_0, gr_1_1, gr_1_2, gr_s_7, gr_s_8, gr_s_9, gr_s_10, ld_3, ld_4, ld_x, ld_y, ld_u, ld_v, sv_3, sv_4, sv_x, sv_y, sv_u, sv_v, is_0, is_1, is_s, lr_2, kc_dpt C W hs hb hk, (e6 _ hd).2, dYn]
theorem kc_turns (C : ShC P fl σ) (W : Wf P) {s b k : Nat} (hs : s < pM P) (hb : b < bgn P s) (hk : k + 1 < pN P s) : dX tb (d + 2) 64 0 [.ref (5 + 5 * s), .int (Int32.ofNat b), .int (Int32.ofNat k), .null, .null, .null, .null] [] (c, t, hp g (SH fl tg) σ) = some (some (.int (bI (cor1 P s b k))), (c, t, hp g (SH fl tg) σ)) := by
  have hm := W.1
  have hn := (W.2.1 s hs).1
  obtain ⟨e0, e1, e2, e4, e5, e6⟩ := C.2.2.1 s hs
  rw [sg_X5_turnsAt_0]
  cases k with
  | zero =>
    simp only [show (Int32.ofNat 0 ≤ 0) = True from eq_true (by decide), if_true]
    rfl
  | succ k =>
    have h1 : ¬ (k + 1 ≤ 0) := by omega
    have x1 := dXn_le (b := b) (k := k + 1) W hs (by omega)
    have x2 := dXn_le (b := b) (k := k) W hs (by omega)
    have x3 := dXn_le (b := b) (k := k + 1 + 1) W hs (by omega)
    have y1 := dYn_le (b := b) (k := k + 1) W hs (by omega)
    have y2 := dYn_le (b := b) (k := k) W hs (by omega)
    have y3 := dYn_le (b := b) (k := k + 1 + 1) W hs (by omega)
    simp (disch := omega) only [Option.bind_some, as_I, as_R, as_V, ct_t, ct_f, if_true, if_false, Bool.true_and, Bool.and_true, Bool.or_true, Bool.true_or, gi_1_3, gi_s, pi_1_3, pi_s, gr_0_0, gr_0_1, gr_0_2, gr_0_3, gr_1_0, gr_1_1, gr_1_2, gr_s_7, gr_s_8, gr_s_9, gr_s_10, ld_3, ld_4, ld_x, ld_y, ld_u, ld_v, sv_3, sv_4, sv_x, sv_y, sv_u, sv_v, is_0, is_1, is_s, lr_2, ia_0, ia_1, is_m0, is_m1, im_8, ml_8, im_11, ml_11, im_12, ml_12, im_88, ml_88, im_89, ml_89, j_lt_0, j_gt_0, j_le_0, j_ge_0, j_eq_0, j_lt_1, j_gt_1, j_le_1, j_ge_1, j_eq_1, j_lt_2, j_gt_2, j_le_2, j_ge_2, j_eq_2, j_lt_3, j_gt_3, j_le_3, j_ge_3, j_eq_3, j_lt_4, j_gt_4, j_le_4, j_ge_4, j_eq_4, j_lt_5, j_gt_5, j_le_5, j_ge_5, j_eq_5, j_lt_6, j_gt_6, j_le_6, j_ge_6, j_eq_6, j_lt_8, j_gt_8, j_le_8, j_ge_8, j_eq_8, j_lt_12, j_gt_12, j_le_12, j_ge_12, j_eq_12, j_lt_209, j_gt_209, j_le_209, j_ge_209, j_eq_209, j_lt_255, j_gt_255, j_le_255, j_ge_255, j_eq_255, j_lt_1000000000, j_gt_1000000000, j_le_1000000000, j_ge_1000000000, j_eq_1000000000, i_lt, e2, h1, hk, Nat.add_sub_cancel, kc_dx C W hs hb, kc_dy C W hs hb]
    rw [i_corn x1 y1 x2 y2 x3 y3]
    have e : cor1 P s b (k + 1) = cornI ((dXn P s b (k + 1) : Int) - dXn P s b k) ((dYn P s b (k + 1) : Int) - dYn P s b k) ((dXn P s b (k + 1 + 1) : Int) - dXn P s b (k + 1)) ((dYn P s b (k + 1 + 1) : Int) - dYn P s b (k + 1)) := rfl
    rw [e]
    cases cornI _ _ _ _ <;> rfl
theorem kc_tloop (C : ShC P fl σ) (W : Wf P) {s b : Nat} (hs : s < pM P) (hb : b < bgn P s) : ∀ (q j : Nat) (l5 l6 : Value), j + q + 1 = pN P s → dX tb (d + 3) 63 5 [.ref (5 + 5 * s), .int (Int32.ofNat b), .ref 4, .int (Int32.ofNat (tkU P s b j)), .int (Int32.ofNat j), l5, l6] [] (c, t, hp g (SH fl tg) σ) = some (some (.int (Int32.ofNat (tkN P s b))), (c, t, hp g (SH fl tg) σ)) := by
  have hm := W.1
  have hn := (W.2.1 s hs).1
  obtain ⟨e0, e1, e2, e4, e5, e6⟩ := C.2.2.1 s hs
  intro q
  induction q with
  | zero =>
    intro j l5 l6 hj
    have h1 : pN P s ≤ j + 1 := by omega
    rw [sg_X5_drawTicks_5]
    simp (disch := omega) only [Option.bind_some, as_I, as_R, as_V, ct_t, ct_f, if_true, if_false, Bool.true_and, Bool.and_true, Bool.or_true, Bool.true_or, gi_1_3, gi_s, pi_1_3, pi_s, gr_0_0, gr_0_1, gr_0_2, gr_0_3, gr_1_0, gr_1_1, gr_1_2, gr_s_7, gr_s_8, gr_s_9, gr_s_10, ld_3, ld_4, ld_x, ld_y, ld_u, ld_v, sv_3, sv_4, sv_x, sv_y, sv_u, sv_v, is_0, is_1, is_s, lr_2, ia_0, ia_1, is_m0, is_m1, im_8, ml_8, im_11, ml_11, im_12, ml_12, im_88, ml_88, im_89, ml_89, j_lt_0, j_gt_0, j_le_0, j_ge_0, j_eq_0, j_lt_1, j_gt_1, j_le_1, j_ge_1, j_eq_1, j_lt_2, j_gt_2, j_le_2, j_ge_2, j_eq_2, j_lt_3, j_gt_3, j_le_3, j_ge_3, j_eq_3, j_lt_4, j_gt_4, j_le_4, j_ge_4, j_eq_4, j_lt_5, j_gt_5, j_le_5, j_ge_5, j_eq_5, j_lt_6, j_gt_6, j_le_6, j_ge_6, j_eq_6, j_lt_8, j_gt_8, j_le_8, j_ge_8, j_eq_8, j_lt_12, j_gt_12, j_le_12, j_ge_12, j_eq_12, j_lt_209, j_gt_209, j_le_209, j_ge_209, j_eq_209, j_lt_255, j_gt_255, j_le_255, j_ge_255, j_eq_255, j_lt_1000000000, j_gt_1000000000, j_le_1000000000, j_ge_1000000000, j_eq_1000000000, i_le, e2, h1]
    rw [show j = pN P s - 1 by omega, tkN]
  | succ q ih =>
    intro j l5 l6 hj
    have h1 : ¬ (pN P s ≤ j + 1) := by omega
    have x1 := dXn_le (b := b) (k := j + 1) W hs (by omega)
    have x2 := dXn_le (b := b) (k := j) W hs (by omega)
    have y1 := dYn_le (b := b) (k := j + 1) W hs (by omega)
    have y2 := dYn_le (b := b) (k := j) W hs (by omega)
    rw [sg_X5_drawTicks_5]
    simp (disch := omega) only [Option.bind_some, as_I, as_R, as_V, ct_t, ct_f, if_true, if_false, Bool.true_and, Bool.and_true, Bool.or_true, Bool.true_or, gi_1_3, gi_s, pi_1_3, pi_s, gr_0_0, gr_0_1, gr_0_2, gr_0_3, gr_1_0, gr_1_1, gr_1_2, gr_s_7, gr_s_8, gr_s_9, gr_s_10, ld_3, ld_4, ld_x, ld_y, ld_u, ld_v, sv_3, sv_4, sv_x, sv_y, sv_u, sv_v, is_0, is_1, is_s, lr_2, ia_0, ia_1, is_m0, is_m1, im_8, ml_8, im_11, ml_11, im_12, ml_12, im_88, ml_88, im_89, ml_89, j_lt_0, j_gt_0, j_le_0, j_ge_0, j_eq_0, j_lt_1, j_gt_1, j_le_1, j_ge_1, j_eq_1, j_lt_2, j_gt_2, j_le_2, j_ge_2, j_eq_2, j_lt_3, j_gt_3, j_le_3, j_ge_3, j_eq_3, j_lt_4, j_gt_4, j_le_4, j_ge_4, j_eq_4, j_lt_5, j_gt_5, j_le_5, j_ge_5, j_eq_5, j_lt_6, j_gt_6, j_le_6, j_ge_6, j_eq_6, j_lt_8, j_gt_8, j_le_8, j_ge_8, j_eq_8, j_lt_12, j_gt_12, j_le_12, j_ge_12, j_eq_12, j_lt_209, j_gt_209, j_le_209, j_ge_209, j_eq_209, j_lt_255, j_gt_255, j_le_255, j_ge_255, j_eq_255, j_lt_1000000000, j_gt_1000000000, j_le_1000000000, j_ge_1000000000, j_eq_1000000000, i_le, e2, h1, kc_dx C W hs hb, kc_dy C W hs hb, kc_turns C W hs hb, sg_X6_wayOf_0, i_way x1 y1 x2 y2, bI_0]
    simp only [show dm_ldI (c, t, hp g (SH fl tg) σ) 4 0 0 = some (σ 4 0) from ld_4 (m := 0) (by decide), show dm_ldI (c, t, hp g (SH fl tg) σ) 4 0 4 = some (σ 4 4) from ld_4 (m := 4) (by decide), Option.bind_some, C.2.1 0 (by decide), C.2.1 4 (by decide), i_mul, i_add]
    rw [way_comm]
    cases hc : cor1 P s b j
    · rw [if_pos rfl]
      have := ih (j + 1) (.int (Int32.ofNat (dXn P s b (j + 1)) - Int32.ofNat (dXn P s b j))) (.int (Int32.ofNat (dYn P s b (j + 1)) - Int32.ofNat (dYn P s b j))) (by omega)
      rw [show tkU P s b (j + 1) = tkU P s b j + way1 P s b j * pPr P 0 + (bif cor1 P s b j then pPr P 4 else 0) from rfl, hc] at this
      exact this
    · rw [if_neg (by decide)]
      have := ih (j + 1) (.int (Int32.ofNat (dXn P s b (j + 1)) - Int32.ofNat (dXn P s b j))) (.int (Int32.ofNat (dYn P s b (j + 1)) - Int32.ofNat (dYn P s b j))) (by omega)
      rw [show tkU P s b (j + 1) = tkU P s b j + way1 P s b j * pPr P 0 + (bif cor1 P s b j then pPr P 4 else 0) from rfl, hc] at this
      exact this
theorem kc_ticks (C : ShC P fl σ) (W : Wf P) {s b : Nat} (hs : s < pM P) (hb : b < bgn P s) (h2 : 2 ≤ pN P s) : dX tb (d + 3) 63 0 [.ref (5 + 5 * s), .int (Int32.ofNat b), .ref 4, .null, .null, .null, .null] [] (c, t, hp g (SH fl tg) σ) = some (some (.int (Int32.ofNat (tkN P s b))), (c, t, hp g (SH fl tg) σ)) := by
  rw [sg_X5_drawTicks_0]
  exact kc_tloop C W hs hb (pN P s - 1) 0 _ _ (by omega)
end SHC
