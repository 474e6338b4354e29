/-! price -/
section PRI
variable {L : Nat} {xs : Nat → Int32} {tb : dT} {d c t : Nat} {g : Nat → Option dE} {fl : Nat → Bool} {tg : Nat} {σ : dSg} {P : dP} {A : dA} {T w : Nat} {e : Nat → Option Nat} {n j : Int32}
def inB (lo hi x : Int32) : Bool := decide (¬ x < lo) && decide (¬ hi < x)
theorem rng_b (lo hi x : Int32) (h : dH) : (if x < lo then some (some (Value.int 0), h) else if hi < x then some (some (Value.int 0), h) else some (some (Value.int 1), h)) = some (some (.int (bI (inB lo hi x))), h) := by
  unfold inB
  by_cases q1 : x < lo
  · rw [if_pos q1, decide_eq_false (fun z => z q1)]; rfl
  · rw [if_neg q1, decide_eq_true q1]
    by_cases q2 : hi < x
    · rw [if_pos q2, decide_eq_false (fun z => z q2)]; rfl
    · rw [if_neg q2, decide_eq_true q2]; rfl
theorem kw_b (lo hi x : Int32) (h : dH) : dX tb d 87 0 [.int x, .int lo, .int hi] [] h = some (some (.int (bI (inB lo hi x))), h) := by rw [sg_X6_within_0]; exact rng_b lo hi x h
theorem mw_b (lo hi x : Int32) (h : dH) : dX tb d 91 0 [.int x, .int lo, .int hi] [] h = some (some (.int (bI (inB lo hi x))), h) := by rw [sg_X7_isIn_0]; exact rng_b lo hi x h
theorem inB_ex {lo hi : Nat} {x : Int32} (hh : hi ≤ 100000) (hl : lo ≤ hi) (h : inB (Int32.ofNat lo) (Int32.ofNat hi) x = true) : ∃ v, lo ≤ v ∧ v ≤ hi ∧ x = Int32.ofNat v ∧ tN x = v := by
  unfold inB at h
  rw [Bool.and_eq_true, decide_eq_true_eq, decide_eq_true_eq, Int32.not_lt, Int32.not_lt, Int32.le_iff_toInt_le, Int32.le_iff_toInt_le, Int32.toInt_ofNat_of_lt (by omega), Int32.toInt_ofNat_of_lt (by omega)] at h
  have h0 : 0 ≤ x := by rw [Int32.le_iff_toInt_le]; have : (0 : Int32).toInt = 0 := rfl; omega
  have a := Int32.toInt_eq_toNatClampNeg h0
  exact ⟨x.toNatClampNeg, by omega, by omega, (Int32.ofNat_toNatClampNeg x h0).symm, rfl⟩
def loP (s : Nat) : Int32 := ([1, 1, 0, 0, 0] : List Int32).getD s 0
def hiP (s : Nat) : Int32 := ([9, 9, 99, 999, 99] : List Int32).getD s 0
def okPr (x y : Int32) : Bool := inR 5 x && inB (loP (tN x)) (hiP (tN x)) y
def prP (P : dP) (s v : Nat) : dP := (P.1, P.2.1, P.2.2.1, P.2.2.2.1, P.2.2.2.2.1, P.2.2.2.2.2.1, P.2.2.2.2.2.2.1, P.2.2.2.2.2.2.2.1, P.2.2.2.2.2.2.2.2.1, fun i => if i = s then v else P.2.2.2.2.2.2.2.2.2 i)
theorem prP_pr {s v : Nat} (i : Nat) : pPr (prP P s v) i = if i = s then v else pPr P i := rfl
theorem okB_0 {y : Int32} (h : inB (loP 0) (hiP 0) y = true) : ∃ v, 1 ≤ v ∧ v ≤ 9 ∧ y = Int32.ofNat v ∧ tN y = v := inB_ex (by omega) (by omega) h
theorem okB_1 {y : Int32} (h : inB (loP 1) (hiP 1) y = true) : ∃ v, 1 ≤ v ∧ v ≤ 9 ∧ y = Int32.ofNat v ∧ tN y = v := inB_ex (by omega) (by omega) h
theorem okB_2 {y : Int32} (h : inB (loP 2) (hiP 2) y = true) : ∃ v, 0 ≤ v ∧ v ≤ 99 ∧ y = Int32.ofNat v ∧ tN y = v := inB_ex (by omega) (by omega) h
theorem okB_3 {y : Int32} (h : inB (loP 3) (hiP 3) y = true) : ∃ v, 0 ≤ v ∧ v ≤ 999 ∧ y = Int32.ofNat v ∧ tN y = v := inB_ex (by omega) (by omega) h
theorem okB_4 {y : Int32} (h : inB (loP 4) (hiP 4) y = true) : ∃ v, 0 ≤ v ∧ v ≤ 99 ∧ y = Int32.ofNat v ∧ tN y = v := inB_ex (by omega) (by omega) h
theorem prP_ok (W : Wf P) {s : Nat} (hs : s < 5) {y : Int32} (h : inB (loP s) (hiP s) y = true) : y = Int32.ofNat (tN y) ∧ Wf (prP P s (tN y)) := by
  obtain ⟨w1, w2, w3, w4, w5, w6, w7, w8⟩ := W
  have k : ∀ i, (i = s → False) → pPr (prP P s (tN y)) i = pPr P i := fun i hi => by rw [prP_pr, if_neg hi]
  have k2 : pPr (prP P s (tN y)) s = tN y := by rw [prP_pr, if_pos rfl]
  match s, hs with
  | 0, _ =>
    obtain ⟨v, a, b, e1, e2⟩ := okB_0 h
    rw [e2] at k k2 ⊢
    exact ⟨e1, w1, w2, by rw [k2]; exact ⟨a, b⟩, by rw [k 1 (by omega)]; exact w4, by rw [k 2 (by omega)]; exact w5, by rw [k 3 (by omega)]; exact w6, by rw [k 4 (by omega)]; exact w7, w8⟩
  | 1, _ =>
    obtain ⟨v, a, b, e1, e2⟩ := okB_1 h
    rw [e2] at k k2 ⊢
    exact ⟨e1, w1, w2, by rw [k 0 (by omega)]; exact w3, by rw [k2]; exact ⟨a, b⟩, by rw [k 2 (by omega)]; exact w5, by rw [k 3 (by omega)]; exact w6, by rw [k 4 (by omega)]; exact w7, w8⟩
  | 2, _ =>
    obtain ⟨v, a, b, e1, e2⟩ := okB_2 h
    rw [e2] at k k2 ⊢
    exact ⟨e1, w1, w2, by rw [k 0 (by omega)]; exact w3, by rw [k 1 (by omega)]; exact w4, by rw [k2]; exact b, by rw [k 3 (by omega)]; exact w6, by rw [k 4 (by omega)]; exact w7, w8⟩
  | 3, _ =>
    obtain ⟨v, a, b, e1, e2⟩ := okB_3 h
    rw [e2] at k k2 ⊢
    exact ⟨e1, w1, w2, by rw [k 0 (by omega)]; exact w3, by rw [k 1 (by omega)]; exact w4, by rw [k 2 (by omega)]; exact w5, by rw [k2]; exact b, by rw [k 4 (by omega)]; exact w7, w8⟩
  | 4, _ =>
    obtain ⟨v, a, b, e1, e2⟩ := okB_4 h
    rw [e2] at k k2 ⊢
    exact ⟨e1, w1, w2, by rw [k 0 (by omega)]; exact w3, by rw [k 1 (by omega)]; exact w4, by rw [k 2 (by omega)]; exact w5, by rw [k 3 (by omega)]; exact w6, by rw [k2]; exact b, w8⟩
theorem at_k {α β : Type} {s m : Nat} {f : Nat → α} {K : α → Option β} (hm : m ≤ 100000) (hs : s < m) : dm_at (Int32.ofNat s) m f K = K (f s) := by
  unfold dm_at
  have e := (inR_of hm hs).2
  have h0 : ¬ Int32.ofNat s < 0 := Int32.not_lt.mpr (Int32.zero_le_ofNat_of_lt (by omega))
  unfold tN at e
  rw [e, if_neg (by intro z; rcases z with z | z; exact h0 z; omega)]
theorem at_1 {β : Type} {s : Nat} {K : Int32 → Option β} (hs : s < 5) : dm_at (Int32.ofNat s) (dm_tb L xs 1).1 (dm_tb L xs 1).2 K = K (loP s) := at_k (m := 5) (by omega) hs
theorem at_2 {β : Type} {s : Nat} {K : Int32 → Option β} (hs : s < 5) : dm_at (Int32.ofNat s) (dm_tb L xs 2).1 (dm_tb L xs 2).2 K = K (hiP s) := at_k (m := 5) (by omega) hs
theorem kq_price (W : Wf P) (H : CN P A T w e n j fl tg c σ) (x y : Int32) : (okPr x y = false → dX (dm_tb L xs) (d + 2) 74 0 [.ref 0, .int x, .int y] [] (c, t, hp g (SH fl tg) σ) = some (some (.int 0), (c, t, hp g (SH fl tg) σ))) ∧ (okPr x y = true → ∃ τ, dX (dm_tb L xs) (d + 2) 74 0 [.ref 0, .int x, .int y] [] (c, t, hp g (SH fl tg) σ) = some (some (.int 1), (c, t, hp g (SH fl tg) τ)) ∧ CN (prP P (tN x) (tN y)) A T w e n j fl tg c τ ∧ ∀ a, 270 ≤ a → τ a = σ a) := by
  have hm := W.1
  obtain ⟨C, Lc, Hh, h4, h5, h6, h7, h8, h9, h10, h11, h12⟩ := H
  unfold okPr
  constructor
  · intro hq
    rw [sg_X6_price_0]
    simp (disch := omega) only [bq_s, aq_I, aq_R, aq_V, cq_t, cq_f, if_true, if_false, Bool.true_and, Bool.and_true, Bool.or_true, Bool.true_or, gi_1_3, gi_s, pi_1_3, pi_s, gr_0_0, gr_0_1, gr_0_2, gr_0_3, gr_1_0, gr_1_1, gr_1_2, gr_s_7, gr_s_8, gr_s_9, gr_s_10, ld_3, ld_4, ld_x, ld_y, ld_u, ld_v, sv_3, sv_4, sv_x, sv_y, sv_u, sv_v, is_0, is_1, is_s, lr_2, gi_45_0, gi_45_1, gi_45_2, gi_45_3, gi_59_0, gi_59_1, gi_59_2, gi_59_3, gi_57_3, gi_57_4, gi_57_6, gi_57_8, gi_57_9, gi_57_10, gi_57_11, gi_57_12, gi_57_13, gi_57_14, gi_l, pi_45_0, pi_45_1, pi_45_2, pi_45_3, pi_59_0, pi_59_1, pi_59_2, pi_59_3, pi_57_3, pi_57_4, pi_57_6, pi_57_8, pi_57_9, pi_57_10, pi_57_11, pi_57_12, pi_57_13, pi_57_14, pi_l, gr_57_0, gr_57_1, gr_57_2, gr_57_5, gr_57_7, ld_60, sv_60, is_45, is_59, is_57, is_l, lr_58, ia_0, ia_1, is_m0, is_m1, im_8, ml_8, im_11, ml_11, im_12, ml_12, im_88, ml_88, im_89, ml_89, j_lt_0, j_gt_0, j_le_0, j_ge_0, j_eq_0, j_lt_1, j_gt_1, j_le_1, j_ge_1, j_eq_1, j_lt_2, j_gt_2, j_le_2, j_ge_2, j_eq_2, j_lt_3, j_gt_3, j_le_3, j_ge_3, j_eq_3, j_lt_4, j_gt_4, j_le_4, j_ge_4, j_eq_4, j_lt_5, j_gt_5, j_le_5, j_ge_5, j_eq_5, j_lt_6, j_gt_6, j_le_6, j_ge_6, j_eq_6, j_lt_8, j_gt_8, j_le_8, j_ge_8, j_eq_8, j_lt_12, j_gt_12, j_le_12, j_ge_12, j_eq_12, j_lt_209, j_gt_209, j_le_209, j_ge_209, j_eq_209, j_lt_255, j_gt_255, j_le_255, j_ge_255, j_eq_255, j_lt_1000000000, j_gt_1000000000, j_le_1000000000, j_ge_1000000000, j_eq_1000000000, h4, kw_4, bI_0]
    cases q2 : inR 5 x
    · rw [if_pos rfl]
    · rw [if_neg (by decide)]
      rw [q2, Bool.true_and] at hq
      obtain ⟨s, hs, rfl, es⟩ := inR_ex (by omega) q2
      rw [es] at hq
      rw [at_1 hs, at_2 hs, kw_b, hq]
      simp only [bq_s, aq_I, aq_R, aq_V, cq_t, cq_f, if_true, if_false, Bool.true_and, Bool.and_true, Bool.or_true, Bool.true_or, bI_0]
  · intro hq
    rw [Bool.and_eq_true] at hq
    obtain ⟨q2, q3⟩ := hq
    obtain ⟨s, hs, rfl, es⟩ := inR_ex (by omega) q2
    rw [es] at q3 ⊢
    obtain ⟨ey, W'⟩ := prP_ok W hs q3
    refine ⟨up2 (up2 σ 46 10 0) 4 s y, ?_, ⟨⟨?_, ?_, ?_, ?_⟩, ?_, ?_, ?_, ?_, ?_, ?_, ?_, ?_, ?_, ?_, h12⟩, ?_⟩
    · rw [sg_X6_price_0]
      simp (disch := omega) only [bq_s, aq_I, aq_R, aq_V, cq_t, cq_f, if_true, if_false, Bool.true_and, Bool.and_true, Bool.or_true, Bool.true_or, gi_1_3, gi_s, pi_1_3, pi_s, gr_0_0, gr_0_1, gr_0_2, gr_0_3, gr_1_0, gr_1_1, gr_1_2, gr_s_7, gr_s_8, gr_s_9, gr_s_10, ld_3, ld_4, ld_x, ld_y, ld_u, ld_v, sv_3, sv_4, sv_x, sv_y, sv_u, sv_v, is_0, is_1, is_s, lr_2, gi_45_0, gi_45_1, gi_45_2, gi_45_3, gi_59_0, gi_59_1, gi_59_2, gi_59_3, gi_57_3, gi_57_4, gi_57_6, gi_57_8, gi_57_9, gi_57_10, gi_57_11, gi_57_12, gi_57_13, gi_57_14, gi_l, pi_45_0, pi_45_1, pi_45_2, pi_45_3, pi_59_0, pi_59_1, pi_59_2, pi_59_3, pi_57_3, pi_57_4, pi_57_6, pi_57_8, pi_57_9, pi_57_10, pi_57_11, pi_57_12, pi_57_13, pi_57_14, pi_l, gr_57_0, gr_57_1, gr_57_2, gr_57_5, gr_57_7, ld_60, sv_60, is_45, is_59, is_57, is_l, lr_58, ia_0, ia_1, is_m0, is_m1, im_8, ml_8, im_11, ml_11, im_12, ml_12, im_88, ml_88, im_89, ml_89, j_lt_0, j_gt_0, j_le_0, j_ge_0, j_eq_0, j_lt_1, j_gt_1, j_le_1, j_ge_1, j_eq_1, j_lt_2, j_gt_2, j_le_2, j_ge_2, j_eq_2, j_lt_3, j_gt_3, j_le_3, j_ge_3, j_eq_3, j_lt_4, j_gt_4, j_le_4, j_ge_4, j_eq_4, j_lt_5, j_gt_5, j_le_5, j_ge_5, j_eq_5, j_lt_6, j_gt_6, j_le_6, j_ge_6, j_eq_6, j_lt_8, j_gt_8, j_le_8, j_ge_8, j_eq_8, j_lt_12, j_gt_12, j_le_12, j_ge_12, j_eq_12, j_lt_209, j_gt_209, j_le_209, j_ge_209, j_eq_209, j_lt_255, j_gt_255, j_le_255, j_ge_255, j_eq_255, j_lt_1000000000, j_gt_1000000000, j_le_1000000000, j_ge_1000000000, j_eq_1000000000, h4, kw_4, bI_0, q2, Bool.true_eq_false]
      rw [at_1 hs, at_2 hs, kw_b, q3]
      simp (disch := omega) only [bq_s, aq_I, aq_R, aq_V, cq_t, cq_f, if_true, if_false, Bool.true_and, Bool.and_true, Bool.or_true, Bool.true_or, gi_1_3, gi_s, pi_1_3, pi_s, gr_0_0, gr_0_1, gr_0_2, gr_0_3, gr_1_0, gr_1_1, gr_1_2, gr_s_7, gr_s_8, gr_s_9, gr_s_10, ld_3, ld_4, ld_x, ld_y, ld_u, ld_v, sv_3, sv_4, sv_x, sv_y, sv_u, sv_v, is_0, is_1, is_s, lr_2, gi_45_0, gi_45_1, gi_45_2, gi_45_3, gi_47_0, gi_47_1, gi_47_2, gi_47_3, gi_46_8, gi_46_9, gi_46_10, gi_46_15, gi_46_16, pi_45_0, pi_45_1, pi_45_2, pi_45_3, pi_47_0, pi_47_1, pi_47_2, pi_47_3, pi_46_8, pi_46_9, pi_46_10, pi_46_15, pi_46_16, gr_46_0, gr_46_1, gr_46_2, gr_46_3, gr_46_4, gr_46_5, gr_46_6, gr_46_7, gr_46_11, gr_46_12, gr_46_13, gr_46_14, ld_50, ld_51, ld_52, ld_53, ld_54, ld_55, ld_56, ld_t, ld_b, sv_50, sv_51, sv_52, sv_53, sv_54, sv_55, sv_56, sv_t, sv_b, is_45, is_47, is_46, ia_0, ia_1, is_m0, is_m1, im_8, ml_8, im_11, ml_11, im_12, ml_12, im_88, ml_88, im_89, ml_89, j_lt_0, j_gt_0, j_le_0, j_ge_0, j_eq_0, j_lt_1, j_gt_1, j_le_1, j_ge_1, j_eq_1, j_lt_2, j_gt_2, j_le_2, j_ge_2, j_eq_2, j_lt_3, j_gt_3, j_le_3, j_ge_3, j_eq_3, j_lt_4, j_gt_4, j_le_4, j_ge_4, j_eq_4, j_lt_5, j_gt_5, j_le_5, j_ge_5, j_eq_5, j_lt_6, j_gt_6, j_le_6, j_ge_6, j_eq_6, j_lt_8, j_gt_8, j_le_8, j_ge_8, j_eq_8, j_lt_12, j_gt_12, j_le_12, j_ge_12, j_eq_12, j_lt_209, j_gt_209, j_le_209, j_ge_209, j_eq_209, j_lt_255, j_gt_255, j_le_255, j_ge_255, j_eq_255, j_lt_1000000000, j_gt_1000000000, j_le_1000000000, j_ge_1000000000, j_eq_1000000000, bI_0, Bool.true_eq_false, sg_X2_forget_0]
    · simp (disch := omega) only [up2_row]; exact C.1
    · intro k hk
      rw [prP_pr]
      by_cases h : k = s
      · subst h; rw [up2_s, if_pos rfl]; exact ey
      · rw [if_neg h]; simp (disch := omega) only [up2_n, up2_row]; exact C.2.1 k hk
    · intro v hv
      have hv' : v < pM P := hv
      obtain ⟨b0, b1, b2, b4, b5, b6⟩ := C.2.2.1 v hv
      have rx := xA_r fl v
      have ry := yA_r fl v
      unfold StC
      simp (disch := omega) only [up2_row]
      exact ⟨b0, b1, b2, b4, b5, b6⟩
    · intro v hv; simp (disch := omega) only [up2_row]; rw [C.2.2.2 v hv]; rfl
    · intro v hv
      have hv' : v < pM P := hv
      simp (disch := omega) only [up2_row]; exact Lc v hv
    · exact HdC_congr (by simp (disch := omega) only [up2_row]) Hh
    · simp (disch := omega) only [up2_row]; exact h4
    · simp (disch := omega) only [up2_row]; exact h5
    · simp (disch := omega) only [up2_row]; exact h6
    · simp (disch := omega) only [up2_row]; exact h7
    · intro v hv
      have hv' : v < pM P := hv
      simp (disch := omega) only [up2_row]; exact h8 v hv
    · simp (disch := omega) only [up2_row]; exact h9
    · simp (disch := omega) only [up2_row]; exact h10
    · left; simp (disch := omega) only [up2_row, up2_s]
    · intro a ha; simp (disch := omega) only [up2_row]
theorem mq_prR (h23 : σ 270 23 = 0) {s : Nat} (hs : s < 5) (y : Int32) : dX tb (d + 1) 100 0 [.ref 270, .int (Int32.ofNat s), .int y] [] (c, t, hp g (SH fl tg) σ) = bif inB (loP s) (hiP s) y then some (some (.int 1), (c, t, hp g (SH fl tg) (up2 (up2 σ 270 0 0) 276 s y))) else some (some (.int 0), (c, t, hp g (SH fl tg) (up2 σ 270 0 0))) := by
  rw [sg_X7_price_0]
  have q2 := (inR_of (m := 5) (by omega) hs).1
  rw [pi_270_0, bq_s, gi_270_23, bq_s, up2_n _ _ (by omega), h23, if_pos rfl, mw_4, aq_I, q2, if_neg (by decide)]
  match s, hs with
  | 0, _ =>
    show _ = bif inB 1 9 y then _ else _
    rw [if_neg (by decide), if_neg (by decide), mw_b, aq_I]; cases inB 1 9 y
    · rw [if_pos (by decide)]; rfl
    · rw [if_neg (by decide), gr_270_6, bq_s, sv_276 (by omega), bq_s]; rfl
  | 1, _ =>
    show _ = bif inB 1 9 y then _ else _
    rw [if_neg (by decide), if_neg (by decide), mw_b, aq_I]; cases inB 1 9 y
    · rw [if_pos (by decide)]; rfl
    · rw [if_neg (by decide), gr_270_6, bq_s, sv_276 (by omega), bq_s]; rfl
  | 2, _ =>
    show _ = bif inB 0 99 y then _ else _
    rw [if_pos (by decide), if_pos (by decide), if_neg (by decide), mw_b, aq_I]; cases inB 0 99 y
    · rw [if_pos (by decide)]; rfl
    · rw [if_neg (by decide), gr_270_6, bq_s, sv_276 (by omega), bq_s]; rfl
  | 3, _ =>
    show _ = bif inB 0 999 y then _ else _
    rw [if_pos (by decide), if_pos (by decide), if_pos (by decide), mw_b, aq_I]; cases inB 0 999 y
    · rw [if_pos (by decide)]; rfl
    · rw [if_neg (by decide), gr_270_6, bq_s, sv_276 (by omega), bq_s]; rfl
  | 4, _ =>
    show _ = bif inB 0 99 y then _ else _
    rw [if_pos (by decide), if_pos (by decide), if_neg (by decide), mw_b, aq_I]; cases inB 0 99 y
    · rw [if_pos (by decide)]; rfl
    · rw [if_neg (by decide), gr_270_6, bq_s, sv_276 (by omega), bq_s]; rfl
theorem mq_price (W : Wf P) (H : MN P A T w e n j σ) (x y : Int32) : (okPr x y = false → dX tb (d + 1) 100 0 [.ref 270, .int x, .int y] [] (c, t, hp g (SH fl tg) σ) = some (some (.int 0), (c, t, hp g (SH fl tg) (up2 σ 270 0 0)))) ∧ (okPr x y = true → ∃ τ, dX tb (d + 1) 100 0 [.ref 270, .int x, .int y] [] (c, t, hp g (SH fl tg) σ) = some (some (.int 1), (c, t, hp g (SH fl tg) τ)) ∧ MN (prP P (tN x) (tN y)) A T w e n j τ ∧ ∀ a, a < 270 ∨ 295 ≤ a → τ a = σ a) := by
  obtain ⟨C, hA, h23, h36, ⟨l, l1, l2⟩, hE, h14, h15⟩ := H
  unfold okPr
  constructor
  · intro hq
    cases q2 : inR 5 x
    · rw [sg_X7_price_0]
      simp (disch := omega) only [bq_s, aq_I, aq_R, aq_V, cq_t, cq_f, if_true, if_false, Bool.true_and, Bool.and_true, Bool.or_true, Bool.true_or, gi_270_0, gi_270_10, gi_270_11, gi_270_12, gi_270_13, gi_270_14, gi_270_15, gi_270_21, gi_270_22, gi_270_23, gi_270_34, gi_270_35, gi_270_36, pi_270_0, pi_270_10, pi_270_11, pi_270_12, pi_270_13, pi_270_14, pi_270_15, pi_270_21, pi_270_22, pi_270_23, pi_270_34, pi_270_35, pi_270_36, gr_270_1, gr_270_2, gr_270_3, gr_270_4, gr_270_5, gr_270_6, gr_270_7, gr_270_8, gr_270_9, gr_270_16, gr_270_17, gr_270_18, gr_270_19, gr_270_20, gr_270_24, gr_270_25, gr_270_26, gr_270_27, gr_270_28, gr_270_29, gr_270_30, gr_270_31, gr_270_32, gr_270_33, ld_271, ld_272, ld_273, ld_274, ld_275, ld_276, ld_277, ld_278, ld_279, ld_280, ld_281, ld_282, ld_283, ld_284, ld_285, ld_286, ld_287, ld_288, ld_289, ld_290, ld_291, ld_292, ld_293, ld_294, sv_271, sv_272, sv_273, sv_274, sv_275, sv_276, sv_277, sv_278, sv_279, sv_280, sv_281, sv_282, sv_283, sv_284, sv_285, sv_286, sv_287, sv_288, sv_289, sv_290, sv_291, sv_292, sv_293, sv_294, is_270, ia_0, ia_1, is_m0, is_m1, im_8, ml_8, im_11, ml_11, im_12, ml_12, im_88, ml_88, im_89, ml_89, j_lt_0, j_gt_0, j_le_0, j_ge_0, j_eq_0, j_lt_1, j_gt_1, j_le_1, j_ge_1, j_eq_1, j_lt_2, j_gt_2, j_le_2, j_ge_2, j_eq_2, j_lt_3, j_gt_3, j_le_3, j_ge_3, j_eq_3, j_lt_4, j_gt_4, j_le_4, j_ge_4, j_eq_4, j_lt_5, j_gt_5, j_le_5, j_ge_5, j_eq_5, j_lt_6, j_gt_6, j_le_6, j_ge_6, j_eq_6, j_lt_8, j_gt_8, j_le_8, j_ge_8, j_eq_8, j_lt_12, j_gt_12, j_le_12, j_ge_12, j_eq_12, j_lt_209, j_gt_209, j_le_209, j_ge_209, j_eq_209, j_lt_255, j_gt_255, j_le_255, j_ge_255, j_eq_255, j_lt_1000000000, j_gt_1000000000, j_le_1000000000, j_ge_1000000000, j_eq_1000000000, up2_n, h23, mw_4, bI_0, q2]
    · rw [q2, Bool.true_and] at hq
      obtain ⟨s, hs, rfl, es⟩ := inR_ex (by omega) q2
      rw [es] at hq
      rw [mq_prR h23 hs, hq]; rfl
  · intro hq
    rw [Bool.and_eq_true] at hq
    obtain ⟨q2, q3⟩ := hq
    obtain ⟨s, hs, rfl, es⟩ := inR_ex (by omega) q2
    rw [es] at q3 ⊢
    obtain ⟨ey, W'⟩ := prP_ok W hs q3
    refine ⟨up2 (up2 σ 270 0 0) 276 s y, by rw [mq_prR h23 hs, q3]; rfl, ⟨⟨?_, ?_, ?_, ?_⟩, ?_, ?_, ?_, ⟨l, PhM_congr (fun a a1 a2 => ?_) ?_ ?_ l1, l2⟩, ?_, ?_, ?_⟩, ?_⟩
    · simp (disch := omega) only [up2_n, up2_row]; exact C.1
    · intro k hk
      rw [prP_pr]
      by_cases h : k = s
      · subst h; rw [up2_s, if_pos rfl]; exact ey
      · rw [if_neg h]; simp (disch := omega) only [up2_n, up2_row]; exact C.2.1 k hk
    · intro v hv
      unfold StM
      simp (disch := omega) only [up2_row]
      exact C.2.2.1 v hv
    · intro v o hv ho; simp (disch := omega) only [up2_row]; exact C.2.2.2 v o hv ho
    · unfold ArM; simp (disch := omega) only [up2_n, up2_row]; exact hA
    · simp (disch := omega) only [up2_n, up2_row]; exact h23
    · simp (disch := omega) only [up2_n, up2_row]; exact h36
    · simp (disch := omega) only [up2_row]
    · simp (disch := omega) only [up2_n, up2_row]
    · simp (disch := omega) only [up2_n, up2_row]
    · intro v hv; simp (disch := omega) only [up2_row]; exact hE v hv
    · simp (disch := omega) only [up2_n, up2_row]; exact h14
    · simp (disch := omega) only [up2_n, up2_row]; exact h15
    · intro a ha; simp (disch := omega) only [up2_row]
end PRI
