/-! BOTH HALVES OF THE HEAP, while no run goes on; and what changes the sheet -/
section REL
def CN (P : dP) (A : dA) (T w : Nat) (e : Nat → Option Nat) (n j : Int32) (fl : Nat → Bool) (tg c : Nat) (σ : dSg) : Prop :=
  ShC P fl σ ∧ LfC P (pLf P) σ ∧ HdC 45 σ A.1 A.2.1 A.2.2 false ∧ σ 57 11 = 0 ∧ (∃ L L', L ≤ L' ∧ L' ≤ 209 ∧ σ 57 3 = Int32.ofNat L ∧ σ 57 4 = Int32.ofNat L') ∧ σ 57 12 = Int32.ofNat T ∧ σ 57 10 = Int32.ofNat w ∧ (∀ s, s < pM P → σ (5 + 5 * s) 6 = encE (e s)) ∧ σ 57 13 = n ∧ σ 57 14 = j ∧ (σ 46 10 = 0 ∨ (σ 46 10 = 1 ∧ ∃ sum k os ob, IsPl P A sum k os ob ∧ PlC P A sum k os ob σ ∧ bnd 0 sum)) ∧ TgO tg c
def MN (P : dP) (A : dA) (T w : Nat) (e : Nat → Option Nat) (n j : Int32) (σ : dSg) : Prop :=
  ShM P σ ∧ ArM A σ ∧ σ 270 23 = 0 ∧ σ 270 36 = Int32.ofNat T ∧ (∃ l, PhM l σ ∧ l.length ≤ 209 ∧ tot l ≤ 1000000 ∧ (∀ f, f ∈ l → fK f ≤ 6) ∧ w = wtT T 0 l) ∧ EnM P e σ ∧ σ 270 14 = n ∧ σ 270 15 = j
def Ok0 (P : dP) (A : dA) (T : Nat) (e : Nat → Option Nat) : Prop := Wf P ∧ A.1 ≤ 500 ∧ A.2.1 ≤ 500 ∧ T ≤ 1000000 ∧ ∀ s x, e s = some x → x ≤ T
variable {tb : dT} {d c t : Nat} {g : Nat → Option dE} {fl : Nat → Bool} {tg : Nat} {σ : dSg} {P : dP} {A : dA} {T w : Nat} {e : Nat → Option Nat} {n j : Int32}
/-- the class's half speaks of its own cells -/
theorem CN_congr {τ : dSg} {c' : Nat} (W : Wf P) (h : ∀ a, a < 270 → τ a = σ a) (hc : c ≤ c') (H : CN P A T w e n j fl tg c σ) : CN P A T w e n j fl tg c' τ := by
  obtain ⟨h1, h2, h3, h4, h5, h6, h7, h8, h9, h10, h11, h12⟩ := H
  have hm := W.1
  refine ⟨ShC_congr W h1 fun a ha => h a (by omega), LfC_congr W h2 fun a ha => h a (by omega), HdC_congr (h 45 (by omega)) h3, ?_, ?_, ?_, ?_, fun s hs => ?_, ?_, ?_, ?_, ?_⟩
  · rw [h 57 (by omega)]; exact h4
  · rw [h 57 (by omega)]; exact h5
  · rw [h 57 (by omega)]; exact h6
  · rw [h 57 (by omega)]; exact h7
  · rw [h _ (by omega)]; exact h8 s hs
  · rw [h 57 (by omega)]; exact h9
  · rw [h 57 (by omega)]; exact h10
  · unfold PlC OrC
    rw [h 46 (by omega), h 53 (by omega), h 54 (by omega), h 55 (by omega), h 56 (by omega)]; exact h11
  · rcases h12 with q | q
    · exact Or.inl q
    · exact Or.inr ⟨q.1, by omega⟩
theorem MN_congr {τ : dSg} (h : ∀ a, 270 < a → a < 295 → τ a = σ a) (h2 : ∀ k, k ≠ 0 → τ 270 k = σ 270 k) (H : MN P A T w e n j σ) : MN P A T w e n j τ := by
  obtain ⟨h1, h3, h4, h5, ⟨l, l1, l2⟩, h6, h7, h8⟩ := H
  refine ⟨ShM_congr h1 (fun a a1 a2 => h a (by omega) (by omega)) (h2 10 (by decide)), ?_, ?_, ?_, ⟨l, PhM_congr (fun a a1 a2 => h a (by omega) (by omega)) (h2 34 (by decide)) (h2 35 (by decide)) l1, l2⟩, fun s hs => ?_, ?_, ?_⟩
  · unfold ArM; rw [h2 11 (by decide), h2 12 (by decide), h2 13 (by decide)]; exact h3
  · rw [h2 23 (by decide)]; exact h4
  · rw [h2 36 (by decide)]; exact h5
  · rw [h 294 (by omega) (by omega)]; exact h6 s hs
  · rw [h2 14 (by decide)]; exact h7
  · rw [h2 15 (by decide)]; exact h8
/-! stroke -/
def strP (P : dP) (pen wet : Nat) : dP := (pM P + 1, fun v => if v = pM P then 0 else P.2.1 v, P.2.2.1, P.2.2.2.1, fun v => if v = pM P then pen else P.2.2.2.2.1 v, fun v => if v = pM P then wet else P.2.2.2.2.2.1 v, fun v => if v = pM P then true else P.2.2.2.2.2.2.1 v, fun v => if v = pM P then false else P.2.2.2.2.2.2.2.1 v, P.2.2.2.2.2.2.2.2.1, P.2.2.2.2.2.2.2.2.2)
theorem strP_N {pen wet : Nat} (v : Nat) : pN (strP P pen wet) v = if v = pM P then 0 else pN P v := rfl
theorem strP_pen {pen wet : Nat} (v : Nat) : pPen (strP P pen wet) v = if v = pM P then pen else pPen P v := rfl
theorem strP_wet {pen wet : Nat} (v : Nat) : pWet (strP P pen wet) v = if v = pM P then wet else pWet P v := rfl
theorem strP_lf {pen wet : Nat} (v : Nat) : pLf (strP P pen wet) v = if v = pM P then true else pLf P v := rfl
theorem strP_cut {pen wet : Nat} (v : Nat) : pCut (strP P pen wet) v = if v = pM P then false else pCut P v := rfl
theorem strP_clo {pen wet : Nat} (v : Nat) : clo (strP P pen wet) v = if v = pM P then false else clo P v := by
  unfold clo
  by_cases h : v = pM P
  · rw [if_pos h, strP_N, if_pos h, decide_eq_false (by omega), Bool.false_and, Bool.and_false]
  · rw [if_neg h, strP_N, if_neg h, strP_cut, if_neg h]; rfl
theorem strP_Wf (W : Wf P) {pen wet : Nat} (h8 : pM P < 8) (hp : pen ≤ 3) (hw : wet ≤ 1000) : Wf (strP P pen wet) := by
  refine ⟨by show pM P + 1 ≤ 8; omega, fun v hv => ?_, W.2.2.1, W.2.2.2.1, W.2.2.2.2.1, W.2.2.2.2.2.1, W.2.2.2.2.2.2.1, fun s o ho => ?_⟩
  · have hv' : v < pM P + 1 := hv
    by_cases h : v = pM P
    · refine ⟨?_, ?_, ?_, fun k hk => ?_, fun k hk => ?_⟩
      · rw [strP_N, if_pos h]; omega
      · rw [strP_pen, if_pos h]; exact hp
      · rw [strP_wet, if_pos h]; exact hw
      · rw [strP_N, if_pos h] at hk; omega
      · rw [strP_N, if_pos h] at hk; omega
    · have := W.2.1 v (by omega)
      refine ⟨?_, ?_, ?_, fun k hk => ?_, fun k hk => ?_⟩
      · rw [strP_N, if_neg h]; exact this.1
      · rw [strP_pen, if_neg h]; exact this.2.1
      · rw [strP_wet, if_neg h]; exact this.2.2.1
      · rw [strP_N, if_neg h] at hk; exact this.2.2.2.1 k hk
      · rw [strP_N, if_neg h] at hk; exact this.2.2.2.2 k hk
  · have := W.2.2.2.2.2.2.2 s o ho
    exact ⟨by show s < pM P + 1; omega, by show o < pM P + 1; omega, this.2.2⟩
theorem ovm_strP {pen wet : Nat} (v : Nat) : ∀ o, ovm (strP P pen wet) v o = ovm P v o := by
  intro o
  induction o with
  | zero => rfl
  | succ o ih => show ovm (strP P pen wet) v o + _ = ovm P v o + _; rw [ih]; rfl
def okSt (P : dP) (x y : Int32) : Bool := decide (pM P < 8) && (inR 4 x && inR 1001 y)
theorem kw_3 (x : Int32) (h : dH) : dX tb d 87 0 [.int x, .int 0, .int 3] [] h = some (some (.int (bI (inR 4 x))), h) := kw_m (m := 4) (by decide) x h
theorem kw_1000 (x : Int32) (h : dH) : dX tb d 87 0 [.int x, .int 0, .int 1000] [] h = some (some (.int (bI (inR 1001 x))), h) := kw_m (m := 1001) (by decide) x h
theorem kw_500 (x : Int32) (h : dH) : dX tb d 87 0 [.int x, .int 0, .int 500] [] h = some (some (.int (bI (inR 501 x))), h) := kw_m (m := 501) (by decide) x h
theorem kw_4 (x : Int32) (h : dH) : dX tb d 87 0 [.int x, .int 0, .int 4] [] h = some (some (.int (bI (inR 5 x))), h) := kw_m (m := 5) (by decide) x h
theorem kw_10000 (x : Int32) (h : dH) : dX tb d 87 0 [.int x, .int 0, .int 10000] [] h = some (some (.int (bI (inR 10001 x))), h) := kw_m (m := 10001) (by decide) x h
theorem mw_3 (x : Int32) (h : dH) : dX tb d 91 0 [.int x, .int 0, .int 3] [] h = some (some (.int (bI (inR 4 x))), h) := mw_m (m := 4) (by decide) x h
theorem mw_1000 (x : Int32) (h : dH) : dX tb d 91 0 [.int x, .int 0, .int 1000] [] h = some (some (.int (bI (inR 1001 x))), h) := mw_m (m := 1001) (by decide) x h
theorem mw_500 (x : Int32) (h : dH) : dX tb d 91 0 [.int x, .int 0, .int 500] [] h = some (some (.int (bI (inR 501 x))), h) := mw_m (m := 501) (by decide) x h
theorem mw_4 (x : Int32) (h : dH) : dX tb d 91 0 [.int x, .int 0, .int 4] [] h = some (some (.int (bI (inR 5 x))), h) := mw_m (m := 5) (by decide) x h
theorem mw_10000 (x : Int32) (h : dH) : dX tb d 91 0 [.int x, .int 0, .int 10000] [] h = some (some (.int (bI (inR 10001 x))), h) := mw_m (m := 10001) (by decide) x h
theorem kq_stroke (W : Wf P) (H : CN P A T w e n j fl tg c σ) (x y : Int32) : (okSt P x y = false → dX tb (d + 2) 71 0 [.ref 0, .int x, .int y] [] (c, t, hp g (SH fl tg) σ) = some (some (.int (-1)), (c, t, hp g (SH fl tg) σ))) ∧ (okSt P x y = true → ∃ τ, dX tb (d + 3) 71 0 [.ref 0, .int x, .int y] [] (c, t, hp g (SH fl tg) σ) = some (some (.int (Int32.ofNat (pM P))), (c, t, hp g (SH fl tg) τ)) ∧ CN (strP P (tN x) (tN y)) A T w (fun v => if v = pM P then none else e v) n j fl tg c τ ∧ ∀ a, 270 ≤ a → τ a = σ a) := by
  have hm := W.1
  obtain ⟨C, L, Hh, h4, h5, h6, h7, h8, h9, h10, h11, h12⟩ := H
  unfold okSt
  constructor
  · intro hq
    rw [sg_X6_stroke_0]
    simp (disch := omega) only [bq_s, aq_I, aq_R, aq_V, cq_t, cq_f, if_true, if_false, Bool.true_and, Bool.and_true, Bool.or_true, Bool.true_or, gi_1_3, gi_s, pi_1_3, pi_s, gr_0_0, gr_0_1, gr_0_2, gr_0_3, gr_1_0, gr_1_1, gr_1_2, gr_s_7, gr_s_8, gr_s_9, gr_s_10, ld_3, ld_4, ld_x, ld_y, ld_u, ld_v, sv_3, sv_4, sv_x, sv_y, sv_u, sv_v, is_0, is_1, is_s, lr_2, gi_45_0, gi_45_1, gi_45_2, gi_45_3, gi_59_0, gi_59_1, gi_59_2, gi_59_3, gi_57_3, gi_57_4, gi_57_6, gi_57_8, gi_57_9, gi_57_10, gi_57_11, gi_57_12, gi_57_13, gi_57_14, gi_l, pi_45_0, pi_45_1, pi_45_2, pi_45_3, pi_59_0, pi_59_1, pi_59_2, pi_59_3, pi_57_3, pi_57_4, pi_57_6, pi_57_8, pi_57_9, pi_57_10, pi_57_11, pi_57_12, pi_57_13, pi_57_14, pi_l, gr_57_0, gr_57_1, gr_57_2, gr_57_5, gr_57_7, ld_60, sv_60, is_45, is_59, is_57, is_l, lr_58, ia_0, ia_1, is_m0, is_m1, im_8, ml_8, im_11, ml_11, im_12, ml_12, im_88, ml_88, im_89, ml_89, j_lt_0, j_gt_0, j_le_0, j_ge_0, j_eq_0, j_lt_1, j_gt_1, j_le_1, j_ge_1, j_eq_1, j_lt_2, j_gt_2, j_le_2, j_ge_2, j_eq_2, j_lt_3, j_gt_3, j_le_3, j_ge_3, j_eq_3, j_lt_4, j_gt_4, j_le_4, j_ge_4, j_eq_4, j_lt_5, j_gt_5, j_le_5, j_ge_5, j_eq_5, j_lt_6, j_gt_6, j_le_6, j_ge_6, j_eq_6, j_lt_8, j_gt_8, j_le_8, j_ge_8, j_eq_8, j_lt_12, j_gt_12, j_le_12, j_ge_12, j_eq_12, j_lt_209, j_gt_209, j_le_209, j_ge_209, j_eq_209, j_lt_255, j_gt_255, j_le_255, j_ge_255, j_eq_255, j_lt_1000000000, j_gt_1000000000, j_le_1000000000, j_ge_1000000000, j_eq_1000000000, h4, C.1, kw_3, kw_1000, bI_0]
    by_cases q1 : pM P < 8
    · rw [if_pos q1]
      rw [decide_eq_true q1, Bool.true_and] at hq
      cases q2 : inR 4 x
      · rw [if_pos rfl]
      · rw [if_neg (by decide)]
        rw [q2, Bool.true_and] at hq
        rw [hq, if_pos rfl]
    · rw [if_neg q1]
  · intro hq
    rw [Bool.and_eq_true, Bool.and_eq_true, decide_eq_true_eq] at hq
    obtain ⟨q1, q2, q3⟩ := hq
    obtain ⟨p, hp3, rfl, ep⟩ := inR_ex (by omega) q2
    obtain ⟨u, hu, rfl, eu⟩ := inR_ex (by omega) q3
    rw [ep, eu]
    have C1 := C.1
    refine ⟨up2 (up2 (up2 (up2 (up2 (up2 (up2 (up2 (up2 σ 46 10 0) (5 + 5 * pM P) 0 (Int32.ofNat p)) (5 + 5 * pM P) 1 (Int32.ofNat u)) (5 + 5 * pM P) 2 0) (5 + 5 * pM P) 3 1) (5 + 5 * pM P) 4 0) (5 + 5 * pM P) 5 0) (5 + 5 * pM P) 6 (-1)) 1 3 (Int32.ofNat (pM P + 1)), ?_, ⟨⟨?_, ?_, ?_, ?_⟩, ?_, ?_, ?_, ?_, ?_, ?_, ?_, ?_, ?_, ?_, h12⟩, ?_⟩
    · rw [sg_X6_stroke_0]
      simp (disch := omega) only [bq_s, aq_I, aq_R, aq_V, cq_t, cq_f, if_true, if_false, Bool.true_and, Bool.and_true, Bool.or_true, Bool.true_or, gi_1_3, gi_s, pi_1_3, pi_s, gr_0_0, gr_0_1, gr_0_2, gr_0_3, gr_1_0, gr_1_1, gr_1_2, gr_s_7, gr_s_8, gr_s_9, gr_s_10, ld_3, ld_4, ld_x, ld_y, ld_u, ld_v, sv_3, sv_4, sv_x, sv_y, sv_u, sv_v, is_0, is_1, is_s, lr_2, gi_45_0, gi_45_1, gi_45_2, gi_45_3, gi_59_0, gi_59_1, gi_59_2, gi_59_3, gi_57_3, gi_57_4, gi_57_6, gi_57_8, gi_57_9, gi_57_10, gi_57_11, gi_57_12, gi_57_13, gi_57_14, gi_l, pi_45_0, pi_45_1, pi_45_2, pi_45_3, pi_59_0, pi_59_1, pi_59_2, pi_59_3, pi_57_3, pi_57_4, pi_57_6, pi_57_8, pi_57_9, pi_57_10, pi_57_11, pi_57_12, pi_57_13, pi_57_14, pi_l, gr_57_0, gr_57_1, gr_57_2, gr_57_5, gr_57_7, ld_60, sv_60, is_45, is_59, is_57, is_l, lr_58, ia_0, ia_1, is_m0, is_m1, im_8, ml_8, im_11, ml_11, im_12, ml_12, im_88, ml_88, im_89, ml_89, j_lt_0, j_gt_0, j_le_0, j_ge_0, j_eq_0, j_lt_1, j_gt_1, j_le_1, j_ge_1, j_eq_1, j_lt_2, j_gt_2, j_le_2, j_ge_2, j_eq_2, j_lt_3, j_gt_3, j_le_3, j_ge_3, j_eq_3, j_lt_4, j_gt_4, j_le_4, j_ge_4, j_eq_4, j_lt_5, j_gt_5, j_le_5, j_ge_5, j_eq_5, j_lt_6, j_gt_6, j_le_6, j_ge_6, j_eq_6, j_lt_8, j_gt_8, j_le_8, j_ge_8, j_eq_8, j_lt_12, j_gt_12, j_le_12, j_ge_12, j_eq_12, j_lt_209, j_gt_209, j_le_209, j_ge_209, j_eq_209, j_lt_255, j_gt_255, j_le_255, j_ge_255, j_eq_255, j_lt_1000000000, j_gt_1000000000, j_le_1000000000, j_ge_1000000000, j_eq_1000000000, h4, C1, kw_3, kw_1000, bI_0, q1, q2, q3, Bool.true_eq_false]
      simp (disch := omega) only [bq_s, aq_I, aq_R, aq_V, cq_t, cq_f, if_true, if_false, Bool.true_and, Bool.and_true, Bool.or_true, Bool.true_or, gi_1_3, gi_s, pi_1_3, pi_s, gr_0_0, gr_0_1, gr_0_2, gr_0_3, gr_1_0, gr_1_1, gr_1_2, gr_s_7, gr_s_8, gr_s_9, gr_s_10, ld_3, ld_4, ld_x, ld_y, ld_u, ld_v, sv_3, sv_4, sv_x, sv_y, sv_u, sv_v, is_0, is_1, is_s, lr_2, gi_45_0, gi_45_1, gi_45_2, gi_45_3, gi_47_0, gi_47_1, gi_47_2, gi_47_3, gi_46_8, gi_46_9, gi_46_10, gi_46_15, gi_46_16, pi_45_0, pi_45_1, pi_45_2, pi_45_3, pi_47_0, pi_47_1, pi_47_2, pi_47_3, pi_46_8, pi_46_9, pi_46_10, pi_46_15, pi_46_16, gr_46_0, gr_46_1, gr_46_2, gr_46_3, gr_46_4, gr_46_5, gr_46_6, gr_46_7, gr_46_11, gr_46_12, gr_46_13, gr_46_14, ld_50, ld_51, ld_52, ld_53, ld_54, ld_55, ld_56, ld_t, ld_b, sv_50, sv_51, sv_52, sv_53, sv_54, sv_55, sv_56, sv_t, sv_b, is_45, is_47, is_46, sg_X2_forget_0, sg_X4_addStroke_0, sg_X5_renew_0, up2_row, C1, ia_1, up2_s, is_m1, Nat.add_sub_cancel]
    · rw [up2_s]; rfl
    · intro k hk; simp (disch := omega) only [up2_row]; exact C.2.1 k hk
    · intro v hv
      have hv' : v < pM P + 1 := hv
      by_cases h : v = pM P
      · subst h
        refine ⟨?_, ?_, ?_, ?_, ?_, fun k hk => ?_⟩
        · simp (disch := omega) only [up2_n, up2_s]; rw [strP_pen, if_pos rfl]
        · simp (disch := omega) only [up2_n, up2_s]; rw [strP_wet, if_pos rfl]
        · simp (disch := omega) only [up2_n, up2_s]; rw [strP_N, if_pos rfl]; rfl
        · simp (disch := omega) only [up2_n, up2_s]; rw [strP_cut, if_pos rfl]; rfl
        · simp (disch := omega) only [up2_n, up2_s]; rw [strP_clo, if_pos rfl]; rfl
        · rw [strP_N, if_pos rfl] at hk; omega
      · obtain ⟨b0, b1, b2, b4, b5, b6⟩ := C.2.2.1 v (by omega)
        have rx := xA_r fl v
        have ry := yA_r fl v
        unfold StC
        simp (disch := omega) only [up2_row]
        rw [strP_pen, if_neg h, strP_wet, if_neg h, strP_N, if_neg h, strP_cut, if_neg h, strP_clo, if_neg h]
        exact ⟨b0, b1, b2, b4, b5, b6⟩
    · intro v hv
      simp (disch := omega) only [up2_row]
      rw [ovm_strP]; exact C.2.2.2 v hv
    · intro v hv
      have hv' : v < pM P + 1 := hv
      rw [strP_lf]
      by_cases h : v = pM P
      · subst h; simp (disch := omega) only [up2_n, up2_s]; rw [if_pos trivial]; rfl
      · simp (disch := omega) only [up2_row]; rw [if_neg h]; exact L v (by omega)
    · exact HdC_congr (by simp (disch := omega) only [up2_row]) Hh
    · simp (disch := omega) only [up2_row]; exact h4
    · simp (disch := omega) only [up2_row]; exact h5
    · simp (disch := omega) only [up2_row]; exact h6
    · simp (disch := omega) only [up2_row]; exact h7
    · intro v hv
      have hv' : v < pM P + 1 := hv
      by_cases h : v = pM P
      · subst h; simp (disch := omega) only [up2_n, up2_s]; rw [if_pos trivial]; rfl
      · simp (disch := omega) only [up2_row]; rw [if_neg h]; exact h8 v (by omega)
    · simp (disch := omega) only [up2_row]; exact h9
    · simp (disch := omega) only [up2_row]; exact h10
    · left; simp (disch := omega) only [up2_row, up2_s]
    · intro a ha; simp (disch := omega) only [up2_row]
end REL
