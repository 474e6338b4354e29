/-! THE CLASS LAYS ITS LEGS, second part -/
section CL2
variable {tb : dT} {d c t : Nat} {g : Nat → Option dE} {fl : Nat → Bool} {tg : Nat} {σ : dSg} {P : dP} {A : dA} {os ob : Nat → Nat}
theorem kc_ready59 {x y X Y p : Nat} {pen : Int32} {dwn : Bool} (h : HdC 59 σ x y pen dwn) (hx : x ≤ 500) (hy : y ≤ 500) (hX : X ≤ 500) (hY : Y ≤ 500) : dX tb d 4 0 [.ref 59, .int (Int32.ofNat X), .int (Int32.ofNat Y), .int (Int32.ofNat p)] [] (c, t, hp g (SH fl tg) σ) = some (some (.int (bI (dwn && (decide (pen = Int32.ofNat p) && (decide (x = X) && decide (y = Y)))))), (c, t, hp g (SH fl tg) σ)) := by
  obtain ⟨h0, h1, h2, h3⟩ := h
  rw [sg_X0_isReady_0]
  simp (disch := omega) only [bq_s, aq_I, aq_R, aq_V, cq_t, cq_f, if_true, if_false, Bool.true_and, Bool.and_true, Bool.or_true, Bool.true_or, gi_45_0, gi_45_1, gi_45_2, gi_45_3, gi_59_0, gi_59_1, gi_59_2, gi_59_3, gi_57_3, gi_57_4, gi_57_6, gi_57_8, gi_57_9, gi_57_10, gi_57_11, gi_57_12, gi_57_13, gi_57_14, gi_l, pi_45_0, pi_45_1, pi_45_2, pi_45_3, pi_59_0, pi_59_1, pi_59_2, pi_59_3, pi_57_3, pi_57_4, pi_57_6, pi_57_8, pi_57_9, pi_57_10, pi_57_11, pi_57_12, pi_57_13, pi_57_14, pi_l, gr_57_0, gr_57_1, gr_57_2, gr_57_5, gr_57_7, ld_60, sv_60, is_45, is_59, is_57, is_l, lr_58, h0, h1, h2, h3, bI_0, i_eq]
  cases dwn
  · rfl
  · rw [if_neg (by decide)]
    by_cases q1 : pen = Int32.ofNat p
    · rw [if_pos q1, decide_eq_true q1]
      by_cases q2 : x = X
      · rw [if_pos q2, decide_eq_true q2]
        by_cases q3 : y = Y
        · rw [if_pos q3, decide_eq_true q3]; rfl
        · rw [if_neg q3, decide_eq_false q3]; rfl
      · rw [if_neg q2, decide_eq_false q2]; rfl
    · rw [if_neg q1, decide_eq_false q1]; rfl
theorem HdC_congr {a x y : Nat} {pen : Int32} {dwn : Bool} {τ : dSg} (h : τ a = σ a) (H : HdC a σ x y pen dwn) : HdC a τ x y pen dwn := by unfold HdC; rw [h]; exact H
theorem kc_lb (C0 : ShC P fl σ) (W : Wf P) {s b x y : Nat} {pen : Int32} {dwn : Bool} (hs : s < pM P) (hb : b < bgn P s) (h2 : 2 ≤ pN P s) (hx : x ≤ 500) (hy : y ≤ 500) {l : List dF} (hl : l.length ≤ 204) (hP : LgC P l σ) (hd : HdC 59 σ x y pen dwn) : ∃ τ', dX tb (d + 4) 35 0 [.ref 57, .int (Int32.ofNat s), .int (Int32.ofNat b), .null, .null, .null] [] (c, t, hp g (SH fl tg) σ) = some (none, (c, t, hp g (SH fl tg) (τ'))) ∧ LgC P (l ++ bgP P s b x y pen dwn) τ' ∧ FrR σ τ' ∧ HdC 59 τ' (dXn P s b 0) (dYn P s b 0) (Int32.ofNat (pPen P s)) true ∧ τ' 60 = σ 60 := by
  have hm := W.1
  have X0 := dXn_le (b := b) (k := 0) W hs (by omega)
  have Y0 := dYn_le (b := b) (k := 0) W hs (by omega)
  have es := (encS_lt (show s < 8 by omega)).symm
  have h101 : ∀ (τ : dSg) (m : List dF), FrR σ τ → τ 60 = σ 60 → m.length ≤ 206 → LgC P m τ → HdC 59 τ x y pen dwn → ∃ τ', dX tb (d + 4) 35 101 [.ref 57, .int (Int32.ofNat s), .int (Int32.ofNat b), .ref (5 + 5 * s), .int (Int32.ofNat (dXn P s b 0)), .int (Int32.ofNat (dYn P s b 0))] [] (c, t, hp g (SH fl tg) τ) = some (none, (c, t, hp g (SH fl tg) (τ'))) ∧ LgC P (m ++ [(2, pPr P 1 * wayN x y (dXn P s b 0) (dYn P s b 0), s, b, 0, x, y, dXn P s b 0, dYn P s b 0, Int32.ofNat (pPen P s))] ++ [(3, pPr P 2, s, b, 0, dXn P s b 0, dYn P s b 0, dXn P s b 0, dYn P s b 0, Int32.ofNat (pPen P s))]) τ' ∧ FrR σ τ' ∧ HdC 59 τ' (dXn P s b 0) (dYn P s b 0) (Int32.ofNat (pPen P s)) true ∧ τ' 60 = σ 60 := by
    intro τ m u1 u2 u3 u4 u5
    have D := FrR_ShC W u1 C0
    obtain ⟨τ1, g1, g2, g3, g4, g5⟩ := kc_move (tb := tb) (d := d) (c := c) (t := t) (g := g) (fl := fl) (tg := tg) D W u4 (by omega) u5 hs hb (j := 0) (by omega) hx hy (2, pPr P 1 * wayN x y (dXn P s b 0) (dYn P s b 0), s, b, 0, x, y, dXn P s b 0, dYn P s b 0, Int32.ofNat (pPen P s)) (kd := 2) (u := pPr P 1) rfl ⟨rfl, rfl⟩ rfl ⟨rfl, rfl, rfl, rfl⟩ (Or.inl rfl) rfl
    have D1 := FrR_ShC W (FrR_trans u1 g3) C0
    obtain ⟨τ2, k1, k2, k3, k4, k5⟩ := kc_stand (tb := tb) (d := d + 2) (c := c) (t := t) (g := g) (fl := fl) (tg := tg) g2 (by rw [List.length_append, List.length_singleton]; omega) g4 (3, pPr P 2, s, b, 0, dXn P s b 0, dYn P s b 0, dXn P s b 0, dYn P s b 0, Int32.ofNat (pPen P s)) (kd := 3) (sd := Int32.ofNat s) (bd := Int32.ofNat b) (w := Int32.ofNat (pPr P 2)) rfl es rfl rfl ⟨rfl, rfl, rfl, rfl⟩ ⟨by show 3 ≠ 2; omega, by show 3 ≠ 5; omega⟩
    have D2 := FrR_ShC W (FrR_trans u1 (FrR_trans g3 k3)) C0
    have g1' : dX tb (d + 3) 40 0 [.ref 57, .int 2, .int (Int32.ofNat s), .int (Int32.ofNat b), .int 0, .int (Int32.ofNat (pPr P 1)), .null] [] (c, t, hp g (SH fl tg) τ) = some (none, (c, t, hp g (SH fl tg) τ1)) := g1
    have e0 := (D2.2.2.1 s hs).1
    have hm1 : ∀ a j v, a = 59 → LgC P (m ++ [(2, pPr P 1 * wayN x y (dXn P s b 0) (dYn P s b 0), s, b, 0, x, y, dXn P s b 0, dYn P s b 0, Int32.ofNat (pPen P s))] ++ [(3, pPr P 2, s, b, 0, dXn P s b 0, dYn P s b 0, dXn P s b 0, dYn P s b 0, Int32.ofNat (pPen P s))]) (up2 (up2 τ2 59 2 (Int32.ofNat (pPen P s))) a j v) := by
      intro a j v ha
      subst ha
      refine ⟨by simp (disch := omega) only [up2_row]; exact k2.1, by simp (disch := omega) only [up2_row]; exact k2.2.1, fun p f hp => ?_⟩
      simp (disch := omega) only [up2_row]
      exact k2.2.2 p f hp
    obtain ⟨d0, d1, d2, d3⟩ := HdC_congr k4 g4
    refine ⟨up2 (up2 τ2 59 2 (Int32.ofNat (pPen P s))) 59 3 1, ?_, hm1 59 3 1 rfl, FrR_trans u1 (FrR_trans g3 (FrR_trans k3 (FrR_trans (FrR_up (by omega)) (FrR_up (by omega))))), ⟨?_, ?_, ?_, ?_⟩, ?_⟩
    · rw [sg_X3_layBegin_101]
      simp (disch := omega) only [bq_s, aq_I, aq_R, aq_V, cq_t, cq_f, if_true, if_false, Bool.true_and, Bool.and_true, Bool.or_true, Bool.true_or, gi_1_3, gi_s, pi_1_3, pi_s, gr_0_0, gr_0_1, gr_0_2, gr_0_3, gr_1_0, gr_1_1, gr_1_2, gr_s_7, gr_s_8, gr_s_9, gr_s_10, ld_3, ld_4, ld_x, ld_y, ld_u, ld_v, sv_3, sv_4, sv_x, sv_y, sv_u, sv_v, is_0, is_1, is_s, lr_2, gi_45_0, gi_45_1, gi_45_2, gi_45_3, gi_59_0, gi_59_1, gi_59_2, gi_59_3, gi_57_3, gi_57_4, gi_57_6, gi_57_8, gi_57_9, gi_57_10, gi_57_11, gi_57_12, gi_57_13, gi_57_14, gi_l, pi_45_0, pi_45_1, pi_45_2, pi_45_3, pi_59_0, pi_59_1, pi_59_2, pi_59_3, pi_57_3, pi_57_4, pi_57_6, pi_57_8, pi_57_9, pi_57_10, pi_57_11, pi_57_12, pi_57_13, pi_57_14, pi_l, gr_57_0, gr_57_1, gr_57_2, gr_57_5, gr_57_7, ld_60, sv_60, is_45, is_59, is_57, is_l, lr_58, lp_0, lp_1, lp_2, lp_3, lp_4, lq_0, lq_1, lq_2, lq_3, lq_4, lx_0, ly_0, D.2.1 1 (by decide), g1', D1.2.1 2 (by decide), k1, e0]
    · simp (disch := omega) only [up2_n]; exact d0
    · simp (disch := omega) only [up2_n]; exact d1
    · simp (disch := omega) only [up2_n, up2_s]
    · rw [up2_s]; rfl
    · simp (disch := omega) only [up2_row]; rw [k5, g5, u2]
  have h71 : ∀ (τ : dSg) (m : List dF), FrR σ τ → τ 60 = σ 60 → m.length ≤ 205 → LgC P m τ → HdC 59 τ x y pen dwn → ∃ τ', dX tb (d + 4) 35 71 [.ref 57, .int (Int32.ofNat s), .int (Int32.ofNat b), .ref (5 + 5 * s), .int (Int32.ofNat (dXn P s b 0)), .int (Int32.ofNat (dYn P s b 0))] [] (c, t, hp g (SH fl tg) τ) = some (none, (c, t, hp g (SH fl tg) (τ'))) ∧ LgC P (m ++ (bif decide (pen = Int32.ofNat (pPen P s)) then [] else [(1, pPr P 3, s, b, 0, x, y, x, y, pen)]) ++ [(2, pPr P 1 * wayN x y (dXn P s b 0) (dYn P s b 0), s, b, 0, x, y, dXn P s b 0, dYn P s b 0, Int32.ofNat (pPen P s))] ++ [(3, pPr P 2, s, b, 0, dXn P s b 0, dYn P s b 0, dXn P s b 0, dYn P s b 0, Int32.ofNat (pPen P s))]) τ' ∧ FrR σ τ' ∧ HdC 59 τ' (dXn P s b 0) (dYn P s b 0) (Int32.ofNat (pPen P s)) true ∧ τ' 60 = σ 60 := by
    intro τ m u1 u2 u3 u4 u5
    have D := FrR_ShC W u1 C0
    have e0 := (D.2.2.1 s hs).1
    have u52 := u5.2.2.1
    rw [sg_X3_layBegin_71]
    simp (disch := omega) only [bq_s, aq_I, aq_R, aq_V, cq_t, cq_f, if_true, if_false, Bool.true_and, Bool.and_true, Bool.or_true, Bool.true_or, gi_1_3, gi_s, pi_1_3, pi_s, gr_0_0, gr_0_1, gr_0_2, gr_0_3, gr_1_0, gr_1_1, gr_1_2, gr_s_7, gr_s_8, gr_s_9, gr_s_10, ld_3, ld_4, ld_x, ld_y, ld_u, ld_v, sv_3, sv_4, sv_x, sv_y, sv_u, sv_v, is_0, is_1, is_s, lr_2, gi_45_0, gi_45_1, gi_45_2, gi_45_3, gi_59_0, gi_59_1, gi_59_2, gi_59_3, gi_57_3, gi_57_4, gi_57_6, gi_57_8, gi_57_9, gi_57_10, gi_57_11, gi_57_12, gi_57_13, gi_57_14, gi_l, pi_45_0, pi_45_1, pi_45_2, pi_45_3, pi_59_0, pi_59_1, pi_59_2, pi_59_3, pi_57_3, pi_57_4, pi_57_6, pi_57_8, pi_57_9, pi_57_10, pi_57_11, pi_57_12, pi_57_13, pi_57_14, pi_l, gr_57_0, gr_57_1, gr_57_2, gr_57_5, gr_57_7, ld_60, sv_60, is_45, is_59, is_57, is_l, lr_58, lp_0, lp_1, lp_2, lp_3, lp_4, lq_0, lq_1, lq_2, lq_3, lq_4, lx_0, ly_0, u52, e0, D.2.1 3 (by decide)]
    by_cases q : pen = Int32.ofNat (pPen P s)
    · rw [if_pos q, decide_eq_true q]
      have := h101 τ m u1 u2 (by omega) u4 u5
      rw [cond_true, List.append_nil]
      exact this
    · rw [if_neg q, decide_eq_false q]
      obtain ⟨τ1, g1, g2, g3, g4, g5⟩ := kc_stand (tb := tb) (d := d + 2) (c := c) (t := t) (g := g) (fl := fl) (tg := tg) u4 (by omega) u5 (1, pPr P 3, s, b, 0, x, y, x, y, pen) (kd := 1) (sd := Int32.ofNat s) (bd := Int32.ofNat b) (w := Int32.ofNat (pPr P 3)) rfl es rfl rfl ⟨rfl, rfl, rfl, rfl⟩ ⟨by show 1 ≠ 2; omega, by show 1 ≠ 5; omega⟩
      simp only [bq_s, aq_I, aq_R, aq_V, cq_t, cq_f, if_true, if_false, Bool.true_and, Bool.and_true, Bool.or_true, Bool.true_or, gi_45_0, gi_45_1, gi_45_2, gi_45_3, gi_59_0, gi_59_1, gi_59_2, gi_59_3, gi_57_3, gi_57_4, gi_57_6, gi_57_8, gi_57_9, gi_57_10, gi_57_11, gi_57_12, gi_57_13, gi_57_14, gi_l, pi_45_0, pi_45_1, pi_45_2, pi_45_3, pi_59_0, pi_59_1, pi_59_2, pi_59_3, pi_57_3, pi_57_4, pi_57_6, pi_57_8, pi_57_9, pi_57_10, pi_57_11, pi_57_12, pi_57_13, pi_57_14, pi_l, gr_57_0, gr_57_1, gr_57_2, gr_57_5, gr_57_7, ld_60, sv_60, is_45, is_59, is_57, is_l, lr_58, g1]
      exact h101 τ1 _ (FrR_trans u1 g3) (by rw [g5, u2]) (by rw [List.length_append, List.length_singleton]; omega) g2 (HdC_congr g4 u5)
  have hr := kc_ready59 (tb := tb) (d := d + 3) (c := c) (t := t) (g := g) (fl := fl) (tg := tg) (p := pPen P s) hd hx hy X0 Y0
  have e0 := (C0.2.2.1 s hs).1
  have hd3 := hd.2.2.2
  rw [sg_X3_layBegin_0]
  simp (disch := omega) only [bq_s, aq_I, aq_R, aq_V, cq_t, cq_f, if_true, if_false, Bool.true_and, Bool.and_true, Bool.or_true, Bool.true_or, gi_1_3, gi_s, pi_1_3, pi_s, gr_0_0, gr_0_1, gr_0_2, gr_0_3, gr_1_0, gr_1_1, gr_1_2, gr_s_7, gr_s_8, gr_s_9, gr_s_10, ld_3, ld_4, ld_x, ld_y, ld_u, ld_v, sv_3, sv_4, sv_x, sv_y, sv_u, sv_v, is_0, is_1, is_s, lr_2, gi_45_0, gi_45_1, gi_45_2, gi_45_3, gi_59_0, gi_59_1, gi_59_2, gi_59_3, gi_57_3, gi_57_4, gi_57_6, gi_57_8, gi_57_9, gi_57_10, gi_57_11, gi_57_12, gi_57_13, gi_57_14, gi_l, pi_45_0, pi_45_1, pi_45_2, pi_45_3, pi_59_0, pi_59_1, pi_59_2, pi_59_3, pi_57_3, pi_57_4, pi_57_6, pi_57_8, pi_57_9, pi_57_10, pi_57_11, pi_57_12, pi_57_13, pi_57_14, pi_l, gr_57_0, gr_57_1, gr_57_2, gr_57_5, gr_57_7, ld_60, sv_60, is_45, is_59, is_57, is_l, lr_58, kc_dx0 C0 W hs hb, kc_dy0 C0 W hs hb, e0, hr, bI_0, hd3]
  unfold bgP
  cases hq : (dwn && (decide (pen = Int32.ofNat (pPen P s)) && (decide (x = dXn P s b 0) && decide (y = dYn P s b 0))))
  · rw [if_pos rfl, cond_false]
    cases hdw : dwn
    · rw [if_pos rfl]
      subst hdw
      have := h71 σ l (FrR_refl σ) rfl (by omega) hP hd
      rw [cond_false, List.nil_append, ← List.append_assoc, ← List.append_assoc]
      exact this
    · rw [if_neg (by decide)]
      subst hdw
      obtain ⟨τ1, g1, g2, g3, g4, g5⟩ := kc_stand (tb := tb) (d := d + 2) (c := c) (t := t) (g := g) (fl := fl) (tg := tg) hP (by omega) hd (0, pPr P 2, s, b, 0, x, y, x, y, pen) (kd := 0) (sd := Int32.ofNat s) (bd := Int32.ofNat b) (w := Int32.ofNat (pPr P 2)) rfl es rfl rfl ⟨rfl, rfl, rfl, rfl⟩ ⟨by show 0 ≠ 2; omega, by show 0 ≠ 5; omega⟩
      simp (disch := omega) only [bq_s, aq_I, aq_R, aq_V, cq_t, cq_f, if_true, if_false, Bool.true_and, Bool.and_true, Bool.or_true, Bool.true_or, gi_1_3, gi_s, pi_1_3, pi_s, gr_0_0, gr_0_1, gr_0_2, gr_0_3, gr_1_0, gr_1_1, gr_1_2, gr_s_7, gr_s_8, gr_s_9, gr_s_10, ld_3, ld_4, ld_x, ld_y, ld_u, ld_v, sv_3, sv_4, sv_x, sv_y, sv_u, sv_v, is_0, is_1, is_s, lr_2, gi_45_0, gi_45_1, gi_45_2, gi_45_3, gi_59_0, gi_59_1, gi_59_2, gi_59_3, gi_57_3, gi_57_4, gi_57_6, gi_57_8, gi_57_9, gi_57_10, gi_57_11, gi_57_12, gi_57_13, gi_57_14, gi_l, pi_45_0, pi_45_1, pi_45_2, pi_45_3, pi_59_0, pi_59_1, pi_59_2, pi_59_3, pi_57_3, pi_57_4, pi_57_6, pi_57_8, pi_57_9, pi_57_10, pi_57_11, pi_57_12, pi_57_13, pi_57_14, pi_l, gr_57_0, gr_57_1, gr_57_2, gr_57_5, gr_57_7, ld_60, sv_60, is_45, is_59, is_57, is_l, lr_58, lp_0, lp_1, lp_2, lp_3, lp_4, lq_0, lq_1, lq_2, lq_3, lq_4, lx_0, ly_0, C0.2.1 2 (by decide), g1]
      have := h71 τ1 _ g3 g5 (by rw [List.length_append, List.length_singleton]; omega) g2 (HdC_congr g4 hd)
      rw [← List.append_assoc, ← List.append_assoc, ← List.append_assoc]
      exact this
  · rw [if_neg (by decide), cond_true, List.append_nil]
    rw [Bool.and_eq_true, Bool.and_eq_true, Bool.and_eq_true, decide_eq_true_eq, decide_eq_true_eq, decide_eq_true_eq] at hq
    obtain ⟨q1, q2, q3, q4⟩ := hq
    refine ⟨σ, rfl, hP, FrR_refl σ, ?_, rfl⟩
    rw [← q2, ← q3, ← q4]
    rw [q1] at hd
    exact hd
theorem kc_rdL (C : ShC P fl σ) (W : Wf P) {i s : Nat} {en : Nat → Nat} (hi : i ≤ 8) (hs : s < pM P) (hor : ∀ j, j < i → σ 53 j = Int32.ofNat (os j) ∧ os j < pM P ∧ σ 60 (os j) = Int32.ofNat (en j) ∧ en j ≤ 1000000) : ∀ q j (l6 l7 : Value), j + q = i → dX tb (d + 3) 36 21 [.ref 57, .ref 46, .int (Int32.ofNat i), .int (Int32.ofNat (rdU P os en s j)), .ref (5 + 5 * s), .int (Int32.ofNat j), l6, l7] [] (c, t, hp g (SH fl tg) σ) = some (some (.int (Int32.ofNat (rdU P os en s i))), (c, t, hp g (SH fl tg) σ)) := by
  have hm := W.1
  intro q
  induction q with
  | zero =>
    intro j l6 l7 h
    obtain rfl : j = i := by omega
    rw [sg_X3_readyAt_21]
    simp (disch := omega) only [bq_s, aq_I, aq_R, aq_V, cq_t, cq_f, if_true, if_false, Bool.true_and, Bool.and_true, Bool.or_true, Bool.true_or, ia_0, ia_1, is_m0, is_m1, im_8, ml_8, im_11, ml_11, im_12, ml_12, im_88, ml_88, im_89, ml_89, j_lt_0, j_gt_0, j_le_0, j_ge_0, j_eq_0, j_lt_1, j_gt_1, j_le_1, j_ge_1, j_eq_1, j_lt_2, j_gt_2, j_le_2, j_ge_2, j_eq_2, j_lt_3, j_gt_3, j_le_3, j_ge_3, j_eq_3, j_lt_4, j_gt_4, j_le_4, j_ge_4, j_eq_4, j_lt_5, j_gt_5, j_le_5, j_ge_5, j_eq_5, j_lt_6, j_gt_6, j_le_6, j_ge_6, j_eq_6, j_lt_8, j_gt_8, j_le_8, j_ge_8, j_eq_8, j_lt_12, j_gt_12, j_le_12, j_ge_12, j_eq_12, j_lt_209, j_gt_209, j_le_209, j_ge_209, j_eq_209, j_lt_255, j_gt_255, j_le_255, j_ge_255, j_eq_255, j_lt_1000000000, j_gt_1000000000, j_le_1000000000, j_ge_1000000000, j_eq_1000000000, i_le, Nat.le_refl]
  | succ q ih =>
    intro j l6 l7 h
    have h1 : ¬ i ≤ j := by omega
    obtain ⟨o1, o2, o3, o4⟩ := hor j (by omega)
    have e1 := (C.2.2.1 _ o2).2.1
    have hw := (W.2.1 _ o2).2.2.1
    have hrb := rdU_le (P := P) (os := os) (en := en) (s := s) (i := j) (w := 1001000) (fun v hv => by
      obtain ⟨v1, v2, v3, v4⟩ := hor v (by omega)
      have := (W.2.1 _ v2).2.2.1
      omega)
    have nx := fun (l6 l7 : Value) => ih (j + 1) l6 l7 (by omega)
    rw [show rdU P os en s (j + 1) = max (rdU P os en s j) (bif dcd (tch P s (os j)) then en j + pWet P (os j) else 0) from rfl] at nx
    rw [sg_X3_readyAt_21]
    simp (disch := omega) only [bq_s, aq_I, aq_R, aq_V, cq_t, cq_f, if_true, if_false, Bool.true_and, Bool.and_true, Bool.or_true, Bool.true_or, gi_1_3, gi_s, pi_1_3, pi_s, gr_0_0, gr_0_1, gr_0_2, gr_0_3, gr_1_0, gr_1_1, gr_1_2, gr_s_7, gr_s_8, gr_s_9, gr_s_10, ld_3, ld_4, ld_x, ld_y, ld_u, ld_v, sv_3, sv_4, sv_x, sv_y, sv_u, sv_v, is_0, is_1, is_s, lr_2, gi_45_0, gi_45_1, gi_45_2, gi_45_3, gi_47_0, gi_47_1, gi_47_2, gi_47_3, gi_46_8, gi_46_9, gi_46_10, gi_46_15, gi_46_16, pi_45_0, pi_45_1, pi_45_2, pi_45_3, pi_47_0, pi_47_1, pi_47_2, pi_47_3, pi_46_8, pi_46_9, pi_46_10, pi_46_15, pi_46_16, gr_46_0, gr_46_1, gr_46_2, gr_46_3, gr_46_4, gr_46_5, gr_46_6, gr_46_7, gr_46_11, gr_46_12, gr_46_13, gr_46_14, ld_50, ld_51, ld_52, ld_53, ld_54, ld_55, ld_56, ld_t, ld_b, sv_50, sv_51, sv_52, sv_53, sv_54, sv_55, sv_56, sv_t, sv_b, is_45, is_47, is_46, gi_59_0, gi_59_1, gi_59_2, gi_59_3, gi_57_3, gi_57_4, gi_57_6, gi_57_8, gi_57_9, gi_57_10, gi_57_11, gi_57_12, gi_57_13, gi_57_14, gi_l, pi_59_0, pi_59_1, pi_59_2, pi_59_3, pi_57_3, pi_57_4, pi_57_6, pi_57_8, pi_57_9, pi_57_10, pi_57_11, pi_57_12, pi_57_13, pi_57_14, pi_l, gr_57_0, gr_57_1, gr_57_2, gr_57_5, gr_57_7, ld_60, sv_60, is_59, is_57, is_l, lr_58, ia_0, ia_1, is_m0, is_m1, im_8, ml_8, im_11, ml_11, im_12, ml_12, im_88, ml_88, im_89, ml_89, j_lt_0, j_gt_0, j_le_0, j_ge_0, j_eq_0, j_lt_1, j_gt_1, j_le_1, j_ge_1, j_eq_1, j_lt_2, j_gt_2, j_le_2, j_ge_2, j_eq_2, j_lt_3, j_gt_3, j_le_3, j_ge_3, j_eq_3, j_lt_4, j_gt_4, j_le_4, j_ge_4, j_eq_4, j_lt_5, j_gt_5, j_le_5, j_ge_5, j_eq_5, j_lt_6, j_gt_6, j_le_6, j_ge_6, j_eq_6, j_lt_8, j_gt_8, j_le_8, j_ge_8, j_eq_8, j_lt_12, j_gt_12, j_le_12, j_ge_12, j_eq_12, j_lt_209, j_gt_209, j_le_209, j_ge_209, j_eq_209, j_lt_255, j_gt_255, j_le_255, j_ge_255, j_eq_255, j_lt_1000000000, j_gt_1000000000, j_le_1000000000, j_ge_1000000000, j_eq_1000000000, i_le, h1, o1, o3, e1, i_add, kc_tch C W hs o2, bI_0]
    by_cases q1 : en j + pWet P (os j) ≤ rdU P os en s j
    · rw [if_pos q1]
      have e : max (rdU P os en s j) (bif dcd (tch P s (os j)) then en j + pWet P (os j) else 0) = rdU P os en s j := by
        cases dcd (tch P s (os j))
        · show max _ 0 = _; omega
        · show max _ (en j + pWet P (os j)) = _; omega
      rw [e] at nx
      exact nx _ _
    · rw [if_neg q1]
      cases ht : dcd (tch P s (os j))
      · rw [ht] at nx
        rw [if_pos rfl]
        rw [show max (rdU P os en s j) (bif false then en j + pWet P (os j) else 0) = rdU P os en s j from Nat.max_zero _] at nx
        exact nx _ _
      · rw [ht] at nx
        rw [if_neg (by decide)]
        rw [show max (rdU P os en s j) (bif true then en j + pWet P (os j) else 0) = en j + pWet P (os j) from Nat.max_eq_right (show rdU P os en s j ≤ en j + pWet P (os j) by omega)] at nx
        exact nx _ _
theorem kc_rd (C : ShC P fl σ) (W : Wf P) {i s : Nat} {en : Nat → Nat} (hi : i < 8) (hs : s < pM P) (h53 : σ 53 i = Int32.ofNat s) (hor : ∀ j, j < i → σ 53 j = Int32.ofNat (os j) ∧ os j < pM P ∧ σ 60 (os j) = Int32.ofNat (en j) ∧ en j ≤ 1000000) : dX tb (d + 3) 36 0 [.ref 57, .ref 46, .int (Int32.ofNat i), .null, .null, .null, .null, .null] [] (c, t, hp g (SH fl tg) σ) = some (some (.int (Int32.ofNat (rdU P os en s i))), (c, t, hp g (SH fl tg) σ)) := by
  have hm := W.1
  rw [sg_X3_readyAt_0]
  simp (disch := omega) only [bq_s, aq_I, aq_R, aq_V, cq_t, cq_f, if_true, if_false, Bool.true_and, Bool.and_true, Bool.or_true, Bool.true_or, gi_1_3, gi_s, pi_1_3, pi_s, gr_0_0, gr_0_1, gr_0_2, gr_0_3, gr_1_0, gr_1_1, gr_1_2, gr_s_7, gr_s_8, gr_s_9, gr_s_10, ld_3, ld_4, ld_x, ld_y, ld_u, ld_v, sv_3, sv_4, sv_x, sv_y, sv_u, sv_v, is_0, is_1, is_s, lr_2, gi_45_0, gi_45_1, gi_45_2, gi_45_3, gi_47_0, gi_47_1, gi_47_2, gi_47_3, gi_46_8, gi_46_9, gi_46_10, gi_46_15, gi_46_16, pi_45_0, pi_45_1, pi_45_2, pi_45_3, pi_47_0, pi_47_1, pi_47_2, pi_47_3, pi_46_8, pi_46_9, pi_46_10, pi_46_15, pi_46_16, gr_46_0, gr_46_1, gr_46_2, gr_46_3, gr_46_4, gr_46_5, gr_46_6, gr_46_7, gr_46_11, gr_46_12, gr_46_13, gr_46_14, ld_50, ld_51, ld_52, ld_53, ld_54, ld_55, ld_56, ld_t, ld_b, sv_50, sv_51, sv_52, sv_53, sv_54, sv_55, sv_56, sv_t, sv_b, is_45, is_47, is_46, gi_59_0, gi_59_1, gi_59_2, gi_59_3, gi_57_3, gi_57_4, gi_57_6, gi_57_8, gi_57_9, gi_57_10, gi_57_11, gi_57_12, gi_57_13, gi_57_14, gi_l, pi_59_0, pi_59_1, pi_59_2, pi_59_3, pi_57_3, pi_57_4, pi_57_6, pi_57_8, pi_57_9, pi_57_10, pi_57_11, pi_57_12, pi_57_13, pi_57_14, pi_l, gr_57_0, gr_57_1, gr_57_2, gr_57_5, gr_57_7, ld_60, sv_60, is_59, is_57, is_l, lr_58, h53]
  exact kc_rdL C W (by omega) hs hor i 0 .null .null (by omega)
def nz (f : dF) : Bool := !(Nat.beq (fK f) 4 && Nat.beq (fL f) 0)
theorem kc_wait (C : ShC P fl σ) (W : Wf P) {s b r : Nat} (hs : s < pM P) (hr : r ≤ 2000000) {l : List dF} (hl : l.length < 209) (ht : tot l ≤ 2000000) (hP : LgC P l σ) (hd : HdC 59 σ (dXn P s b 0) (dYn P s b 0) (Int32.ofNat (pPen P s)) true) : ∃ τ', dX tb (d + 2) 37 0 [.ref 57, .int (Int32.ofNat s), .int (Int32.ofNat b), .int (Int32.ofNat r)] [] (c, t, hp g (SH fl tg) σ) = some (none, (c, t, hp g (SH fl tg) (τ'))) ∧ LgC P (l ++ [wtP P s b (r - tot l)].filter nz) τ' ∧ FrR σ τ' ∧ τ' 59 = σ 59 ∧ τ' 60 = σ 60 := by
  have hm := W.1
  rw [sg_X3_layWait_0]
  simp (disch := omega) only [bq_s, aq_I, aq_R, aq_V, cq_t, cq_f, if_true, if_false, Bool.true_and, Bool.and_true, Bool.or_true, Bool.true_or, gi_45_0, gi_45_1, gi_45_2, gi_45_3, gi_59_0, gi_59_1, gi_59_2, gi_59_3, gi_57_3, gi_57_4, gi_57_6, gi_57_8, gi_57_9, gi_57_10, gi_57_11, gi_57_12, gi_57_13, gi_57_14, gi_l, pi_45_0, pi_45_1, pi_45_2, pi_45_3, pi_59_0, pi_59_1, pi_59_2, pi_59_3, pi_57_3, pi_57_4, pi_57_6, pi_57_8, pi_57_9, pi_57_10, pi_57_11, pi_57_12, pi_57_13, pi_57_14, pi_l, gr_57_0, gr_57_1, gr_57_2, gr_57_5, gr_57_7, ld_60, sv_60, is_45, is_59, is_57, is_l, lr_58, ia_0, ia_1, is_m0, is_m1, im_8, ml_8, im_11, ml_11, im_12, ml_12, im_88, ml_88, im_89, ml_89, j_lt_0, j_gt_0, j_le_0, j_ge_0, j_eq_0, j_lt_1, j_gt_1, j_le_1, j_ge_1, j_eq_1, j_lt_2, j_gt_2, j_le_2, j_ge_2, j_eq_2, j_lt_3, j_gt_3, j_le_3, j_ge_3, j_eq_3, j_lt_4, j_gt_4, j_le_4, j_ge_4, j_eq_4, j_lt_5, j_gt_5, j_le_5, j_ge_5, j_eq_5, j_lt_6, j_gt_6, j_le_6, j_ge_6, j_eq_6, j_lt_8, j_gt_8, j_le_8, j_ge_8, j_eq_8, j_lt_12, j_gt_12, j_le_12, j_ge_12, j_eq_12, j_lt_209, j_gt_209, j_le_209, j_ge_209, j_eq_209, j_lt_255, j_gt_255, j_le_255, j_ge_255, j_eq_255, j_lt_1000000000, j_gt_1000000000, j_le_1000000000, j_ge_1000000000, j_eq_1000000000, hP.2.1, i_le]
  by_cases q : r ≤ tot l
  · rw [if_pos q]
    refine ⟨σ, rfl, ?_, FrR_refl σ, rfl, rfl⟩
    rw [show r - tot l = 0 by omega, show [wtP P s b 0].filter nz = [] from rfl, List.append_nil]
    exact hP
  · rw [if_neg q]
    obtain ⟨τ1, g1, g2, g3, g4, g5⟩ := kc_stand (tb := tb) (d := d) (c := c) (t := t) (g := g) (fl := fl) (tg := tg) hP hl hd (wtP P s b (r - tot l)) (kd := 4) (sd := Int32.ofNat s) (bd := Int32.ofNat b) (w := Int32.ofNat r - Int32.ofNat (tot l)) rfl (encS_lt (show s < 8 by omega)).symm rfl (by rw [i_sub (by omega)]; rfl) ⟨rfl, rfl, rfl, rfl⟩ ⟨by show 4 ≠ 2; omega, by show 4 ≠ 5; omega⟩
    simp only [bq_s, aq_I, aq_R, aq_V, cq_t, cq_f, if_true, if_false, Bool.true_and, Bool.and_true, Bool.or_true, Bool.true_or, gi_45_0, gi_45_1, gi_45_2, gi_45_3, gi_59_0, gi_59_1, gi_59_2, gi_59_3, gi_57_3, gi_57_4, gi_57_6, gi_57_8, gi_57_9, gi_57_10, gi_57_11, gi_57_12, gi_57_13, gi_57_14, gi_l, pi_45_0, pi_45_1, pi_45_2, pi_45_3, pi_59_0, pi_59_1, pi_59_2, pi_59_3, pi_57_3, pi_57_4, pi_57_6, pi_57_8, pi_57_9, pi_57_10, pi_57_11, pi_57_12, pi_57_13, pi_57_14, pi_l, gr_57_0, gr_57_1, gr_57_2, gr_57_5, gr_57_7, ld_60, sv_60, is_45, is_59, is_57, is_l, lr_58, g1]
    refine ⟨τ1, rfl, ?_, g3, g4, g5⟩
    have : nz (wtP P s b (r - tot l)) = true := by
      show (!(Nat.beq 4 4 && Nat.beq (r - tot l) 0)) = true
      rw [show Nat.beq (r - tot l) 0 = false from beq_f (by omega)]
      rfl
    rw [List.filter_cons, this]
    exact g2
theorem kc_pc (C0 : ShC P fl σ) (W : Wf P) {s b : Nat} (hs : s < pM P) (hb : b < bgn P s) (h2 : 2 ≤ pN P s) {l0 : List dF} (hl0 : l0.length ≤ 187) : ∀ q k (τ : dSg), k + q + 1 = pN P s → FrR σ τ → τ 60 = σ 60 → LgC P (l0 ++ pcP P s b k) τ → HdC 59 τ (dXn P s b k) (dYn P s b k) (Int32.ofNat (pPen P s)) true → ∃ τ', dX tb (d + 4) 38 13 [.ref 57, .int (Int32.ofNat s), .int (Int32.ofNat b), .ref (5 + 5 * s), .int (Int32.ofNat k)] [] (c, t, hp g (SH fl tg) τ) = some (none, (c, t, hp g (SH fl tg) (τ'))) ∧ FrR σ τ' ∧ τ' 60 = σ 60 ∧ LgC P (l0 ++ pcP P s b (pN P s - 1)) τ' ∧ HdC 59 τ' (dXn P s b (pN P s - 1)) (dYn P s b (pN P s - 1)) (Int32.ofNat (pPen P s)) true := by
  have hm := W.1
  have hn := (W.2.1 s hs).1
  intro q
  induction q with
  | zero =>
    intro k τ hk hF h60 hP hd
    have C := FrR_ShC W hF C0
    have h1 : pN P s ≤ k + 1 := by omega
    have e2 := (C.2.2.1 s hs).2.2.1
    rw [show pN P s - 1 = k by omega]
    refine ⟨τ, ?_, hF, h60, hP, hd⟩
    rw [sg_X3_layPieces_13]
    simp (disch := omega) only [bq_s, aq_I, aq_R, aq_V, cq_t, cq_f, if_true, if_false, Bool.true_and, Bool.and_true, Bool.or_true, Bool.true_or, gi_1_3, gi_s, pi_1_3, pi_s, gr_0_0, gr_0_1, gr_0_2, gr_0_3, gr_1_0, gr_1_1, gr_1_2, gr_s_7, gr_s_8, gr_s_9, gr_s_10, ld_3, ld_4, ld_x, ld_y, ld_u, ld_v, sv_3, sv_4, sv_x, sv_y, sv_u, sv_v, is_0, is_1, is_s, lr_2, gi_45_0, gi_45_1, gi_45_2, gi_45_3, gi_59_0, gi_59_1, gi_59_2, gi_59_3, gi_57_3, gi_57_4, gi_57_6, gi_57_8, gi_57_9, gi_57_10, gi_57_11, gi_57_12, gi_57_13, gi_57_14, gi_l, pi_45_0, pi_45_1, pi_45_2, pi_45_3, pi_59_0, pi_59_1, pi_59_2, pi_59_3, pi_57_3, pi_57_4, pi_57_6, pi_57_8, pi_57_9, pi_57_10, pi_57_11, pi_57_12, pi_57_13, pi_57_14, pi_l, gr_57_0, gr_57_1, gr_57_2, gr_57_5, gr_57_7, ld_60, sv_60, is_45, is_59, is_57, is_l, lr_58, ia_0, ia_1, is_m0, is_m1, im_8, ml_8, im_11, ml_11, im_12, ml_12, im_88, ml_88, im_89, ml_89, j_lt_0, j_gt_0, j_le_0, j_ge_0, j_eq_0, j_lt_1, j_gt_1, j_le_1, j_ge_1, j_eq_1, j_lt_2, j_gt_2, j_le_2, j_ge_2, j_eq_2, j_lt_3, j_gt_3, j_le_3, j_ge_3, j_eq_3, j_lt_4, j_gt_4, j_le_4, j_ge_4, j_eq_4, j_lt_5, j_gt_5, j_le_5, j_ge_5, j_eq_5, j_lt_6, j_gt_6, j_le_6, j_ge_6, j_eq_6, j_lt_8, j_gt_8, j_le_8, j_ge_8, j_eq_8, j_lt_12, j_gt_12, j_le_12, j_ge_12, j_eq_12, j_lt_209, j_gt_209, j_le_209, j_ge_209, j_eq_209, j_lt_255, j_gt_255, j_le_255, j_ge_255, j_eq_255, j_lt_1000000000, j_gt_1000000000, j_le_1000000000, j_ge_1000000000, j_eq_1000000000, e2, i_le, h1]
  | succ q ih =>
    intro k τ hk hF h60 hP hd
    have C := FrR_ShC W hF C0
    have h1 : ¬ pN P s ≤ k + 1 := by omega
    have e2 := (C.2.2.1 s hs).2.2.1
    have hle := pcP_len P s b k
    have hle2 : (pcP P s b k).length ≤ 19 := by split at hle <;> omega
    have x2 := dXn_le (b := b) (k := k) W hs (by omega)
    have y2 := dYn_le (b := b) (k := k) W hs (by omega)
    have go : ∀ (υ : dSg) (m : List dF), FrR σ υ → υ 60 = σ 60 → m.length < 209 → LgC P m υ → HdC 59 υ (dXn P s b k) (dYn P s b k) (Int32.ofNat (pPen P s)) true → m ++ [drP P s b k] = l0 ++ (pcP P s b k ++ (bif cor1 P s b k then [crP P s b k] else []) ++ [drP P s b k]) → ∃ τ', dX tb (d + 4) 38 50 [.ref 57, .int (Int32.ofNat s), .int (Int32.ofNat b), .ref (5 + 5 * s), .int (Int32.ofNat k)] [] (c, t, hp g (SH fl tg) υ) = some (none, (c, t, hp g (SH fl tg) (τ'))) ∧ FrR σ τ' ∧ τ' 60 = σ 60 ∧ LgC P (l0 ++ pcP P s b (pN P s - 1)) τ' ∧ HdC 59 τ' (dXn P s b (pN P s - 1)) (dYn P s b (pN P s - 1)) (Int32.ofNat (pPen P s)) true := by
      intro υ m u1 u2 u3 u4 u5 u6
      have D := FrR_ShC W u1 C0
      obtain ⟨τ1, g1, g2, g3, g4, g5⟩ := kc_move (tb := tb) (d := d) (c := c) (t := t) (g := g) (fl := fl) (tg := tg) D W u4 u3 u5 hs hb (j := k + 1) (by omega) x2 y2 (drP P s b k) (kd := 6) (u := pPr P 0) rfl ⟨rfl, rfl⟩ rfl ⟨rfl, rfl, rfl, rfl⟩ (Or.inr rfl) rfl
      rw [u6] at g2
      obtain ⟨τ', r1, r2⟩ := ih (k + 1) τ1 (by omega) (FrR_trans u1 g3) (by rw [g5, u2]) g2 g4
      refine ⟨τ', ?_, r2⟩
      rw [sg_X3_layPieces_50]
      simp (disch := omega) only [bq_s, aq_I, aq_R, aq_V, cq_t, cq_f, if_true, if_false, Bool.true_and, Bool.and_true, Bool.or_true, Bool.true_or, gi_1_3, gi_s, pi_1_3, pi_s, gr_0_0, gr_0_1, gr_0_2, gr_0_3, gr_1_0, gr_1_1, gr_1_2, gr_s_7, gr_s_8, gr_s_9, gr_s_10, ld_3, ld_4, ld_x, ld_y, ld_u, ld_v, sv_3, sv_4, sv_x, sv_y, sv_u, sv_v, is_0, is_1, is_s, lr_2, gi_45_0, gi_45_1, gi_45_2, gi_45_3, gi_59_0, gi_59_1, gi_59_2, gi_59_3, gi_57_3, gi_57_4, gi_57_6, gi_57_8, gi_57_9, gi_57_10, gi_57_11, gi_57_12, gi_57_13, gi_57_14, gi_l, pi_45_0, pi_45_1, pi_45_2, pi_45_3, pi_59_0, pi_59_1, pi_59_2, pi_59_3, pi_57_3, pi_57_4, pi_57_6, pi_57_8, pi_57_9, pi_57_10, pi_57_11, pi_57_12, pi_57_13, pi_57_14, pi_l, gr_57_0, gr_57_1, gr_57_2, gr_57_5, gr_57_7, ld_60, sv_60, is_45, is_59, is_57, is_l, lr_58, ia_0, ia_1, is_m0, is_m1, im_8, ml_8, im_11, ml_11, im_12, ml_12, im_88, ml_88, im_89, ml_89, j_lt_0, j_gt_0, j_le_0, j_ge_0, j_eq_0, j_lt_1, j_gt_1, j_le_1, j_ge_1, j_eq_1, j_lt_2, j_gt_2, j_le_2, j_ge_2, j_eq_2, j_lt_3, j_gt_3, j_le_3, j_ge_3, j_eq_3, j_lt_4, j_gt_4, j_le_4, j_ge_4, j_eq_4, j_lt_5, j_gt_5, j_le_5, j_ge_5, j_eq_5, j_lt_6, j_gt_6, j_le_6, j_ge_6, j_eq_6, j_lt_8, j_gt_8, j_le_8, j_ge_8, j_eq_8, j_lt_12, j_gt_12, j_le_12, j_ge_12, j_eq_12, j_lt_209, j_gt_209, j_le_209, j_ge_209, j_eq_209, j_lt_255, j_gt_255, j_le_255, j_ge_255, j_eq_255, j_lt_1000000000, j_gt_1000000000, j_le_1000000000, j_ge_1000000000, j_eq_1000000000, lp_0, lp_1, lp_2, lp_3, lp_4, lq_0, lq_1, lq_2, lq_3, lq_4, lx_0, ly_0, D.2.1 0 (by decide), g1]
      exact r1
    rw [sg_X3_layPieces_13]
    simp (disch := omega) only [bq_s, aq_I, aq_R, aq_V, cq_t, cq_f, if_true, if_false, Bool.true_and, Bool.and_true, Bool.or_true, Bool.true_or, gi_1_3, gi_s, pi_1_3, pi_s, gr_0_0, gr_0_1, gr_0_2, gr_0_3, gr_1_0, gr_1_1, gr_1_2, gr_s_7, gr_s_8, gr_s_9, gr_s_10, ld_3, ld_4, ld_x, ld_y, ld_u, ld_v, sv_3, sv_4, sv_x, sv_y, sv_u, sv_v, is_0, is_1, is_s, lr_2, gi_45_0, gi_45_1, gi_45_2, gi_45_3, gi_59_0, gi_59_1, gi_59_2, gi_59_3, gi_57_3, gi_57_4, gi_57_6, gi_57_8, gi_57_9, gi_57_10, gi_57_11, gi_57_12, gi_57_13, gi_57_14, gi_l, pi_45_0, pi_45_1, pi_45_2, pi_45_3, pi_59_0, pi_59_1, pi_59_2, pi_59_3, pi_57_3, pi_57_4, pi_57_6, pi_57_8, pi_57_9, pi_57_10, pi_57_11, pi_57_12, pi_57_13, pi_57_14, pi_l, gr_57_0, gr_57_1, gr_57_2, gr_57_5, gr_57_7, ld_60, sv_60, is_45, is_59, is_57, is_l, lr_58, ia_0, ia_1, is_m0, is_m1, im_8, ml_8, im_11, ml_11, im_12, ml_12, im_88, ml_88, im_89, ml_89, j_lt_0, j_gt_0, j_le_0, j_ge_0, j_eq_0, j_lt_1, j_gt_1, j_le_1, j_ge_1, j_eq_1, j_lt_2, j_gt_2, j_le_2, j_ge_2, j_eq_2, j_lt_3, j_gt_3, j_le_3, j_ge_3, j_eq_3, j_lt_4, j_gt_4, j_le_4, j_ge_4, j_eq_4, j_lt_5, j_gt_5, j_le_5, j_ge_5, j_eq_5, j_lt_6, j_gt_6, j_le_6, j_ge_6, j_eq_6, j_lt_8, j_gt_8, j_le_8, j_ge_8, j_eq_8, j_lt_12, j_gt_12, j_le_12, j_ge_12, j_eq_12, j_lt_209, j_gt_209, j_le_209, j_ge_209, j_eq_209, j_lt_255, j_gt_255, j_le_255, j_ge_255, j_eq_255, j_lt_1000000000, j_gt_1000000000, j_le_1000000000, j_ge_1000000000, j_eq_1000000000, e2, i_le, h1, kc_turns C W hs hb, bI_0]
    cases hc : cor1 P s b k
    · rw [if_pos rfl]
      refine go τ (l0 ++ pcP P s b k) hF h60 (by rw [List.length_append]; omega) hP hd ?_
      rw [hc, cond_false, List.append_nil, List.append_assoc]
    · rw [if_neg (by decide)]
      obtain ⟨τ1, g1, g2, g3, g4, g5⟩ := kc_stand (tb := tb) (d := d + 2) (c := c) (t := t) (g := g) (fl := fl) (tg := tg) hP (by rw [List.length_append]; omega) hd (crP P s b k) (kd := 5) (sd := Int32.ofNat s) (bd := Int32.ofNat b) (w := Int32.ofNat (pPr P 4)) rfl (encS_lt (show s < 8 by omega)).symm rfl rfl ⟨rfl, rfl, rfl, rfl⟩ ⟨by show 6 ≠ 2; omega, by show 6 ≠ 5; omega⟩
      simp (disch := omega) only [bq_s, aq_I, aq_R, aq_V, cq_t, cq_f, if_true, if_false, Bool.true_and, Bool.and_true, Bool.or_true, Bool.true_or, gi_1_3, gi_s, pi_1_3, pi_s, gr_0_0, gr_0_1, gr_0_2, gr_0_3, gr_1_0, gr_1_1, gr_1_2, gr_s_7, gr_s_8, gr_s_9, gr_s_10, ld_3, ld_4, ld_x, ld_y, ld_u, ld_v, sv_3, sv_4, sv_x, sv_y, sv_u, sv_v, is_0, is_1, is_s, lr_2, gi_45_0, gi_45_1, gi_45_2, gi_45_3, gi_59_0, gi_59_1, gi_59_2, gi_59_3, gi_57_3, gi_57_4, gi_57_6, gi_57_8, gi_57_9, gi_57_10, gi_57_11, gi_57_12, gi_57_13, gi_57_14, gi_l, pi_45_0, pi_45_1, pi_45_2, pi_45_3, pi_59_0, pi_59_1, pi_59_2, pi_59_3, pi_57_3, pi_57_4, pi_57_6, pi_57_8, pi_57_9, pi_57_10, pi_57_11, pi_57_12, pi_57_13, pi_57_14, pi_l, gr_57_0, gr_57_1, gr_57_2, gr_57_5, gr_57_7, ld_60, sv_60, is_45, is_59, is_57, is_l, lr_58, ia_0, ia_1, is_m0, is_m1, im_8, ml_8, im_11, ml_11, im_12, ml_12, im_88, ml_88, im_89, ml_89, j_lt_0, j_gt_0, j_le_0, j_ge_0, j_eq_0, j_lt_1, j_gt_1, j_le_1, j_ge_1, j_eq_1, j_lt_2, j_gt_2, j_le_2, j_ge_2, j_eq_2, j_lt_3, j_gt_3, j_le_3, j_ge_3, j_eq_3, j_lt_4, j_gt_4, j_le_4, j_ge_4, j_eq_4, j_lt_5, j_gt_5, j_le_5, j_ge_5, j_eq_5, j_lt_6, j_gt_6, j_le_6, j_ge_6, j_eq_6, j_lt_8, j_gt_8, j_le_8, j_ge_8, j_eq_8, j_lt_12, j_gt_12, j_le_12, j_ge_12, j_eq_12, j_lt_209, j_gt_209, j_le_209, j_ge_209, j_eq_209, j_lt_255, j_gt_255, j_le_255, j_ge_255, j_eq_255, j_lt_1000000000, j_gt_1000000000, j_le_1000000000, j_ge_1000000000, j_eq_1000000000, lp_0, lp_1, lp_2, lp_3, lp_4, lq_0, lq_1, lq_2, lq_3, lq_4, lx_0, ly_0, C.2.1 4 (by decide), g1]
      refine go τ1 _ (FrR_trans hF g3) (by rw [g5, h60]) (by rw [List.length_append, List.length_append, List.length_singleton]; omega) g2 (HdC_congr g4 hd) ?_
      rw [hc, cond_true, List.append_assoc, List.append_assoc, List.append_assoc]
end CL2
