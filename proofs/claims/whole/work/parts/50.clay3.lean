/-! THE CLASS LAYS ITS LEGS, third part: all of them -/
section CL3
variable {tb : dT} {d c t : Nat} {g : Nat → Option dE} {fl : Nat → Bool} {tg : Nat} {σ : dSg} {P : dP} {A : dA} {os ob : Nat → Nat}
theorem nz_k {f : dF} (h : fK f ≠ 4) : nz f = true := by unfold nz; rw [show Nat.beq (fK f) 4 = false from beq_f h]; rfl
theorem nz_bg (P : dP) (s b x y : Nat) (pen : Int32) (dwn : Bool) : (bgP P s b x y pen dwn).filter nz = bgP P s b x y pen dwn := by
  unfold bgP
  cases (dwn && (decide (pen = Int32.ofNat (pPen P s)) && (decide (x = dXn P s b 0) && decide (y = dYn P s b 0))))
  · rw [cond_false]
    cases dwn <;> cases decide (pen = Int32.ofNat (pPen P s)) <;> rfl
  · rfl
theorem nz_pc (P : dP) (s b k : Nat) : (pcP P s b k).filter nz = pcP P s b k := by
  induction k with
  | zero => rfl
  | succ k ih =>
    show (pcP P s b k ++ (bif cor1 P s b k then [crP P s b k] else []) ++ [drP P s b k]).filter nz = _
    rw [List.filter_append, List.filter_append, ih]
    show _ = pcP P s b k ++ (bif cor1 P s b k then [crP P s b k] else []) ++ [drP P s b k]
    cases cor1 P s b k <;> rfl
theorem tot_nz (l : List dF) : tot (l.filter nz) = tot l := by
  induction l with
  | nil => rfl
  | cons f l ih =>
    rw [List.filter_cons]
    cases h : nz f
    · show tot (l.filter nz) = fL f + tot l
      unfold nz at h
      have : fL f = 0 := by
        cases h2 : Nat.beq (fL f) 0
        · rw [h2, Bool.and_false] at h; exact absurd h (by decide)
        · exact Nat.eq_of_beq_eq_true h2
      omega
    · show fL f + tot (l.filter nz) = fL f + tot l
      omega
theorem LgC_congr {l : List dF} {τ : dSg} (h : ∀ a, 61 ≤ a → a < 270 → τ a = σ a) (h3 : τ 57 3 = σ 57 3) (h6 : τ 57 6 = σ 57 6) (hl : l.length ≤ 209) (C : LgC P l σ) : LgC P l τ := by
  refine ⟨by rw [h3]; exact C.1, by rw [h6]; exact C.2.1, fun p f hp => ?_⟩
  obtain ⟨q, -⟩ := List.getElem?_eq_some_iff.mp hp
  rw [h (61 + p) (by omega) (by omega)]
  exact C.2.2 p f hp
theorem kc_laL (C0 : ShC P fl σ) (W : Wf P) {k : Nat} (hO : OkO P os ob k) (h15 : σ 46 15 = Int32.ofNat k) (hor : ∀ i, i < k → σ 53 i = Int32.ofNat (os i) ∧ σ 54 i = Int32.ofNat (ob i)) (hx : A.1 ≤ 500) (hy : A.2.1 ≤ 500) : ∀ q i (τ : dSg) (l3 l4 : Value), i + q = k → FrR σ τ → LgC P ((phE P A os ob i).1.filter nz) τ → HdC 59 τ (pvX P A os ob i) (pvY P A os ob i) (pvP P A os i) (Nat.blt 0 i) → (∀ j, j < i → τ 60 (os j) = Int32.ofNat (enZ P A os ob j)) → ∃ τ', dX tb (d + 5) 34 23 [.ref 57, .ref 46, .int (Int32.ofNat i), l3, l4] [] (c, t, hp g (SH fl tg) τ) = some (none, (c, t, hp g (SH fl tg) (τ'))) ∧ FrR σ τ' ∧ LgC P ((phZ P A os ob k).filter nz) τ' := by
  have hm := W.1
  have hk8 := hO.1
  intro q
  induction q with
  | zero =>
    intro i τ l3 l4 h hF hP hd hE
    obtain rfl : i = k := by omega
    have C := FrR_ShC W hF C0
    have hl := (phE_le (A := A) W hO hx hy i (Nat.le_refl _)).2
    have hl2 := List.length_filter_le nz (phE P A os ob i).1
    have h15' : τ 46 15 = Int32.ofNat i := by rw [hF.1 46 (by omega) (by omega) (by omega) (by omega)]; exact h15
    obtain ⟨τ1, g1, g2, g3, g4, g5⟩ := kc_stand (tb := tb) (d := d + 3) (c := c) (t := t) (g := g) (fl := fl) (tg := tg) hP (by omega) hd (ltP P A os ob i) (kd := 0) (sd := -1) (bd := 0) (w := Int32.ofNat (pPr P 2)) rfl rfl rfl rfl ⟨rfl, rfl, rfl, rfl⟩ ⟨by show 0 ≠ 2; omega, by show 0 ≠ 5; omega⟩
    refine ⟨τ1, ?_, FrR_trans hF g3, ?_⟩
    · rw [sg_X3_layAll_23]
      simp (disch := omega) only [bq_s, aq_I, aq_R, aq_V, cq_t, cq_f, if_true, if_false, Bool.true_and, Bool.and_true, Bool.or_true, Bool.true_or, gi_1_3, gi_s, pi_1_3, pi_s, gr_0_0, gr_0_1, gr_0_2, gr_0_3, gr_1_0, gr_1_1, gr_1_2, gr_s_7, gr_s_8, gr_s_9, gr_s_10, ld_3, ld_4, ld_x, ld_y, ld_u, ld_v, sv_3, sv_4, sv_x, sv_y, sv_u, sv_v, is_0, is_1, is_s, lr_2, gi_45_0, gi_45_1, gi_45_2, gi_45_3, gi_47_0, gi_47_1, gi_47_2, gi_47_3, gi_46_8, gi_46_9, gi_46_10, gi_46_15, gi_46_16, pi_45_0, pi_45_1, pi_45_2, pi_45_3, pi_47_0, pi_47_1, pi_47_2, pi_47_3, pi_46_8, pi_46_9, pi_46_10, pi_46_15, pi_46_16, gr_46_0, gr_46_1, gr_46_2, gr_46_3, gr_46_4, gr_46_5, gr_46_6, gr_46_7, gr_46_11, gr_46_12, gr_46_13, gr_46_14, ld_50, ld_51, ld_52, ld_53, ld_54, ld_55, ld_56, ld_t, ld_b, sv_50, sv_51, sv_52, sv_53, sv_54, sv_55, sv_56, sv_t, sv_b, is_45, is_47, is_46, gi_59_0, gi_59_1, gi_59_2, gi_59_3, gi_57_3, gi_57_4, gi_57_6, gi_57_8, gi_57_9, gi_57_10, gi_57_11, gi_57_12, gi_57_13, gi_57_14, gi_l, pi_59_0, pi_59_1, pi_59_2, pi_59_3, pi_57_3, pi_57_4, pi_57_6, pi_57_8, pi_57_9, pi_57_10, pi_57_11, pi_57_12, pi_57_13, pi_57_14, pi_l, gr_57_0, gr_57_1, gr_57_2, gr_57_5, gr_57_7, ld_60, sv_60, is_59, is_57, is_l, lr_58, lp_0, lp_1, lp_2, lp_3, lp_4, lq_0, lq_1, lq_2, lq_3, lq_4, lx_0, ly_0, h15', i_le, Nat.le_refl, C.2.1 2 (by decide), g1]
    · unfold phZ
      rw [List.filter_append]
      exact g2
  | succ q ih =>
    intro i τ l3 l4 h hF hP hd hE
    have hik : i < k := by omega
    have h1 : ¬ k ≤ i := by omega
    obtain ⟨hs, hb, h2⟩ := hO.2.1 i hik
    have hn := (W.2.1 _ hs).1
    have C := FrR_ShC W hF C0
    have hl := phE_le (A := A) W hO hx hy i (by omega)
    have hl2 := List.length_filter_le nz (phE P A os ob i).1
    have pv := pv_le (A := A) W hO hx hy (show i ≤ k by omega)
    have hbg := bgP_le (b := ob i) (pen := pvP P A os i) (dwn := Nat.blt 0 i) W hs h2 pv.1 pv.2
    have h15' : τ 46 15 = Int32.ofNat k := by rw [hF.1 46 (by omega) (by omega) (by omega) (by omega)]; exact h15
    have h53 : ∀ j, j < k → τ 53 j = Int32.ofNat (os j) := fun j hj => by rw [hF.1 53 (by omega) (by omega) (by omega) (by omega)]; exact (hor j hj).1
    have h54 : τ 54 i = Int32.ofNat (ob i) := by rw [hF.1 54 (by omega) (by omega) (by omega) (by omega)]; exact (hor i hik).2
    obtain ⟨τ1, a1, a2, a3, a4, a5⟩ := kc_lb (tb := tb) (d := d) (c := c) (t := t) (g := g) (fl := fl) (tg := tg) C W hs hb h2 pv.1 pv.2 (by omega) hP hd
    have F1 := FrR_trans hF a3
    have C1 := FrR_ShC W F1 C0
    have enb : ∀ j, j < k → enZ P A os ob j ≤ 57286 * 8 := fun j hj => by
      have := (phE_le (A := A) W hO hx hy (j + 1) (by omega)).1
      unfold enZ
      omega
    have rd := kc_rd (tb := tb) (d := d + 1) (c := c) (t := t) (g := g) (fl := fl) (tg := tg) (os := os) (en := enZ P A os ob) C1 W (show i < 8 by omega) hs (by rw [a3.1 53 (by omega) (by omega) (by omega) (by omega)]; exact h53 i hik) (fun j hj => ⟨by rw [a3.1 53 (by omega) (by omega) (by omega) (by omega)]; exact h53 j (by omega), (hO.2.1 j (by omega)).1, by rw [a5]; exact hE j hj, by have := enb j (by omega); omega⟩)
    have hrd : rdU P os (enZ P A os ob) (os i) i ≤ 1000000 := rdU_le fun j hj => by
      have := enb j (by omega)
      have := (W.2.1 _ (hO.2.1 j (by omega)).1).2.2.1
      omega
    have et : tot ((phE P A os ob i).1.filter nz ++ bg1 P A os ob i) = tot (phE P A os ob i).1 + tot (bg1 P A os ob i) := by rw [tot_app, tot_nz]
    have hl3 : ((phE P A os ob i).1.filter nz ++ bg1 P A os ob i).length ≤ 186 := by rw [List.length_append]; unfold bg1; omega
    have ht3 : tot ((phE P A os ob i).1.filter nz ++ bg1 P A os ob i) ≤ 2000000 := by rw [et]; unfold bg1; omega
    have a2' : LgC P ((phE P A os ob i).1.filter nz ++ bg1 P A os ob i) τ1 := a2
    obtain ⟨τ2, b1, b2, b3, b4, b5⟩ := kc_wait (tb := tb) (d := d + 2) (c := c) (t := t) (g := g) (fl := fl) (tg := tg) C1 W hs (r := rdU P os (enZ P A os ob) (os i) i) (by omega) (by omega) ht3 a2' a4
    rw [et] at b2
    have F2 := FrR_trans F1 b3
    have C2 := FrR_ShC W F2 C0
    have hl4 : ((phE P A os ob i).1.filter nz ++ bg1 P A os ob i ++ [wtP P (os i) (ob i) (rdU P os (enZ P A os ob) (os i) i - (tot (phE P A os ob i).1 + tot (bg1 P A os ob i)))].filter nz).length ≤ 187 := by
      have := List.length_filter_le nz [wtP P (os i) (ob i) (rdU P os (enZ P A os ob) (os i) i - (tot (phE P A os ob i).1 + tot (bg1 P A os ob i)))]
      rw [List.length_singleton] at this
      rw [List.length_append]
      omega
    obtain ⟨τ3, k1, k2, k3, k4, k5⟩ := kc_pc (tb := tb) (d := d) (c := c) (t := t) (g := g) (fl := fl) (tg := tg) C2 W hs hb h2 hl4 (pN P (os i) - 1) 0 τ2 (by omega) (FrR_refl τ2) rfl (by rw [show pcP P (os i) (ob i) 0 = [] from rfl, List.append_nil]; exact b2) (HdC_congr b4 a4)
    have eql : (phE P A os ob i).1.filter nz ++ bg1 P A os ob i ++ [wtP P (os i) (ob i) (rdU P os (enZ P A os ob) (os i) i - (tot (phE P A os ob i).1 + tot (bg1 P A os ob i)))].filter nz ++ pcP P (os i) (ob i) (pN P (os i) - 1) = (phE P A os ob (i + 1)).1.filter nz := by
      rw [phE_app, blk_eq, List.filter_append, List.filter_append, List.filter_append, nz_pc, ← List.append_assoc, ← List.append_assoc]
      rw [show (bg1 P A os ob i).filter nz = bg1 P A os ob i from nz_bg _ _ _ _ _ _ _]
    rw [eql] at k4
    have hl5 := List.length_filter_le nz (phE P A os ob (i + 1)).1
    have hl6 := (phE_le (A := A) W hO hx hy (i + 1) (by omega)).2
    have F3 : FrR σ (up2 τ3 60 (os i) (τ3 57 6)) := FrR_trans F2 (FrR_trans k2 (FrR_up (by omega)))
    have hP4 : LgC P ((phE P A os ob (i + 1)).1.filter nz) (up2 τ3 60 (os i) (τ3 57 6)) := LgC_congr (fun a _ _ => up2_row _ _ (by omega)) (up2_n _ _ (by omega)) (up2_n _ _ (by omega)) (by omega) k4
    obtain ⟨τ', r1, r2⟩ := ih (i + 1) (up2 τ3 60 (os i) (τ3 57 6)) (.int (Int32.ofNat (os i))) (.int (Int32.ofNat (ob i))) (by omega) F3 hP4 (HdC_congr (up2_row _ _ (by omega)) k5) (fun j hj => by
      by_cases e : os j = os i
      · rw [e, up2_s, k4.2.1, tot_nz, hO.2.2 j i (by omega) (by omega) e]; rfl
      · rw [up2_n _ _ (Or.inr e), k3, b5, a5]
        exact hE j (by
          by_cases e2 : j = i
          · subst e2; exact absurd rfl e
          · omega))
    refine ⟨τ', ?_, r2⟩
    have k1' : dX tb (d + 4) 38 0 [.ref 57, .int (Int32.ofNat (os i)), .int (Int32.ofNat (ob i)), .null, .null] [] (c, t, hp g (SH fl tg) τ2) = some (none, (c, t, hp g (SH fl tg) τ3)) := by
      rw [sg_X3_layPieces_0]
      simp (disch := omega) only [bq_s, aq_I, aq_R, aq_V, cq_t, cq_f, if_true, if_false, Bool.true_and, Bool.and_true, Bool.or_true, Bool.true_or, gi_1_3, gi_s, pi_1_3, pi_s, gr_0_0, gr_0_1, gr_0_2, gr_0_3, gr_1_0, gr_1_1, gr_1_2, gr_s_7, gr_s_8, gr_s_9, gr_s_10, ld_3, ld_4, ld_x, ld_y, ld_u, ld_v, sv_3, sv_4, sv_x, sv_y, sv_u, sv_v, is_0, is_1, is_s, lr_2, gi_45_0, gi_45_1, gi_45_2, gi_45_3, gi_59_0, gi_59_1, gi_59_2, gi_59_3, gi_57_3, gi_57_4, gi_57_6, gi_57_8, gi_57_9, gi_57_10, gi_57_11, gi_57_12, gi_57_13, gi_57_14, gi_l, pi_45_0, pi_45_1, pi_45_2, pi_45_3, pi_59_0, pi_59_1, pi_59_2, pi_59_3, pi_57_3, pi_57_4, pi_57_6, pi_57_8, pi_57_9, pi_57_10, pi_57_11, pi_57_12, pi_57_13, pi_57_14, pi_l, gr_57_0, gr_57_1, gr_57_2, gr_57_5, gr_57_7, ld_60, sv_60, is_45, is_59, is_57, is_l, lr_58]
      exact k1
    have h53i := h53 i hik
    rw [sg_X3_layAll_23]
    simp (disch := omega) only [bq_s, aq_I, aq_R, aq_V, cq_t, cq_f, if_true, if_false, Bool.true_and, Bool.and_true, Bool.or_true, Bool.true_or, gi_1_3, gi_s, pi_1_3, pi_s, gr_0_0, gr_0_1, gr_0_2, gr_0_3, gr_1_0, gr_1_1, gr_1_2, gr_s_7, gr_s_8, gr_s_9, gr_s_10, ld_3, ld_4, ld_x, ld_y, ld_u, ld_v, sv_3, sv_4, sv_x, sv_y, sv_u, sv_v, is_0, is_1, is_s, lr_2, gi_45_0, gi_45_1, gi_45_2, gi_45_3, gi_47_0, gi_47_1, gi_47_2, gi_47_3, gi_46_8, gi_46_9, gi_46_10, gi_46_15, gi_46_16, pi_45_0, pi_45_1, pi_45_2, pi_45_3, pi_47_0, pi_47_1, pi_47_2, pi_47_3, pi_46_8, pi_46_9, pi_46_10, pi_46_15, pi_46_16, gr_46_0, gr_46_1, gr_46_2, gr_46_3, gr_46_4, gr_46_5, gr_46_6, gr_46_7, gr_46_11, gr_46_12, gr_46_13, gr_46_14, ld_50, ld_51, ld_52, ld_53, ld_54, ld_55, ld_56, ld_t, ld_b, sv_50, sv_51, sv_52, sv_53, sv_54, sv_55, sv_56, sv_t, sv_b, is_45, is_47, is_46, gi_59_0, gi_59_1, gi_59_2, gi_59_3, gi_57_3, gi_57_4, gi_57_6, gi_57_8, gi_57_9, gi_57_10, gi_57_11, gi_57_12, gi_57_13, gi_57_14, gi_l, pi_59_0, pi_59_1, pi_59_2, pi_59_3, pi_57_3, pi_57_4, pi_57_6, pi_57_8, pi_57_9, pi_57_10, pi_57_11, pi_57_12, pi_57_13, pi_57_14, pi_l, gr_57_0, gr_57_1, gr_57_2, gr_57_5, gr_57_7, ld_60, sv_60, is_59, is_57, is_l, lr_58, ia_0, ia_1, is_m0, is_m1, im_8, ml_8, im_11, ml_11, im_12, ml_12, im_88, ml_88, im_89, ml_89, j_lt_0, j_gt_0, j_le_0, j_ge_0, j_eq_0, j_lt_1, j_gt_1, j_le_1, j_ge_1, j_eq_1, j_lt_2, j_gt_2, j_le_2, j_ge_2, j_eq_2, j_lt_3, j_gt_3, j_le_3, j_ge_3, j_eq_3, j_lt_4, j_gt_4, j_le_4, j_ge_4, j_eq_4, j_lt_5, j_gt_5, j_le_5, j_ge_5, j_eq_5, j_lt_6, j_gt_6, j_le_6, j_ge_6, j_eq_6, j_lt_8, j_gt_8, j_le_8, j_ge_8, j_eq_8, j_lt_12, j_gt_12, j_le_12, j_ge_12, j_eq_12, j_lt_209, j_gt_209, j_le_209, j_ge_209, j_eq_209, j_lt_255, j_gt_255, j_le_255, j_ge_255, j_eq_255, j_lt_1000000000, j_gt_1000000000, j_le_1000000000, j_ge_1000000000, j_eq_1000000000, h15', i_le, h1, h53i, h54, a1, rd, b1, k1']
    exact r1
theorem kc_layAll (C0 : ShC P fl σ) (W : Wf P) {k : Nat} (hO : OkO P os ob k) (h15 : σ 46 15 = Int32.ofNat k) (hor : ∀ i, i < k → σ 53 i = Int32.ofNat (os i) ∧ σ 54 i = Int32.ofNat (ob i)) (H : HdC 45 σ A.1 A.2.1 A.2.2 false) (hx : A.1 ≤ 500) (hy : A.2.1 ≤ 500) : ∃ τ', dX tb (d + 5) 34 0 [.ref 57, .ref 46, .null, .null, .null] [] (c, t, hp g (SH fl tg) σ) = some (none, (c, t, hp g (SH fl tg) (τ'))) ∧ FrR σ τ' ∧ LgC P ((phZ P A os ob k).filter nz) τ' := by
  have F0 : FrR σ (up2 (up2 σ 57 3 0) 57 6 0) := FrR_trans (FrR_up (by omega)) (FrR_up (by omega))
  obtain ⟨τ1, a1, a2, a3⟩ := kc_like59 (tb := tb) (d := d + 4) (c := c) (t := t) (g := g) (fl := fl) (tg := tg) (σ := up2 (up2 σ 57 3 0) 57 6 0) (HdC_congr (by simp (disch := omega) only [up2_row]) H)
  have F1 : FrR (up2 (up2 σ 57 3 0) 57 6 0) τ1 := ⟨fun a _ h2 _ _ => a3 a h2, fun j _ _ => by rw [a3 57 (by omega)]⟩
  obtain ⟨τ', b1, b2⟩ := kc_laL (tb := tb) (d := d) (c := c) (t := t) (g := g) (fl := fl) (tg := tg) (A := A) C0 W hO h15 hor hx hy k 0 τ1 .null .null (by omega) (FrR_trans F0 F1) ⟨by rw [a3 57 (by omega), up2_n _ _ (by omega), up2_s]; rfl, by rw [a3 57 (by omega), up2_s]; rfl, fun p f hp => by cases hp⟩ a2 (fun j hj => absurd hj (Nat.not_lt_zero j))
  refine ⟨τ', ?_, b2⟩
  rw [sg_X3_layAll_0]
  simp only [bq_s, aq_I, aq_R, aq_V, cq_t, cq_f, if_true, if_false, Bool.true_and, Bool.and_true, Bool.or_true, Bool.true_or, gi_45_0, gi_45_1, gi_45_2, gi_45_3, gi_59_0, gi_59_1, gi_59_2, gi_59_3, gi_57_3, gi_57_4, gi_57_6, gi_57_8, gi_57_9, gi_57_10, gi_57_11, gi_57_12, gi_57_13, gi_57_14, gi_l, pi_45_0, pi_45_1, pi_45_2, pi_45_3, pi_59_0, pi_59_1, pi_59_2, pi_59_3, pi_57_3, pi_57_4, pi_57_6, pi_57_8, pi_57_9, pi_57_10, pi_57_11, pi_57_12, pi_57_13, pi_57_14, pi_l, gr_57_0, gr_57_1, gr_57_2, gr_57_5, gr_57_7, ld_60, sv_60, is_45, is_59, is_57, is_l, lr_58, a1]
  exact b1
end CL3
