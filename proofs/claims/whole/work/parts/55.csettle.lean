/-! THE CLASS SETTLES AT A TICK -/
section CST
variable {tb : dT} {d c t : Nat} {g : Nat → Option dE} {fl : Nat → Bool} {tg : Nat} {σ : dSg} {P : dP} {A : dA}
def whI (a b w u : Nat) : Int32 := if w = 0 then Int32.ofNat a else Int32.ofNat a + (Int32.ofNat b - Int32.ofNat a) * Int32.ofNat u / Int32.ofNat w
theorem fU_le (W : Wf P) (f : dF) : fU P f ≤ 9 := by
  unfold fU
  have h1 := W.2.2.1.2
  have h2 := W.2.2.2.1.2
  split
  · exact h2
  · split
    · exact h1
    · omega
theorem kc_units {p T w u : Nat} (hpp : p < 209) (h10 : σ (61 + p) 10 = Int32.ofNat u) (h3 : σ (61 + p) 3 = Int32.ofNat w) (hw : w ≤ T) (hT : T ≤ 1000000) (hu : u ≤ 9) : dX tb d 7 0 [.ref (61 + p), .int (Int32.ofNat T)] [] (c, t, hp g (SH fl tg) σ) = some (some (.int (Int32.ofNat ((T - w) / u))), (c, t, hp g (SH fl tg) σ)) := by
  rw [sg_X1_unitsBy_0]
  simp (disch := omega) only [bq_s, aq_I, aq_R, aq_V, cq_t, cq_f, if_true, if_false, Bool.true_and, Bool.and_true, Bool.or_true, Bool.true_or, gi_45_0, gi_45_1, gi_45_2, gi_45_3, gi_59_0, gi_59_1, gi_59_2, gi_59_3, gi_57_3, gi_57_4, gi_57_6, gi_57_8, gi_57_9, gi_57_10, gi_57_11, gi_57_12, gi_57_13, gi_57_14, gi_l, pi_45_0, pi_45_1, pi_45_2, pi_45_3, pi_59_0, pi_59_1, pi_59_2, pi_59_3, pi_57_3, pi_57_4, pi_57_6, pi_57_8, pi_57_9, pi_57_10, pi_57_11, pi_57_12, pi_57_13, pi_57_14, pi_l, gr_57_0, gr_57_1, gr_57_2, gr_57_5, gr_57_7, ld_60, sv_60, is_45, is_59, is_57, is_l, lr_58, ia_0, ia_1, is_m0, is_m1, im_8, ml_8, im_11, ml_11, im_12, ml_12, im_88, ml_88, im_89, ml_89, j_lt_0, j_gt_0, j_le_0, j_ge_0, j_eq_0, j_lt_1, j_gt_1, j_le_1, j_ge_1, j_eq_1, j_lt_2, j_gt_2, j_le_2, j_ge_2, j_eq_2, j_lt_3, j_gt_3, j_le_3, j_ge_3, j_eq_3, j_lt_4, j_gt_4, j_le_4, j_ge_4, j_eq_4, j_lt_5, j_gt_5, j_le_5, j_ge_5, j_eq_5, j_lt_6, j_gt_6, j_le_6, j_ge_6, j_eq_6, j_lt_8, j_gt_8, j_le_8, j_ge_8, j_eq_8, j_lt_12, j_gt_12, j_le_12, j_ge_12, j_eq_12, j_lt_209, j_gt_209, j_le_209, j_ge_209, j_eq_209, j_lt_255, j_gt_255, j_le_255, j_ge_255, j_eq_255, j_lt_1000000000, j_gt_1000000000, j_le_1000000000, j_ge_1000000000, j_eq_1000000000, h10, h3, i_sub]
  by_cases q : u ≤ 0
  · rw [if_pos q, show u = 0 by omega, Nat.div_zero]; rfl
  · rw [if_neg q, if_neg (by omega), ← Int32.ofNat_div (by omega) (by omega)]
theorem kc_xby {p T w u a b n : Nat} (hpp : p < 209) (h10 : σ (61 + p) 10 = Int32.ofNat u) (h3 : σ (61 + p) 3 = Int32.ofNat w) (h9 : σ (61 + p) 9 = Int32.ofNat n) (h5 : σ (61 + p) 5 = Int32.ofNat a) (h7 : σ (61 + p) 7 = Int32.ofNat b) (hw : w ≤ T) (hT : T ≤ 1000000) (hu : u ≤ 9) (hn : n ≤ 500) : dX tb (d + 1) 8 0 [.ref (61 + p), .int (Int32.ofNat T)] [] (c, t, hp g (SH fl tg) σ) = some (some (.int (whI a b n ((T - w) / u))), (c, t, hp g (SH fl tg) σ)) := by
  rw [sg_X1_xBy_0]
  simp (disch := omega) only [bq_s, aq_I, aq_R, aq_V, cq_t, cq_f, if_true, if_false, Bool.true_and, Bool.and_true, Bool.or_true, Bool.true_or, gi_45_0, gi_45_1, gi_45_2, gi_45_3, gi_59_0, gi_59_1, gi_59_2, gi_59_3, gi_57_3, gi_57_4, gi_57_6, gi_57_8, gi_57_9, gi_57_10, gi_57_11, gi_57_12, gi_57_13, gi_57_14, gi_l, pi_45_0, pi_45_1, pi_45_2, pi_45_3, pi_59_0, pi_59_1, pi_59_2, pi_59_3, pi_57_3, pi_57_4, pi_57_6, pi_57_8, pi_57_9, pi_57_10, pi_57_11, pi_57_12, pi_57_13, pi_57_14, pi_l, gr_57_0, gr_57_1, gr_57_2, gr_57_5, gr_57_7, ld_60, sv_60, is_45, is_59, is_57, is_l, lr_58, ia_0, ia_1, is_m0, is_m1, im_8, ml_8, im_11, ml_11, im_12, ml_12, im_88, ml_88, im_89, ml_89, j_lt_0, j_gt_0, j_le_0, j_ge_0, j_eq_0, j_lt_1, j_gt_1, j_le_1, j_ge_1, j_eq_1, j_lt_2, j_gt_2, j_le_2, j_ge_2, j_eq_2, j_lt_3, j_gt_3, j_le_3, j_ge_3, j_eq_3, j_lt_4, j_gt_4, j_le_4, j_ge_4, j_eq_4, j_lt_5, j_gt_5, j_le_5, j_ge_5, j_eq_5, j_lt_6, j_gt_6, j_le_6, j_ge_6, j_eq_6, j_lt_8, j_gt_8, j_le_8, j_ge_8, j_eq_8, j_lt_12, j_gt_12, j_le_12, j_ge_12, j_eq_12, j_lt_209, j_gt_209, j_le_209, j_ge_209, j_eq_209, j_lt_255, j_gt_255, j_le_255, j_ge_255, j_eq_255, j_lt_1000000000, j_gt_1000000000, j_le_1000000000, j_ge_1000000000, j_eq_1000000000, h9, h5, h7, kc_units hpp h10 h3 hw hT hu]
  unfold whI
  by_cases q : n ≤ 0
  · rw [if_pos q, if_pos (by omega)]
  · rw [if_neg q, if_neg (by omega), if_neg (by omega)]
theorem kc_yby {p T w u a b n : Nat} (hpp : p < 209) (h10 : σ (61 + p) 10 = Int32.ofNat u) (h3 : σ (61 + p) 3 = Int32.ofNat w) (h9 : σ (61 + p) 9 = Int32.ofNat n) (h5 : σ (61 + p) 6 = Int32.ofNat a) (h7 : σ (61 + p) 8 = Int32.ofNat b) (hw : w ≤ T) (hT : T ≤ 1000000) (hu : u ≤ 9) (hn : n ≤ 500) : dX tb (d + 1) 9 0 [.ref (61 + p), .int (Int32.ofNat T)] [] (c, t, hp g (SH fl tg) σ) = some (some (.int (whI a b n ((T - w) / u))), (c, t, hp g (SH fl tg) σ)) := by
  rw [sg_X1_yBy_0]
  simp (disch := omega) only [bq_s, aq_I, aq_R, aq_V, cq_t, cq_f, if_true, if_false, Bool.true_and, Bool.and_true, Bool.or_true, Bool.true_or, gi_45_0, gi_45_1, gi_45_2, gi_45_3, gi_59_0, gi_59_1, gi_59_2, gi_59_3, gi_57_3, gi_57_4, gi_57_6, gi_57_8, gi_57_9, gi_57_10, gi_57_11, gi_57_12, gi_57_13, gi_57_14, gi_l, pi_45_0, pi_45_1, pi_45_2, pi_45_3, pi_59_0, pi_59_1, pi_59_2, pi_59_3, pi_57_3, pi_57_4, pi_57_6, pi_57_8, pi_57_9, pi_57_10, pi_57_11, pi_57_12, pi_57_13, pi_57_14, pi_l, gr_57_0, gr_57_1, gr_57_2, gr_57_5, gr_57_7, ld_60, sv_60, is_45, is_59, is_57, is_l, lr_58, ia_0, ia_1, is_m0, is_m1, im_8, ml_8, im_11, ml_11, im_12, ml_12, im_88, ml_88, im_89, ml_89, j_lt_0, j_gt_0, j_le_0, j_ge_0, j_eq_0, j_lt_1, j_gt_1, j_le_1, j_ge_1, j_eq_1, j_lt_2, j_gt_2, j_le_2, j_ge_2, j_eq_2, j_lt_3, j_gt_3, j_le_3, j_ge_3, j_eq_3, j_lt_4, j_gt_4, j_le_4, j_ge_4, j_eq_4, j_lt_5, j_gt_5, j_le_5, j_ge_5, j_eq_5, j_lt_6, j_gt_6, j_le_6, j_ge_6, j_eq_6, j_lt_8, j_gt_8, j_le_8, j_ge_8, j_eq_8, j_lt_12, j_gt_12, j_le_12, j_ge_12, j_eq_12, j_lt_209, j_gt_209, j_le_209, j_ge_209, j_eq_209, j_lt_255, j_gt_255, j_le_255, j_ge_255, j_eq_255, j_lt_1000000000, j_gt_1000000000, j_le_1000000000, j_ge_1000000000, j_eq_1000000000, h9, h5, h7, kc_units hpp h10 h3 hw hT hu]
  unfold whI
  by_cases q : n ≤ 0
  · rw [if_pos q, if_pos (by omega)]
  · rw [if_neg q, if_neg (by omega), if_neg (by omega)]
theorem okL_take {l : List dF} {z : dZ} (h : okL P z l) (p : Nat) : okL P z (l.take p) ∧ okL P ((l.take p).foldl (fin P) z) (l.drop p) := by
  have := (okL_app (P := P) (l := l.take p) (m := l.drop p) z).mp (by rw [List.take_append_drop]; exact h)
  exact this
theorem okL_nz {l : List dF} : ∀ {z : dZ}, okL P z l → okL P z (l.filter nz) := by
  induction l with
  | nil => intro z _; trivial
  | cons f l ih =>
    intro z h
    rw [List.filter_cons]
    cases e : nz f
    · have e2 := nz_f h.1 e
      have := h.2
      rw [e2] at this
      exact ih this
    · exact ⟨h.1, ih h.2⟩
theorem drop_get {l : List dF} {p : Nat} {f : dF} (h : l[p]? = some f) : l.drop p = f :: l.drop (p + 1) := by
  obtain ⟨q, e⟩ := List.getElem?_eq_some_iff.mp h
  rw [List.drop_eq_getElem_cons q, e]
theorem take_get {l : List dF} {p : Nat} {f : dF} (h : l[p]? = some f) : l.take (p + 1) = l.take p ++ [f] := by
  rw [List.take_add_one, h]; rfl
theorem tot_take (l : List dF) (p : Nat) : tot (l.take p) ≤ tot l := by
  have : tot l = tot (l.take p) + tot (l.drop p) := by rw [← tot_app, List.take_append_drop]
  omega
theorem wtS_le (l : List dF) : wtS l ≤ tot l := by
  induction l with
  | nil => exact Nat.le_refl _
  | cons f l ih =>
    show (if fK f = 4 then fL f else 0) + wtS l ≤ fL f + tot l
    split <;> omega
theorem fin_U (z : dZ) (f : dF) : zU (fin P z f) ≤ zU z + fW f := by
  by_cases h5 : fK f = 5
  · rw [fin_5 h5]
    split
    · exact Nat.le_refl _
    · exact Nat.zero_le _
  · have : zU (fin P z f) = zU z := by
      unfold fin
      split <;> first | rfl | (rename_i q; exact absurd q h5)
    omega
theorem fW_le {z : dZ} {f : dF} (h : okF P z f) : fW f ≤ 500 := by
  unfold fW
  have := h.2.2.2.2.2.2.2.2.2.2.2.2
  split
  · exact way_le this.1 this.2.1 this.2.2.1 this.2.2.2
  · omega
theorem fold_U {l : List dF} : ∀ {z : dZ}, okL P z l → zU (l.foldl (fin P) z) ≤ zU z + 500 * l.length := by
  induction l with
  | nil => intro z _; exact Nat.le_refl _
  | cons f l ih =>
    intro z h
    have h1 := ih h.2
    have h2 := fin_U (P := P) z f
    have h3 := fW_le h.1
    show zU (l.foldl (fin P) (fin P z f)) ≤ zU z + 500 * (l.length + 1)
    omega
theorem ZC_congr {z : dZ} {τ : dSg} (h45 : τ 45 2 = σ 45 2) (h453 : τ 45 3 = σ 45 3) (h57 : ∀ j, j = 8 ∨ j = 9 ∨ j = 10 → τ 57 j = σ 57 j) (hs : ∀ s, s < 8 → τ (5 + 5 * s) = σ (5 + 5 * s)) (W : Wf P) (h : ZC P z σ) : ZC P z τ := by
  have hm := W.1
  obtain ⟨z1, z2, z3, z4, z5, z6⟩ := h
  refine ⟨by rw [h45]; exact z1, by rw [h453]; exact z2, by rw [h57 8 (by omega)]; exact z3, by rw [h57 9 (by omega)]; exact z4, by rw [h57 10 (by omega)]; exact z5, fun s hss => by rw [hs s (by omega)]; exact z6 s hss⟩
theorem kc_settle (W : Wf P) {l : List dF} {T : Nat} (hl : l.length ≤ 209) (hTl : tot l ≤ 1000000) (hT : T ≤ 1000000) (hok : okL P (z0 A) l) : ∀ q p (σ : dSg), p + q = l.length → ShC P fl σ → LgC P l σ → ZC P ((l.take p).foldl (fin P) (z0 A)) σ → σ 57 4 = Int32.ofNat p → σ 57 12 = Int32.ofNat T → tot (l.take p) ≤ T → ∃ τ p', dX tb (d + 3) 43 0 [.ref 57] [] (c, t, hp g (SH fl tg) σ) = some (none, (c, t, hp g (SH fl tg) τ)) ∧ p ≤ p' ∧ p' ≤ l.length ∧ FrS σ τ ∧ tot (l.take p') ≤ T ∧ τ 57 4 = Int32.ofNat p' ∧ ZC P ((l.take p').foldl (fin P) (z0 A)) τ ∧ (p' < l.length → ∃ f, l[p']? = some f ∧ T < tot (l.take p') + fL f ∧ τ 45 0 = whI (fX f) (gX f) (fW f) ((T - tot (l.take p')) / fU P f) ∧ τ 45 1 = whI (fY f) (gY f) (fW f) ((T - tot (l.take p')) / fU P f) ∧ τ 57 11 = σ 57 11) ∧ (p' = l.length → τ 57 11 = 0 ∧ (p < p' → τ 45 0 = Int32.ofNat (zX (l.foldl (fin P) (z0 A))) ∧ τ 45 1 = Int32.ofNat (zY (l.foldl (fin P) (z0 A)))) ∧ (p = p' → τ 45 = σ 45)) := by
  have hm := W.1
  intro q
  induction q with
  | zero =>
    intro p σ hpl C hL hz h4 h12 hTp
    have h1 : l.length ≤ p := by omega
    have e3 := hL.1
    refine ⟨up2 σ 57 11 0, p, ?_, Nat.le_refl _, by omega, FrS_57 (by omega), hTp, by rw [up2_n _ _ (by omega)]; exact h4, ZC_congr (up2_n _ _ (by omega)) (up2_n _ _ (by omega)) (fun j hj => up2_n _ _ (by omega)) (fun s hs => up2_row _ _ (by omega)) W hz, fun z => by omega, fun _ => ⟨up2_s _ _ _ _, fun z => by omega, fun _ => up2_row _ _ (by omega)⟩⟩
    rw [sg_X3_settle_0]
    simp (disch := omega) only [bq_s, aq_I, aq_R, aq_V, cq_t, cq_f, if_true, if_false, Bool.true_and, Bool.and_true, Bool.or_true, Bool.true_or, gi_45_0, gi_45_1, gi_45_2, gi_45_3, gi_59_0, gi_59_1, gi_59_2, gi_59_3, gi_57_3, gi_57_4, gi_57_6, gi_57_8, gi_57_9, gi_57_10, gi_57_11, gi_57_12, gi_57_13, gi_57_14, gi_l, pi_45_0, pi_45_1, pi_45_2, pi_45_3, pi_59_0, pi_59_1, pi_59_2, pi_59_3, pi_57_3, pi_57_4, pi_57_6, pi_57_8, pi_57_9, pi_57_10, pi_57_11, pi_57_12, pi_57_13, pi_57_14, pi_l, gr_57_0, gr_57_1, gr_57_2, gr_57_5, gr_57_7, ld_60, sv_60, is_45, is_59, is_57, is_l, lr_58, ia_0, ia_1, is_m0, is_m1, im_8, ml_8, im_11, ml_11, im_12, ml_12, im_88, ml_88, im_89, ml_89, j_lt_0, j_gt_0, j_le_0, j_ge_0, j_eq_0, j_lt_1, j_gt_1, j_le_1, j_ge_1, j_eq_1, j_lt_2, j_gt_2, j_le_2, j_ge_2, j_eq_2, j_lt_3, j_gt_3, j_le_3, j_ge_3, j_eq_3, j_lt_4, j_gt_4, j_le_4, j_ge_4, j_eq_4, j_lt_5, j_gt_5, j_le_5, j_ge_5, j_eq_5, j_lt_6, j_gt_6, j_le_6, j_ge_6, j_eq_6, j_lt_8, j_gt_8, j_le_8, j_ge_8, j_eq_8, j_lt_12, j_gt_12, j_le_12, j_ge_12, j_eq_12, j_lt_209, j_gt_209, j_le_209, j_ge_209, j_eq_209, j_lt_255, j_gt_255, j_le_255, j_ge_255, j_eq_255, j_lt_1000000000, j_gt_1000000000, j_le_1000000000, j_ge_1000000000, j_eq_1000000000, h4, e3, i_le, h1, sg_X3_settle_56]
  | succ q ih =>
    intro p σ hpl C hL hz h4 h12 hTp
    have h1 : ¬ l.length ≤ p := by omega
    have e3 := hL.1
    obtain ⟨f, hf⟩ : ∃ f, l[p]? = some f := ⟨l[p]'(by omega), List.getElem?_eq_getElem (by omega)⟩
    obtain ⟨o1, o2⟩ := okL_take hok p
    rw [drop_get hf] at o2
    obtain ⟨g0, g1, g2, g3, g4, g5, g6, g7, g8, g9, g10⟩ := hL.2.2 p f hf
    have hp209 : p < 209 := by omega
    have hfT : tot (l.take p) + fL f ≤ tot l := by
      have := tot_take l (p + 1)
      rw [take_get hf, tot_app, tot_one] at this
      exact this
    by_cases hq : T < tot (l.take p) + fL f
    · have hu := fU_le W f
      have hW := fW_le o2.1
      have C1 : ∀ v, σ (61 + p) = (up2 σ 45 0 v) (61 + p) := fun v => (up2_row _ _ (by omega)).symm
      have xb := kc_xby (tb := tb) (d := d + 1) (c := c) (t := t) (g := g) (fl := fl) (tg := tg) hp209 g10 g3 g9 g5 g7 hTp hT hu hW
      have yb := kc_yby (tb := tb) (d := d + 1) (c := c) (t := t) (g := g) (fl := fl) (tg := tg) (σ := up2 σ 45 0 (whI (fX f) (gX f) (fW f) ((T - tot (l.take p)) / fU P f))) hp209 (by rw [← C1]; exact g10) (by rw [← C1]; exact g3) (by rw [← C1]; exact g9) (by rw [← C1]; exact g6) (by rw [← C1]; exact g8) hTp hT hu hW
      refine ⟨up2 (up2 σ 45 0 (whI (fX f) (gX f) (fW f) ((T - tot (l.take p)) / fU P f))) 45 1 (whI (fY f) (gY f) (fW f) ((T - tot (l.take p)) / fU P f)), p, ?_, Nat.le_refl _, by omega, FrS_trans FrS_45 FrS_45, hTp, by simp (disch := omega) only [up2_row]; exact h4, ZC_congr (by simp (disch := omega) only [up2_n]) (by simp (disch := omega) only [up2_n]) (fun j hj => by simp (disch := omega) only [up2_row]) (fun s hs => by simp (disch := omega) only [up2_row]) W hz, fun _ => ⟨f, hf, hq, by simp (disch := omega) only [up2_n, up2_s], by simp (disch := omega) only [up2_s], by simp (disch := omega) only [up2_row]⟩, fun z => by omega⟩
      rw [sg_X3_settle_0]
      simp (disch := omega) only [bq_s, aq_I, aq_R, aq_V, cq_t, cq_f, if_true, if_false, Bool.true_and, Bool.and_true, Bool.or_true, Bool.true_or, gi_45_0, gi_45_1, gi_45_2, gi_45_3, gi_59_0, gi_59_1, gi_59_2, gi_59_3, gi_57_3, gi_57_4, gi_57_6, gi_57_8, gi_57_9, gi_57_10, gi_57_11, gi_57_12, gi_57_13, gi_57_14, gi_l, pi_45_0, pi_45_1, pi_45_2, pi_45_3, pi_59_0, pi_59_1, pi_59_2, pi_59_3, pi_57_3, pi_57_4, pi_57_6, pi_57_8, pi_57_9, pi_57_10, pi_57_11, pi_57_12, pi_57_13, pi_57_14, pi_l, gr_57_0, gr_57_1, gr_57_2, gr_57_5, gr_57_7, ld_60, sv_60, is_45, is_59, is_57, is_l, lr_58, ia_0, ia_1, is_m0, is_m1, im_8, ml_8, im_11, ml_11, im_12, ml_12, im_88, ml_88, im_89, ml_89, j_lt_0, j_gt_0, j_le_0, j_ge_0, j_eq_0, j_lt_1, j_gt_1, j_le_1, j_ge_1, j_eq_1, j_lt_2, j_gt_2, j_le_2, j_ge_2, j_eq_2, j_lt_3, j_gt_3, j_le_3, j_ge_3, j_eq_3, j_lt_4, j_gt_4, j_le_4, j_ge_4, j_eq_4, j_lt_5, j_gt_5, j_le_5, j_ge_5, j_eq_5, j_lt_6, j_gt_6, j_le_6, j_ge_6, j_eq_6, j_lt_8, j_gt_8, j_le_8, j_ge_8, j_eq_8, j_lt_12, j_gt_12, j_le_12, j_ge_12, j_eq_12, j_lt_209, j_gt_209, j_le_209, j_ge_209, j_eq_209, j_lt_255, j_gt_255, j_le_255, j_ge_255, j_eq_255, j_lt_1000000000, j_gt_1000000000, j_le_1000000000, j_ge_1000000000, j_eq_1000000000, h4, e3, i_le, h1, g4, h12, i_lt, hq, sg_X3_settle_56, xb, up2_row, yb]
    · have hWb : zW ((l.take p).foldl (fin P) (z0 A)) ≤ 1000000 := by
        rw [fold_W]
        have h1 := wtS_le (l.take p)
        have h2 := tot_take l p
        have : zW (z0 A) = 0 := rfl
        omega
      have hUb : zU ((l.take p).foldl (fin P) (z0 A)) ≤ 1000000 := by
        have h1 := fold_U o1
        have h2 := List.length_take_le p l
        have : zU (z0 A) = 0 := rfl
        have h3 : (l.take p).length ≤ l.length := by rw [List.length_take]; omega
        omega
      obtain ⟨τ1, a1, a2, a3, a4, a5, a6, a7⟩ := kc_fin (tb := tb) (d := d) (c := c) (t := t) (g := g) (fl := fl) (tg := tg) C W hL hl hf hz o2.1 (by rw [fold_T]; show 0 + _ = _; omega) (by omega) hWb hUb
      have F1 : FrS σ (up2 τ1 57 4 (Int32.ofNat (p + 1))) := FrS_trans a5 (FrS_57 (by omega))
      have ez : (l.take (p + 1)).foldl (fin P) (z0 A) = fin P ((l.take p).foldl (fin P) (z0 A)) f := by rw [take_get hf, List.foldl_append]; rfl
      have hz1 : ZC P ((l.take (p + 1)).foldl (fin P) (z0 A)) (up2 τ1 57 4 (Int32.ofNat (p + 1))) := by
        rw [ez]
        exact ZC_congr (up2_n _ _ (by omega)) (up2_n _ _ (by omega)) (fun j hj => up2_n _ _ (by omega)) (fun s hs => up2_row _ _ (by omega)) W a2
      obtain ⟨τ, p', b1, b2, b3, b4, b5, b6, b7, b8, b9⟩ := ih (p + 1) (up2 τ1 57 4 (Int32.ofNat (p + 1))) (by omega) (FrS_ShC W F1 C) (FrS_LgC F1 hl hL) hz1 (up2_s _ _ _ _) (by rw [up2_n _ _ (by omega), a5.2.1 12 (by decide) (by decide) (by decide) (by decide) (by decide)]; exact h12) (by rw [take_get hf, tot_app, tot_one]; omega)
      refine ⟨τ, p', ?_, by omega, b3, FrS_trans F1 b4, b5, b6, b7, fun hlt => ?_, fun heq => ?_⟩
      · rw [sg_X3_settle_0]
        simp (disch := omega) only [bq_s, aq_I, aq_R, aq_V, cq_t, cq_f, if_true, if_false, Bool.true_and, Bool.and_true, Bool.or_true, Bool.true_or, gi_45_0, gi_45_1, gi_45_2, gi_45_3, gi_59_0, gi_59_1, gi_59_2, gi_59_3, gi_57_3, gi_57_4, gi_57_6, gi_57_8, gi_57_9, gi_57_10, gi_57_11, gi_57_12, gi_57_13, gi_57_14, gi_l, pi_45_0, pi_45_1, pi_45_2, pi_45_3, pi_59_0, pi_59_1, pi_59_2, pi_59_3, pi_57_3, pi_57_4, pi_57_6, pi_57_8, pi_57_9, pi_57_10, pi_57_11, pi_57_12, pi_57_13, pi_57_14, pi_l, gr_57_0, gr_57_1, gr_57_2, gr_57_5, gr_57_7, ld_60, sv_60, is_45, is_59, is_57, is_l, lr_58, ia_0, ia_1, is_m0, is_m1, im_8, ml_8, im_11, ml_11, im_12, ml_12, im_88, ml_88, im_89, ml_89, j_lt_0, j_gt_0, j_le_0, j_ge_0, j_eq_0, j_lt_1, j_gt_1, j_le_1, j_ge_1, j_eq_1, j_lt_2, j_gt_2, j_le_2, j_ge_2, j_eq_2, j_lt_3, j_gt_3, j_le_3, j_ge_3, j_eq_3, j_lt_4, j_gt_4, j_le_4, j_ge_4, j_eq_4, j_lt_5, j_gt_5, j_le_5, j_ge_5, j_eq_5, j_lt_6, j_gt_6, j_le_6, j_ge_6, j_eq_6, j_lt_8, j_gt_8, j_le_8, j_ge_8, j_eq_8, j_lt_12, j_gt_12, j_le_12, j_ge_12, j_eq_12, j_lt_209, j_gt_209, j_le_209, j_ge_209, j_eq_209, j_lt_255, j_gt_255, j_le_255, j_ge_255, j_eq_255, j_lt_1000000000, j_gt_1000000000, j_le_1000000000, j_ge_1000000000, j_eq_1000000000, h4, e3, i_le, h1, g4, h12, i_lt, hq, a1, a6]
        exact b1
      · obtain ⟨f', c1, c2, c3, c4, c5⟩ := b8 hlt
        refine ⟨f', c1, c2, c3, c4, ?_⟩
        rw [c5, up2_n _ _ (by omega), a7]
      · obtain ⟨c1, c2, c3⟩ := b9 heq
        refine ⟨c1, fun _ => ?_, fun z => by omega⟩
        by_cases e : p + 1 < p'
        · exact c2 e
        · have e2 : p' = p + 1 := by omega
          have e4 : p + 1 = l.length := by omega
          have e3 : l.foldl (fin P) (z0 A) = (l.take (p + 1)).foldl (fin P) (z0 A) := by rw [e4, List.take_length]
          have hzx : zX (l.foldl (fin P) (z0 A)) = gX f ∧ zY (l.foldl (fin P) (z0 A)) = gY f := by
            rw [e3, ez]
            unfold fin
            constructor <;> (split <;> first | rfl | (split <;> rfl))
          rw [hzx.1, hzx.2, c3 e2.symm, up2_row _ _ (by omega)]
          exact ⟨a3, a4⟩
end CST
