/-! THE REFERENCE LAYS ITS PHASES -/
section MLY
theorem bq_s {α β : Type} (a : α) (f : α → Option β) : (some a).bind f = f a := (Eq.refl _).trans rfl
theorem aq_I {ρ : Type} (x : Int32) (h : dH) (K : Int32 → dH → Option ρ) : dm_asI (some (some (.int x), h)) K = K x h := (Eq.refl _).trans rfl
theorem aq_R {ρ : Type} (x : Nat) (h : dH) (K : Nat → dH → Option ρ) : dm_asR (some (some (.ref x), h)) K = K x h := (Eq.refl _).trans rfl
theorem aq_V {ρ : Type} (h : dH) (K : dH → Option ρ) : dm_asV (some (none, h)) K = K h := (Eq.refl _).trans rfl
theorem cq_t {α : Type} (a b : α) : (bif true then a else b) = a := (Eq.refl _).trans rfl
theorem cq_f {α : Type} (a b : α) : (bif false then a else b) = b := (Eq.refl _).trans rfl
def PhM (l : List dF) (σ : dSg) : Prop := σ 270 34 = Int32.ofNat l.length ∧ σ 270 35 = Int32.ofNat (tot l) ∧ ∀ p f, l[p]? = some f → σ 285 p = Int32.ofNat (fK f) ∧ σ 286 p = Int32.ofNat (tot (l.take p)) ∧ σ 287 p = Int32.ofNat (fL f) ∧ σ 288 p = encS (fS f) ∧ σ 289 p = Int32.ofNat (fX f) ∧ σ 290 p = Int32.ofNat (fY f) ∧ σ 291 p = Int32.ofNat (gX f) ∧ σ 292 p = Int32.ofNat (gY f) ∧ σ 293 p = fP f
/-- what laying changes -/
def FrL (σ τ : dSg) : Prop := (∀ a, a < 270 ∨ (271 ≤ a ∧ a < 285) ∨ 294 < a → τ a = σ a) ∧ ∀ j, j ≠ 34 → j ≠ 35 → τ 270 j = σ 270 j
theorem FrL_refl (σ : dSg) : FrL σ σ := ⟨fun _ _ => rfl, fun _ _ _ => rfl⟩
theorem FrL_trans {σ τ υ : dSg} (h : FrL σ τ) (h2 : FrL τ υ) : FrL σ υ := ⟨fun a ha => (h2.1 a ha).trans (h.1 a ha), fun j h3 h4 => (h2.2 j h3 h4).trans (h.2 j h3 h4)⟩
theorem FrL_up {σ : dSg} {a j : Nat} {v : Int32} (h : (285 ≤ a ∧ a < 295) ∨ (a = 270 ∧ (j = 34 ∨ j = 35))) : FrL σ (up2 σ a j v) := ⟨fun b hb => up2_row σ v (by omega), fun k h1 h2 => up2_n σ v (by omega)⟩
theorem FrL_ShM {P : dP} {σ τ : dSg} (h : FrL σ τ) (C : ShM P σ) : ShM P τ := ShM_congr C (fun a h1 h2 => h.1 a (by omega)) (h.2 10 (by decide) (by decide))
variable {tb : dT} {d c t : Nat} {g : Nat → Option dE} {fl : Nat → Bool} {tg : Nat} {σ : dSg} {P : dP} {A : dA} {os ob : Nat → Nat}
theorem PhM_congr {l : List dF} {τ : dSg} (h : ∀ a, 285 ≤ a → a < 294 → τ a = σ a) (h1 : τ 270 34 = σ 270 34) (h2 : τ 270 35 = σ 270 35) (C : PhM l σ) : PhM l τ := by
  refine ⟨by rw [h1]; exact C.1, by rw [h2]; exact C.2.1, fun p f hp => ?_⟩
  rw [h 285 (by omega) (by omega), h 286 (by omega) (by omega), h 287 (by omega) (by omega), h 288 (by omega) (by omega), h 289 (by omega) (by omega), h 290 (by omega) (by omega), h 291 (by omega) (by omega), h 292 (by omega) (by omega), h 293 (by omega) (by omega)]
  exact C.2.2 p f hp
theorem km_phase {l : List dF} (h : PhM l σ) (hl : l.length < 400) (f : dF) {l1 l2 l3 l4 l5 l6 l7 l8 : Int32} (h1 : l1 = Int32.ofNat (fK f)) (h2 : l2 = Int32.ofNat (fL f)) (h3 : l3 = encS (fS f)) (h4 : l4 = Int32.ofNat (fX f)) (h5 : l5 = Int32.ofNat (fY f)) (h6 : l6 = Int32.ofNat (gX f)) (h7 : l7 = Int32.ofNat (gY f)) (h8 : l8 = fP f) : ∃ τ, dX tb d 122 0 [.ref 270, .int l1, .int l2, .int l3, .int l4, .int l5, .int l6, .int l7, .int l8] [] (c, t, hp g (SH fl tg) σ) = some (none, (c, t, hp g (SH fl tg) τ)) ∧ PhM (l ++ [f]) τ ∧ FrL σ τ ∧ τ 294 = σ 294 := by
  obtain ⟨e1, e2, e3⟩ := h
  refine ⟨up2 (up2 (up2 (up2 (up2 (up2 (up2 (up2 (up2 (up2 (up2 σ 285 l.length l1) 286 l.length (Int32.ofNat (tot l))) 287 l.length l2) 288 l.length l3) 289 l.length l4) 290 l.length l5) 291 l.length l6) 292 l.length l7) 293 l.length l8) 270 34 (Int32.ofNat (l.length + 1))) 270 35 (Int32.ofNat (tot l) + l2), ?_, ⟨?_, ?_, fun p f' hp => ?_⟩, ?_, ?_⟩
  · rw [sg_X7_phase_0]
    simp (disch := omega) only [bq_s, aq_I, aq_R, aq_V, cq_t, cq_f, if_true, if_false, Bool.true_and, Bool.and_true, Bool.or_true, Bool.true_or, gi_270_0, gi_270_10, gi_270_11, gi_270_12, gi_270_13, gi_270_14, gi_270_15, gi_270_21, gi_270_22, gi_270_23, gi_270_34, gi_270_35, gi_270_36, pi_270_0, pi_270_10, pi_270_11, pi_270_12, pi_270_13, pi_270_14, pi_270_15, pi_270_21, pi_270_22, pi_270_23, pi_270_34, pi_270_35, pi_270_36, gr_270_1, gr_270_2, gr_270_3, gr_270_4, gr_270_5, gr_270_6, gr_270_7, gr_270_8, gr_270_9, gr_270_16, gr_270_17, gr_270_18, gr_270_19, gr_270_20, gr_270_24, gr_270_25, gr_270_26, gr_270_27, gr_270_28, gr_270_29, gr_270_30, gr_270_31, gr_270_32, gr_270_33, ld_271, ld_272, ld_273, ld_274, ld_275, ld_276, ld_277, ld_278, ld_279, ld_280, ld_281, ld_282, ld_283, ld_284, ld_285, ld_286, ld_287, ld_288, ld_289, ld_290, ld_291, ld_292, ld_293, ld_294, sv_271, sv_272, sv_273, sv_274, sv_275, sv_276, sv_277, sv_278, sv_279, sv_280, sv_281, sv_282, sv_283, sv_284, sv_285, sv_286, sv_287, sv_288, sv_289, sv_290, sv_291, sv_292, sv_293, sv_294, is_270, e1, e2, up2_n, up2_row, ia_1]
  · simp (disch := omega) only [up2_s, up2_n]
    rw [List.length_append, List.length_singleton]
  · rw [up2_s, h2, i_add, tot_app, tot_one]
  · rw [List.getElem?_append] at hp
    split at hp
    · rename_i hlt
      have := e3 p f' hp
      rw [List.take_append_of_le_length (by omega)]
      simp (disch := omega) only [up2_n, up2_row]
      exact this
    · rename_i hge
      have hp1 : p = l.length := by
        have := List.getElem?_eq_some_iff.mp hp
        obtain ⟨q, -⟩ := this
        rw [List.length_singleton] at q
        omega
      subst hp1
      rw [Nat.sub_self] at hp
      have : f' = f := by simpa using hp.symm
      subst this
      rw [List.take_left]
      simp (disch := omega) only [up2_s, up2_n]
      exact ⟨h1, trivial, h2, h3, h4, h5, h6, h7, h8⟩
  · exact FrL_trans (FrL_up (by omega)) (FrL_trans (FrL_up (by omega)) (FrL_trans (FrL_up (by omega)) (FrL_trans (FrL_up (by omega)) (FrL_trans (FrL_up (by omega)) (FrL_trans (FrL_up (by omega)) (FrL_trans (FrL_up (by omega)) (FrL_trans (FrL_up (by omega)) (FrL_trans (FrL_up (by omega)) (FrL_trans (FrL_up (by omega)) (FrL_up (by omega)))))))))))
  · simp (disch := omega) only [up2_row]
theorem encS_lt {s : Nat} (h : s < 8) : encS s = Int32.ofNat s := if_neg (by omega)
/-- the pieces -/
theorem km_ly347 (C0 : ShM P σ) (W : Wf P) {s b : Nat} (hs : s < pM P) (hb : b < bgn P s) (h2 : 2 ≤ pN P s) {l0 : List dF} (hl0 : l0.length ≤ 240) {l1 l2 l3 l4 l5 l8 l9 l10 : Int32} : ∀ q k (τ : dSg), k + q + 1 = pN P s → FrL σ τ → τ 294 = σ 294 → PhM (l0 ++ pcP P s b k) τ → ∃ τ', dX tb (d + 5) 123 347 [.ref 270, .int l1, .int l2, .int l3, .int l4, .int l5, .int (Int32.ofNat s), .int (Int32.ofNat b), .int l8, .int l9, .int l10, .int (Int32.ofNat k)] [] (c, t, hp g (SH fl tg) τ) = dX tb (d + 5) 123 347 [.ref 270, .int l1, .int l2, .int l3, .int l4, .int l5, .int (Int32.ofNat s), .int (Int32.ofNat b), .int l8, .int l9, .int l10, .int (Int32.ofNat (pN P s - 1))] [] (c, t, hp g (SH fl tg) (τ')) ∧ FrL σ τ' ∧ τ' 294 = σ 294 ∧ PhM (l0 ++ pcP P s b (pN P s - 1)) τ' := by
  have hm := W.1
  have hn := (W.2.1 s hs).1
  intro q
  induction q with
  | zero =>
    intro k τ hk hF h294 hP
    rw [show pN P s - 1 = k by omega]
    exact ⟨τ, rfl, hF, h294, hP⟩
  | succ q ih =>
    intro k τ hk hF h294 hP
    have C := FrL_ShM hF C0
    have h1 : ¬ pN P s ≤ k + 1 := by omega
    obtain ⟨e1, e2, e3, e4, e5, e6⟩ := C.2.2.1 s hs
    have c4 := C.2.1 4 (by decide)
    have hle := pcP_len P s b k
    have hle2 : (pcP P s b k).length ≤ 24 := by split at hle <;> omega
    have drw : ∀ (υ : dSg) (m : List dF), FrL σ υ → υ 294 = σ 294 → m.length ≤ 300 → PhM m υ → ∃ υ', dX tb (d + 5) 123 440 [.ref 270, .int l1, .int l2, .int l3, .int l4, .int l5, .int (Int32.ofNat s), .int (Int32.ofNat b), .int l8, .int l9, .int l10, .int (Int32.ofNat k)] [] (c, t, hp g (SH fl tg) υ) = dX tb (d + 5) 123 347 [.ref 270, .int l1, .int l2, .int l3, .int l4, .int l5, .int (Int32.ofNat s), .int (Int32.ofNat b), .int l8, .int l9, .int l10, .int (Int32.ofNat (k + 1))] [] (c, t, hp g (SH fl tg) (υ')) ∧ FrL σ υ' ∧ υ' 294 = σ 294 ∧ PhM (m ++ [drP P s b k]) υ' := by
      intro υ m u1 u2 u3 u4
      have D := FrL_ShM u1 C0
      have f2 := (D.2.2.1 s hs).2.1
      have x2 := dXn_le (b := b) (k := k) W hs (by omega)
      have y2 := dYn_le (b := b) (k := k) W hs (by omega)
      have x1 := dXn_le (b := b) (k := k + 1) W hs (by omega)
      have y1 := dYn_le (b := b) (k := k + 1) W hs (by omega)
      obtain ⟨υ', g1, g2, g3, g4⟩ := km_phase (tb := tb) (d := d + 4) (c := c) (t := t) (g := g) (fl := fl) (tg := tg) u4 (by omega) (drP P s b k) (l1 := 5) (l2 := Int32.ofNat (pPr P 0 * way1 P s b k)) (l3 := Int32.ofNat s) (l4 := Int32.ofNat (dXn P s b k)) (l5 := Int32.ofNat (dYn P s b k)) (l6 := Int32.ofNat (dXn P s b (k + 1))) (l7 := Int32.ofNat (dYn P s b (k + 1))) (l8 := Int32.ofNat (pPen P s)) rfl rfl (encS_lt (by omega)).symm rfl rfl rfl rfl rfl
      refine ⟨υ', ?_, FrL_trans u1 g3, by rw [g4, u2], g2⟩
      rw [sg_X7_lay_440]
      simp (disch := omega) only [Option.bind_some, as_I, as_R, as_V, ct_t, ct_f, if_true, if_false, Bool.true_and, Bool.and_true, Bool.or_true, Bool.true_or, gi_270_0, gi_270_10, gi_270_11, gi_270_12, gi_270_13, gi_270_14, gi_270_15, gi_270_21, gi_270_22, gi_270_23, gi_270_34, gi_270_35, gi_270_36, pi_270_0, pi_270_10, pi_270_11, pi_270_12, pi_270_13, pi_270_14, pi_270_15, pi_270_21, pi_270_22, pi_270_23, pi_270_34, pi_270_35, pi_270_36, gr_270_1, gr_270_2, gr_270_3, gr_270_4, gr_270_5, gr_270_6, gr_270_7, gr_270_8, gr_270_9, gr_270_16, gr_270_17, gr_270_18, gr_270_19, gr_270_20, gr_270_24, gr_270_25, gr_270_26, gr_270_27, gr_270_28, gr_270_29, gr_270_30, gr_270_31, gr_270_32, gr_270_33, ld_271, ld_272, ld_273, ld_274, ld_275, ld_276, ld_277, ld_278, ld_279, ld_280, ld_281, ld_282, ld_283, ld_284, ld_285, ld_286, ld_287, ld_288, ld_289, ld_290, ld_291, ld_292, ld_293, ld_294, sv_271, sv_272, sv_273, sv_274, sv_275, sv_276, sv_277, sv_278, sv_279, sv_280, sv_281, sv_282, sv_283, sv_284, sv_285, sv_286, sv_287, sv_288, sv_289, sv_290, sv_291, sv_292, sv_293, sv_294, is_270, lp_0, lp_1, lp_2, lp_3, lp_4, lq_0, lq_1, lq_2, lq_3, lq_4, lx_0, ly_0, ia_1, km_dx D W hs hb, km_dy D W hs hb, sg_X7_way_0, i_way x2 y2 x1 y1, D.2.1 0 (by decide), i_mul, f2]
      rw [show wayN (dXn P s b k) (dYn P s b k) (dXn P s b (k + 1)) (dYn P s b (k + 1)) = way1 P s b k from rfl, g1, as_V]
    have nx : ∀ υ, FrL σ υ → υ 294 = σ 294 → PhM (l0 ++ pcP P s b (k + 1)) υ → ∃ τ', dX tb (d + 5) 123 347 [.ref 270, .int l1, .int l2, .int l3, .int l4, .int l5, .int (Int32.ofNat s), .int (Int32.ofNat b), .int l8, .int l9, .int l10, .int (Int32.ofNat (k + 1))] [] (c, t, hp g (SH fl tg) υ) = dX tb (d + 5) 123 347 [.ref 270, .int l1, .int l2, .int l3, .int l4, .int l5, .int (Int32.ofNat s), .int (Int32.ofNat b), .int l8, .int l9, .int l10, .int (Int32.ofNat (pN P s - 1))] [] (c, t, hp g (SH fl tg) (τ')) ∧ FrL σ τ' ∧ τ' 294 = σ 294 ∧ PhM (l0 ++ pcP P s b (pN P s - 1)) τ' := fun υ u1 u2 u3 => ih (k + 1) υ (by omega) u1 u2 u3
    rw [show pcP P s b (k + 1) = pcP P s b k ++ (bif cor1 P s b k then [crP P s b k] else []) ++ [drP P s b k] from rfl, show cor1 P s b k = (Nat.blt 0 k && cor P s b k) from rfl] at nx
    have go : ∀ (υ : dSg) (m : List dF), FrL σ υ → υ 294 = σ 294 → m.length ≤ 300 → PhM m υ → m ++ [drP P s b k] = l0 ++ (pcP P s b k ++ (bif (Nat.blt 0 k && cor P s b k) then [crP P s b k] else []) ++ [drP P s b k]) → ∃ τ', dX tb (d + 5) 123 440 [.ref 270, .int l1, .int l2, .int l3, .int l4, .int l5, .int (Int32.ofNat s), .int (Int32.ofNat b), .int l8, .int l9, .int l10, .int (Int32.ofNat k)] [] (c, t, hp g (SH fl tg) υ) = dX tb (d + 5) 123 347 [.ref 270, .int l1, .int l2, .int l3, .int l4, .int l5, .int (Int32.ofNat s), .int (Int32.ofNat b), .int l8, .int l9, .int l10, .int (Int32.ofNat (pN P s - 1))] [] (c, t, hp g (SH fl tg) (τ')) ∧ FrL σ τ' ∧ τ' 294 = σ 294 ∧ PhM (l0 ++ pcP P s b (pN P s - 1)) τ' := by
      intro υ m u1 u2 u3 u4 u5
      obtain ⟨υ', a1, a2, a3, a4⟩ := drw υ m u1 u2 u3 u4
      rw [u5] at a4
      obtain ⟨τ', b1, b2⟩ := nx υ' a2 a3 a4
      exact ⟨τ', a1.trans b1, b2⟩
    rw [sg_X7_lay_347]
    simp (disch := omega) only [Option.bind_some, as_I, as_R, as_V, ct_t, ct_f, if_true, if_false, Bool.true_and, Bool.and_true, Bool.or_true, Bool.true_or, gi_270_0, gi_270_10, gi_270_11, gi_270_12, gi_270_13, gi_270_14, gi_270_15, gi_270_21, gi_270_22, gi_270_23, gi_270_34, gi_270_35, gi_270_36, pi_270_0, pi_270_10, pi_270_11, pi_270_12, pi_270_13, pi_270_14, pi_270_15, pi_270_21, pi_270_22, pi_270_23, pi_270_34, pi_270_35, pi_270_36, gr_270_1, gr_270_2, gr_270_3, gr_270_4, gr_270_5, gr_270_6, gr_270_7, gr_270_8, gr_270_9, gr_270_16, gr_270_17, gr_270_18, gr_270_19, gr_270_20, gr_270_24, gr_270_25, gr_270_26, gr_270_27, gr_270_28, gr_270_29, gr_270_30, gr_270_31, gr_270_32, gr_270_33, ld_271, ld_272, ld_273, ld_274, ld_275, ld_276, ld_277, ld_278, ld_279, ld_280, ld_281, ld_282, ld_283, ld_284, ld_285, ld_286, ld_287, ld_288, ld_289, ld_290, ld_291, ld_292, ld_293, ld_294, sv_271, sv_272, sv_273, sv_274, sv_275, sv_276, sv_277, sv_278, sv_279, sv_280, sv_281, sv_282, sv_283, sv_284, sv_285, sv_286, sv_287, sv_288, sv_289, sv_290, sv_291, sv_292, sv_293, sv_294, is_270, ia_0, ia_1, is_m0, is_m1, im_8, ml_8, im_11, ml_11, im_12, ml_12, im_88, ml_88, im_89, ml_89, j_lt_0, j_gt_0, j_le_0, j_ge_0, j_eq_0, j_lt_1, j_gt_1, j_le_1, j_ge_1, j_eq_1, j_lt_2, j_gt_2, j_le_2, j_ge_2, j_eq_2, j_lt_3, j_gt_3, j_le_3, j_ge_3, j_eq_3, j_lt_4, j_gt_4, j_le_4, j_ge_4, j_eq_4, j_lt_5, j_gt_5, j_le_5, j_ge_5, j_eq_5, j_lt_6, j_gt_6, j_le_6, j_ge_6, j_eq_6, j_lt_8, j_gt_8, j_le_8, j_ge_8, j_eq_8, j_lt_12, j_gt_12, j_le_12, j_ge_12, j_eq_12, j_lt_209, j_gt_209, j_le_209, j_ge_209, j_eq_209, j_lt_255, j_gt_255, j_le_255, j_ge_255, j_eq_255, j_lt_1000000000, j_gt_1000000000, j_le_1000000000, j_ge_1000000000, j_eq_1000000000, e1, i_le, h1]
    by_cases hk0 : k ≤ 0
    · rw [if_pos hk0]
      refine go τ (l0 ++ pcP P s b k) hF h294 (by rw [List.length_append]; omega) hP ?_
      rw [show Nat.blt 0 k = false from blt_f hk0, Bool.false_and, cond_false, List.append_nil, List.append_assoc]
    · rw [if_neg hk0]
      simp (disch := omega) only [Option.bind_some, as_I, as_R, as_V, ct_t, ct_f, if_true, if_false, Bool.true_and, Bool.and_true, Bool.or_true, Bool.true_or, gi_270_0, gi_270_10, gi_270_11, gi_270_12, gi_270_13, gi_270_14, gi_270_15, gi_270_21, gi_270_22, gi_270_23, gi_270_34, gi_270_35, gi_270_36, pi_270_0, pi_270_10, pi_270_11, pi_270_12, pi_270_13, pi_270_14, pi_270_15, pi_270_21, pi_270_22, pi_270_23, pi_270_34, pi_270_35, pi_270_36, gr_270_1, gr_270_2, gr_270_3, gr_270_4, gr_270_5, gr_270_6, gr_270_7, gr_270_8, gr_270_9, gr_270_16, gr_270_17, gr_270_18, gr_270_19, gr_270_20, gr_270_24, gr_270_25, gr_270_26, gr_270_27, gr_270_28, gr_270_29, gr_270_30, gr_270_31, gr_270_32, gr_270_33, ld_271, ld_272, ld_273, ld_274, ld_275, ld_276, ld_277, ld_278, ld_279, ld_280, ld_281, ld_282, ld_283, ld_284, ld_285, ld_286, ld_287, ld_288, ld_289, ld_290, ld_291, ld_292, ld_293, ld_294, sv_271, sv_272, sv_273, sv_274, sv_275, sv_276, sv_277, sv_278, sv_279, sv_280, sv_281, sv_282, sv_283, sv_284, sv_285, sv_286, sv_287, sv_288, sv_289, sv_290, sv_291, sv_292, sv_293, sv_294, is_270, ia_0, ia_1, is_m0, is_m1, im_8, ml_8, im_11, ml_11, im_12, ml_12, im_88, ml_88, im_89, ml_89, j_lt_0, j_gt_0, j_le_0, j_ge_0, j_eq_0, j_lt_1, j_gt_1, j_le_1, j_ge_1, j_eq_1, j_lt_2, j_gt_2, j_le_2, j_ge_2, j_eq_2, j_lt_3, j_gt_3, j_le_3, j_ge_3, j_eq_3, j_lt_4, j_gt_4, j_le_4, j_ge_4, j_eq_4, j_lt_5, j_gt_5, j_le_5, j_ge_5, j_eq_5, j_lt_6, j_gt_6, j_le_6, j_ge_6, j_eq_6, j_lt_8, j_gt_8, j_le_8, j_ge_8, j_eq_8, j_lt_12, j_gt_12, j_le_12, j_ge_12, j_eq_12, j_lt_209, j_gt_209, j_le_209, j_ge_209, j_eq_209, j_lt_255, j_gt_255, j_le_255, j_ge_255, j_eq_255, j_lt_1000000000, j_gt_1000000000, j_le_1000000000, j_ge_1000000000, j_eq_1000000000, km_corner C W hs hb, bI_0]
      cases hc : cor P s b k
      · rw [if_pos rfl]
        refine go τ (l0 ++ pcP P s b k) hF h294 (by rw [List.length_append]; omega) hP ?_
        rw [hc, Bool.and_false, cond_false, List.append_nil, List.append_assoc]
      · rw [if_neg (by decide)]
        obtain ⟨υ', g1, g2, g3, g4⟩ := km_phase (tb := tb) (d := d + 4) (c := c) (t := t) (g := g) (fl := fl) (tg := tg) hP (by rw [List.length_append]; omega) (crP P s b k) (l1 := 6) (l2 := Int32.ofNat (pPr P 4)) (l3 := Int32.ofNat s) (l4 := Int32.ofNat (dXn P s b k)) (l5 := Int32.ofNat (dYn P s b k)) (l6 := Int32.ofNat (dXn P s b k)) (l7 := Int32.ofNat (dYn P s b k)) (l8 := Int32.ofNat (pPen P s)) rfl rfl (encS_lt (by omega)).symm rfl rfl rfl rfl rfl
        simp (disch := omega) only [Option.bind_some, as_I, as_R, as_V, ct_t, ct_f, if_true, if_false, Bool.true_and, Bool.and_true, Bool.or_true, Bool.true_or, gi_270_0, gi_270_10, gi_270_11, gi_270_12, gi_270_13, gi_270_14, gi_270_15, gi_270_21, gi_270_22, gi_270_23, gi_270_34, gi_270_35, gi_270_36, pi_270_0, pi_270_10, pi_270_11, pi_270_12, pi_270_13, pi_270_14, pi_270_15, pi_270_21, pi_270_22, pi_270_23, pi_270_34, pi_270_35, pi_270_36, gr_270_1, gr_270_2, gr_270_3, gr_270_4, gr_270_5, gr_270_6, gr_270_7, gr_270_8, gr_270_9, gr_270_16, gr_270_17, gr_270_18, gr_270_19, gr_270_20, gr_270_24, gr_270_25, gr_270_26, gr_270_27, gr_270_28, gr_270_29, gr_270_30, gr_270_31, gr_270_32, gr_270_33, ld_271, ld_272, ld_273, ld_274, ld_275, ld_276, ld_277, ld_278, ld_279, ld_280, ld_281, ld_282, ld_283, ld_284, ld_285, ld_286, ld_287, ld_288, ld_289, ld_290, ld_291, ld_292, ld_293, ld_294, sv_271, sv_272, sv_273, sv_274, sv_275, sv_276, sv_277, sv_278, sv_279, sv_280, sv_281, sv_282, sv_283, sv_284, sv_285, sv_286, sv_287, sv_288, sv_289, sv_290, sv_291, sv_292, sv_293, sv_294, is_270, ia_0, ia_1, is_m0, is_m1, im_8, ml_8, im_11, ml_11, im_12, ml_12, im_88, ml_88, im_89, ml_89, j_lt_0, j_gt_0, j_le_0, j_ge_0, j_eq_0, j_lt_1, j_gt_1, j_le_1, j_ge_1, j_eq_1, j_lt_2, j_gt_2, j_le_2, j_ge_2, j_eq_2, j_lt_3, j_gt_3, j_le_3, j_ge_3, j_eq_3, j_lt_4, j_gt_4, j_le_4, j_ge_4, j_eq_4, j_lt_5, j_gt_5, j_le_5, j_ge_5, j_eq_5, j_lt_6, j_gt_6, j_le_6, j_ge_6, j_eq_6, j_lt_8, j_gt_8, j_le_8, j_ge_8, j_eq_8, j_lt_12, j_gt_12, j_le_12, j_ge_12, j_eq_12, j_lt_209, j_gt_209, j_le_209, j_ge_209, j_eq_209, j_lt_255, j_gt_255, j_le_255, j_ge_255, j_eq_255, j_lt_1000000000, j_gt_1000000000, j_le_1000000000, j_ge_1000000000, j_eq_1000000000, lp_0, lp_1, lp_2, lp_3, lp_4, lq_0, lq_1, lq_2, lq_3, lq_4, lx_0, ly_0, km_dx C W hs hb, km_dy C W hs hb, c4, e2, g1]
        refine go υ' _ (FrL_trans hF g3) (by rw [g4, h294]) (by rw [List.length_append, List.length_append, List.length_singleton]; omega) g2 ?_
        rw [hc, show Nat.blt 0 k = true from Nat.blt_eq.mpr (by omega), Bool.and_true, cond_true, List.append_assoc, List.append_assoc, List.append_assoc]
end MLY
