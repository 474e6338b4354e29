/-! THE REFERENCE LAYS ITS PHASES, second part -/
section ML2
variable {tb : dT} {d c t : Nat} {g : Nat → Option dE} {fl : Nat → Bool} {tg : Nat} {σ : dSg} {P : dP} {A : dA} {os ob : Nat → Nat}
/-- how long to wait, by all strokes -/
noncomputable def tlU (P : dP) (en : Nat → Option Nat) (s w : Nat) : Nat → Nat
  | 0 => w
  | u + 1 => max (tlU P en s w u) (match en u with | none => 0 | some e => bif dcd (tch P s u) then e + pWet P u else 0)
def encE (v : Option Nat) : Int32 := match v with
  | none => -1
  | some e => Int32.ofNat e
def EnM (P : dP) (en : Nat → Option Nat) (σ : dSg) : Prop := ∀ s, s < pM P → σ 294 s = encE (en s)
theorem tlU_le {en : Nat → Option Nat} {s w z u : Nat} (h : w ≤ z) (h2 : ∀ v e, v < u → en v = some e → e + pWet P v ≤ z) : tlU P en s w u ≤ z := by
  induction u with
  | zero => exact h
  | succ u ih =>
    show max (tlU P en s w u) (match en u with | none => 0 | some e => bif dcd (tch P s u) then e + pWet P u else 0) ≤ z
    have h3 := ih fun v e hv => h2 v e (by omega)
    cases he : en u with
    | none => show max _ 0 ≤ z; omega
    | some e =>
      have := h2 u e (by omega) he
      show max _ (bif dcd (tch P s u) then e + pWet P u else 0) ≤ z
      cases dcd (tch P s u)
      · show max _ 0 ≤ z; omega
      · show max _ (e + pWet P u) ≤ z; omega
theorem tlU_ge {en : Nat → Option Nat} {s w u : Nat} : w ≤ tlU P en s w u ∧ ∀ v e, v < u → en v = some e → dcd (tch P s v) = true → e + pWet P v ≤ tlU P en s w u := by
  induction u with
  | zero => exact ⟨Nat.le_refl _, fun v e hv => absurd hv (Nat.not_lt_zero v)⟩
  | succ u ih =>
    show w ≤ max (tlU P en s w u) (match en u with | none => 0 | some e => bif dcd (tch P s u) then e + pWet P u else 0) ∧ ∀ v e, v < u + 1 → en v = some e → dcd (tch P s v) = true → e + pWet P v ≤ max (tlU P en s w u) (match en u with | none => 0 | some e => bif dcd (tch P s u) then e + pWet P u else 0)
    refine ⟨by omega, fun v e hv he ht => ?_⟩
    by_cases q : v = u
    · subst q
      rw [he]
      show _ ≤ max _ (bif dcd (tch P s v) then e + pWet P v else 0)
      rw [ht]
      show _ ≤ max _ (e + pWet P v)
      omega
    · have := ih.2 v e (by omega) he ht
      omega
theorem rdU_ge {en : Nat → Nat} {s i : Nat} : ∀ j, j < i → dcd (tch P s (os j)) = true → en j + pWet P (os j) ≤ rdU P os en s i := by
  induction i with
  | zero => intro j hj; omega
  | succ i ih =>
    intro j hj ht
    show _ ≤ max (rdU P os en s i) (bif dcd (tch P s (os i)) then en i + pWet P (os i) else 0)
    by_cases q : j = i
    · subst q
      rw [ht]
      show _ ≤ max _ (en j + pWet P (os j))
      omega
    · have := ih j (by omega) ht
      omega
theorem tlU_rd {en : Nat → Nat} {eo : Nat → Option Nat} {s w i : Nat} (h1 : ∀ j, j < i → eo (os j) = some (en j) ∧ os j < pM P) (h2 : ∀ v e, eo v = some e → ∃ j, j < i ∧ os j = v) : tlU P eo s w (pM P) = max w (rdU P os en s i) := by
  have g := tlU_ge (P := P) (en := eo) (s := s) (w := w) (u := pM P)
  refine Nat.le_antisymm ?_ ?_
  · have : ∀ u, tlU P eo s w u ≤ max w (rdU P os en s i) := by
      intro u
      induction u with
      | zero => exact Nat.le_max_left _ _
      | succ u ih =>
        show max (tlU P eo s w u) (match eo u with | none => 0 | some e => bif dcd (tch P s u) then e + pWet P u else 0) ≤ _
        cases he : eo u with
        | none => show max _ 0 ≤ _; omega
        | some e =>
          obtain ⟨j, j1, j2⟩ := h2 u e he
          have j3 := (h1 j j1).1
          rw [j2, he] at j3
          injection j3 with j3
          subst j3
          show max _ (bif dcd (tch P s u) then en j + pWet P u else 0) ≤ _
          cases ht : dcd (tch P s u)
          · show max _ 0 ≤ _; omega
          · have := rdU_ge (P := P) (os := os) (en := en) (s := s) j j1 (by rw [j2]; exact ht)
            rw [j2] at this
            show max _ (en j + pWet P u) ≤ _
            omega
    exact this _
  · refine Nat.max_le.mpr ⟨g.1, ?_⟩
    have : ∀ m, m ≤ i → rdU P os en s m ≤ tlU P eo s w (pM P) := by
      intro m
      induction m with
      | zero => intro _; exact Nat.zero_le _
      | succ m ih =>
        intro hm
        show max (rdU P os en s m) (bif dcd (tch P s (os m)) then en m + pWet P (os m) else 0) ≤ _
        have i1 := ih (by omega)
        cases ht : dcd (tch P s (os m))
        · show max _ 0 ≤ _; omega
        · obtain ⟨q1, q2⟩ := h1 m (by omega)
          have := g.2 _ _ q2 q1 ht
          show max _ (en m + pWet P (os m)) ≤ _
          omega
    exact this i (Nat.le_refl _)
theorem km_ly256 (C : ShM P σ) (W : Wf P) {s w : Nat} (hs : s < pM P) {eo : Nat → Option Nat} (hE : EnM P eo σ) (hw : w ≤ 1000000) (heo : ∀ v e, eo v = some e → e ≤ 1000000) {l1 l2 l3 l4 l5 l7 l8 l9 : Int32} : ∀ q u, u + q = pM P → dX tb (d + 5) 123 256 [.ref 270, .int l1, .int l2, .int l3, .int l4, .int l5, .int (Int32.ofNat s), .int l7, .int l8, .int l9, .int (Int32.ofNat (tlU P eo s w u)), .int (Int32.ofNat u)] [] (c, t, hp g (SH fl tg) σ) = dX tb (d + 5) 123 256 [.ref 270, .int l1, .int l2, .int l3, .int l4, .int l5, .int (Int32.ofNat s), .int l7, .int l8, .int l9, .int (Int32.ofNat (tlU P eo s w (pM P))), .int (Int32.ofNat (pM P))] [] (c, t, hp g (SH fl tg) σ) := by
  have hm := W.1
  intro q
  induction q with
  | zero => intro u h; rw [show u = pM P by omega]
  | succ q ih =>
    intro u h
    have hu : u < pM P := by omega
    have h1 : ¬ pM P ≤ u := by omega
    have hwet := (W.2.1 u hu).2.2.1
    have e3 := (C.2.2.1 u hu).2.2.1
    have e4 := hE u hu
    have hb := tlU_le (P := P) (en := eo) (s := s) (w := w) (z := 1001000) (u := u) (by omega) (fun v e hv he => by
      have := heo v e he
      have := (W.2.1 v (by omega)).2.2.1
      omega)
    have nx := ih (u + 1) (by omega)
    rw [show tlU P eo s w (u + 1) = max (tlU P eo s w u) (match eo u with | none => 0 | some e => bif dcd (tch P s u) then e + pWet P u else 0) from rfl] at nx
    rw [sg_X7_lay_256]
    simp (disch := omega) only [bq_s, aq_I, aq_R, aq_V, cq_t, cq_f, if_true, if_false, Bool.true_and, Bool.and_true, Bool.or_true, Bool.true_or, gi_270_0, gi_270_10, gi_270_11, gi_270_12, gi_270_13, gi_270_14, gi_270_15, gi_270_21, gi_270_22, gi_270_23, gi_270_34, gi_270_35, gi_270_36, pi_270_0, pi_270_10, pi_270_11, pi_270_12, pi_270_13, pi_270_14, pi_270_15, pi_270_21, pi_270_22, pi_270_23, pi_270_34, pi_270_35, pi_270_36, gr_270_1, gr_270_2, gr_270_3, gr_270_4, gr_270_5, gr_270_6, gr_270_7, gr_270_8, gr_270_9, gr_270_16, gr_270_17, gr_270_18, gr_270_19, gr_270_20, gr_270_24, gr_270_25, gr_270_26, gr_270_27, gr_270_28, gr_270_29, gr_270_30, gr_270_31, gr_270_32, gr_270_33, ld_271, ld_272, ld_273, ld_274, ld_275, ld_276, ld_277, ld_278, ld_279, ld_280, ld_281, ld_282, ld_283, ld_284, ld_285, ld_286, ld_287, ld_288, ld_289, ld_290, ld_291, ld_292, ld_293, ld_294, sv_271, sv_272, sv_273, sv_274, sv_275, sv_276, sv_277, sv_278, sv_279, sv_280, sv_281, sv_282, sv_283, sv_284, sv_285, sv_286, sv_287, sv_288, sv_289, sv_290, sv_291, sv_292, sv_293, sv_294, is_270, ia_0, ia_1, is_m0, is_m1, im_8, ml_8, im_11, ml_11, im_12, ml_12, im_88, ml_88, im_89, ml_89, j_lt_0, j_gt_0, j_le_0, j_ge_0, j_eq_0, j_lt_1, j_gt_1, j_le_1, j_ge_1, j_eq_1, j_lt_2, j_gt_2, j_le_2, j_ge_2, j_eq_2, j_lt_3, j_gt_3, j_le_3, j_ge_3, j_eq_3, j_lt_4, j_gt_4, j_le_4, j_ge_4, j_eq_4, j_lt_5, j_gt_5, j_le_5, j_ge_5, j_eq_5, j_lt_6, j_gt_6, j_le_6, j_ge_6, j_eq_6, j_lt_8, j_gt_8, j_le_8, j_ge_8, j_eq_8, j_lt_12, j_gt_12, j_le_12, j_ge_12, j_eq_12, j_lt_209, j_gt_209, j_le_209, j_ge_209, j_eq_209, j_lt_255, j_gt_255, j_le_255, j_ge_255, j_eq_255, j_lt_1000000000, j_gt_1000000000, j_le_1000000000, j_ge_1000000000, j_eq_1000000000, C.1, i_le, h1, e4]
    cases he : eo u with
    | none =>
      rw [he] at nx
      rw [if_pos (show encE none = -1 from rfl)]
      rw [show max (tlU P eo s w u) (match (none : Option Nat) with | none => 0 | some e => bif dcd (tch P s u) then e + pWet P u else 0) = tlU P eo s w u from Nat.max_zero _] at nx
      exact nx
    | some e =>
      have hee := heo u e he
      rw [he] at nx
      rw [if_neg (show ¬ encE (some e) = -1 by rw [show encE (some e) = Int32.ofNat e from rfl, n_m1 (by omega)]; exact id)]
      simp (disch := omega) only [bq_s, aq_I, aq_R, aq_V, cq_t, cq_f, if_true, if_false, Bool.true_and, Bool.and_true, Bool.or_true, Bool.true_or, gi_270_0, gi_270_10, gi_270_11, gi_270_12, gi_270_13, gi_270_14, gi_270_15, gi_270_21, gi_270_22, gi_270_23, gi_270_34, gi_270_35, gi_270_36, pi_270_0, pi_270_10, pi_270_11, pi_270_12, pi_270_13, pi_270_14, pi_270_15, pi_270_21, pi_270_22, pi_270_23, pi_270_34, pi_270_35, pi_270_36, gr_270_1, gr_270_2, gr_270_3, gr_270_4, gr_270_5, gr_270_6, gr_270_7, gr_270_8, gr_270_9, gr_270_16, gr_270_17, gr_270_18, gr_270_19, gr_270_20, gr_270_24, gr_270_25, gr_270_26, gr_270_27, gr_270_28, gr_270_29, gr_270_30, gr_270_31, gr_270_32, gr_270_33, ld_271, ld_272, ld_273, ld_274, ld_275, ld_276, ld_277, ld_278, ld_279, ld_280, ld_281, ld_282, ld_283, ld_284, ld_285, ld_286, ld_287, ld_288, ld_289, ld_290, ld_291, ld_292, ld_293, ld_294, sv_271, sv_272, sv_273, sv_274, sv_275, sv_276, sv_277, sv_278, sv_279, sv_280, sv_281, sv_282, sv_283, sv_284, sv_285, sv_286, sv_287, sv_288, sv_289, sv_290, sv_291, sv_292, sv_293, sv_294, is_270, ia_0, ia_1, is_m0, is_m1, im_8, ml_8, im_11, ml_11, im_12, ml_12, im_88, ml_88, im_89, ml_89, j_lt_0, j_gt_0, j_le_0, j_ge_0, j_eq_0, j_lt_1, j_gt_1, j_le_1, j_ge_1, j_eq_1, j_lt_2, j_gt_2, j_le_2, j_ge_2, j_eq_2, j_lt_3, j_gt_3, j_le_3, j_ge_3, j_eq_3, j_lt_4, j_gt_4, j_le_4, j_ge_4, j_eq_4, j_lt_5, j_gt_5, j_le_5, j_ge_5, j_eq_5, j_lt_6, j_gt_6, j_le_6, j_ge_6, j_eq_6, j_lt_8, j_gt_8, j_le_8, j_ge_8, j_eq_8, j_lt_12, j_gt_12, j_le_12, j_ge_12, j_eq_12, j_lt_209, j_gt_209, j_le_209, j_ge_209, j_eq_209, j_lt_255, j_gt_255, j_le_255, j_ge_255, j_eq_255, j_lt_1000000000, j_gt_1000000000, j_le_1000000000, j_ge_1000000000, j_eq_1000000000, km_tch C W hs hu, bI_0, e4, he, show encE (some e) = Int32.ofNat e from rfl, e3, i_add, i_max]
      cases ht : dcd (tch P s u)
      · rw [ht] at nx
        rw [if_pos rfl]
        rw [show max (tlU P eo s w u) (match some e with | none => 0 | some e => bif false then e + pWet P u else 0) = tlU P eo s w u from Nat.max_zero _] at nx
        exact nx
      · rw [ht] at nx
        rw [if_neg (by decide)]
        exact nx
end ML2
