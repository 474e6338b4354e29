/-! step, the reference's side -/
section MSP
variable {tb : dT} {d c t : Nat} {g : Nat → Option dE} {fl : Nat → Bool} {tg : Nat} {σ : dSg} {P : dP} {A : dA} {os ob : Nat → Nat} {sum : Option Nat} {k T w : Nat} {e : Nat → Option Nat} {n j : Int32}
theorem okL_K {l : List dF} : ∀ {z : dZ}, okL P z l → ∀ f, f ∈ l → ∃ z', okF P z' f := by
  induction l with
  | nil => intro z _ f hf; cases hf
  | cons a l ih =>
    intro z h f hf
    rcases List.mem_cons.mp hf with q | q
    · subst q; exact ⟨z, h.1⟩
    · exact ih h.2 f q
theorem phZ_K (W : Wf P) (hO : OkO P os ob k) (hk : 0 < k) (hx : A.1 ≤ 500) (hy : A.2.1 ≤ 500) : ∀ f, f ∈ phZ P A os ob k → fK f ≤ 6 ∧ fS f ≤ 8 := fun f hf => by
  obtain ⟨z, h⟩ := okL_K (phZ_ok (A := A) W hO hk hx hy).1 f hf
  have hm := W.1
  obtain ⟨h1, -, -, -, -, -, -, -, -, h2, -⟩ := h
  exact ⟨h1, by omega⟩
theorem mq_stL (en : Nat → Nat) (hk : k ≤ 8) (h21 : σ 270 21 = Int32.ofNat k) (hor : ∀ i, i < k → σ 281 i = Int32.ofNat (os i)) (hos : ∀ i, i < k → os i < 8) {l1 l2 : Int32} : ∀ q i (τ : dSg), i + q = k → (∀ a, a ≠ 277 → τ a = σ a) → (∀ v, v < 8 → τ 277 v = bif (eoU os en i v).isNone then σ 277 v else 0) → ∃ τ', dX tb (d + 1) 128 67 [.ref 270, .int l1, .int l2, .int (Int32.ofNat i)] [] (c, t, hp g (SH fl tg) τ) = dX tb (d + 1) 128 67 [.ref 270, .int l1, .int l2, .int (Int32.ofNat k)] [] (c, t, hp g (SH fl tg) (τ')) ∧ (∀ a, a ≠ 277 → τ' a = σ a) ∧ ∀ v, v < 8 → τ' 277 v = bif (eoU os en k v).isNone then σ 277 v else 0 := by
  intro q
  induction q with
  | zero =>
    intro i τ hq h1 h2
    have e : i = k := hq
    subst e
    exact ⟨τ, rfl, h1, h2⟩
  | succ q ih =>
    intro i τ hq h1 h2
    have ho := hos i (by omega)
    obtain ⟨τ', y1, y2⟩ := ih (i + 1) (up2 τ 277 (os i) 0) (by omega) (fun a ha => by rw [up2_row _ _ ha]; exact h1 a ha) (fun v hv => by
      show _ = bif (if v = os i then some (en i) else eoU os en i v).isNone then σ 277 v else 0
      by_cases z : v = os i
      · rw [if_pos z, z, up2_s]; rfl
      · rw [if_neg z, up2_n _ _ (by omega)]; exact h2 v hv)
    refine ⟨τ', ?_, y2⟩
    rw [sg_X7_step_67]
    have e21 : τ 270 21 = Int32.ofNat k := by rw [h1 270 (by omega)]; exact h21
    have e281 : τ 281 i = Int32.ofNat (os i) := by rw [h1 281 (by omega)]; exact hor i (by omega)
    have hn : ¬ k ≤ i := by omega
    simp (disch := omega) only [bq_s, aq_I, aq_R, aq_V, cq_t, cq_f, if_true, if_false, Bool.true_and, Bool.and_true, Bool.or_true, Bool.true_or, gi_270_0, gi_270_10, gi_270_11, gi_270_12, gi_270_13, gi_270_14, gi_270_15, gi_270_21, gi_270_22, gi_270_23, gi_270_34, gi_270_35, gi_270_36, pi_270_0, pi_270_10, pi_270_11, pi_270_12, pi_270_13, pi_270_14, pi_270_15, pi_270_21, pi_270_22, pi_270_23, pi_270_34, pi_270_35, pi_270_36, gr_270_1, gr_270_2, gr_270_3, gr_270_4, gr_270_5, gr_270_6, gr_270_7, gr_270_8, gr_270_9, gr_270_16, gr_270_17, gr_270_18, gr_270_19, gr_270_20, gr_270_24, gr_270_25, gr_270_26, gr_270_27, gr_270_28, gr_270_29, gr_270_30, gr_270_31, gr_270_32, gr_270_33, ld_271, ld_272, ld_273, ld_274, ld_275, ld_276, ld_277, ld_278, ld_279, ld_280, ld_281, ld_282, ld_283, ld_284, ld_285, ld_286, ld_287, ld_288, ld_289, ld_290, ld_291, ld_292, ld_293, ld_294, sv_271, sv_272, sv_273, sv_274, sv_275, sv_276, sv_277, sv_278, sv_279, sv_280, sv_281, sv_282, sv_283, sv_284, sv_285, sv_286, sv_287, sv_288, sv_289, sv_290, sv_291, sv_292, sv_293, sv_294, is_270, ia_0, ia_1, is_m0, is_m1, im_8, ml_8, im_11, ml_11, im_12, ml_12, im_88, ml_88, im_89, ml_89, j_lt_0, j_gt_0, j_le_0, j_ge_0, j_eq_0, j_lt_1, j_gt_1, j_le_1, j_ge_1, j_eq_1, j_lt_2, j_gt_2, j_le_2, j_ge_2, j_eq_2, j_lt_3, j_gt_3, j_le_3, j_ge_3, j_eq_3, j_lt_4, j_gt_4, j_le_4, j_ge_4, j_eq_4, j_lt_5, j_gt_5, j_le_5, j_ge_5, j_eq_5, j_lt_6, j_gt_6, j_le_6, j_ge_6, j_eq_6, j_lt_8, j_gt_8, j_le_8, j_ge_8, j_eq_8, j_lt_12, j_gt_12, j_le_12, j_ge_12, j_eq_12, j_lt_209, j_gt_209, j_le_209, j_ge_209, j_eq_209, j_lt_255, j_gt_255, j_le_255, j_ge_255, j_eq_255, j_lt_1000000000, j_gt_1000000000, j_le_1000000000, j_ge_1000000000, j_eq_1000000000, e21, i_le, hn, e281]
    exact y1
theorem mq_step (R : OkR P A sum k os ob T) (H : MR P A sum k os ob T n j σ) (x : Int32) : (inR 10001 x = false → dX tb (d + 2) 128 0 [.ref 270, .int x, .null, .null] [] (c, t, hp g (SH fl tg) σ) = some (some (.int (-1)), (c, t, hp g (SH fl tg) (up2 σ 270 0 0)))) ∧ (inR 10001 x = true → ∃ τ, dX tb (d + 2) 128 0 [.ref 270, .int x, .null, .null] [] (c, t, hp g (SH fl tg) σ) = some (some (.int (Int32.ofNat (min (tot (phZ P A os ob k) - T) (tN x)))), (c, t, hp g (SH fl tg) τ)) ∧ (∀ a, a < 270 ∨ 295 ≤ a → τ a = σ a) ∧ (T + min (tot (phZ P A os ob k) - T) (tN x) < tot (phZ P A os ob k) → MR P A sum k os ob (T + min (tot (phZ P A os ob k) - T) (tN x)) n j τ) ∧ (T + min (tot (phZ P A os ob k) - T) (tN x) = tot (phZ P A os ob k) → MN (donP P (eoU os (enZ P A os ob) k)) (endA P A os ob k) (tot (phZ P A os ob k)) (wtS (phZ P A os ob k)) (eoU os (enZ P A os ob) k) n j τ)) := by
  obtain ⟨W, hx, hy, hk, h8, hp1, hT⟩ := R
  have hm := W.1
  obtain ⟨C, hA, Ph, En, Or', h21, h22, h23, h36, h14, h15⟩ := H
  have hO := (pl_ok hp1 hk h8).1
  obtain ⟨l1, l2⟩ := phZ_len (A := A) W hO hx hy
  have hN0 : ¬ ((1 : Int32) = 0) := by decide
  constructor
  · intro hq
    rw [sg_X7_step_0]
    simp (disch := omega) only [bq_s, aq_I, aq_R, aq_V, cq_t, cq_f, if_true, if_false, Bool.true_and, Bool.and_true, Bool.or_true, Bool.true_or, gi_270_0, gi_270_10, gi_270_11, gi_270_12, gi_270_13, gi_270_14, gi_270_15, gi_270_21, gi_270_22, gi_270_23, gi_270_34, gi_270_35, gi_270_36, pi_270_0, pi_270_10, pi_270_11, pi_270_12, pi_270_13, pi_270_14, pi_270_15, pi_270_21, pi_270_22, pi_270_23, pi_270_34, pi_270_35, pi_270_36, gr_270_1, gr_270_2, gr_270_3, gr_270_4, gr_270_5, gr_270_6, gr_270_7, gr_270_8, gr_270_9, gr_270_16, gr_270_17, gr_270_18, gr_270_19, gr_270_20, gr_270_24, gr_270_25, gr_270_26, gr_270_27, gr_270_28, gr_270_29, gr_270_30, gr_270_31, gr_270_32, gr_270_33, ld_271, ld_272, ld_273, ld_274, ld_275, ld_276, ld_277, ld_278, ld_279, ld_280, ld_281, ld_282, ld_283, ld_284, ld_285, ld_286, ld_287, ld_288, ld_289, ld_290, ld_291, ld_292, ld_293, ld_294, sv_271, sv_272, sv_273, sv_274, sv_275, sv_276, sv_277, sv_278, sv_279, sv_280, sv_281, sv_282, sv_283, sv_284, sv_285, sv_286, sv_287, sv_288, sv_289, sv_290, sv_291, sv_292, sv_293, sv_294, is_270, up2_n, h23, hN0, mw_10000, hq, bI_0]
  · intro hq
    obtain ⟨m, hm', rfl, em⟩ := inR_ex (by omega) hq
    rw [em]
    have hu : min (tot (phZ P A os ob k) - T) m ≤ 10000 := by omega
    generalize hU : min (tot (phZ P A os ob k) - T) m = u at hu
    have e35 : σ 270 35 = Int32.ofNat (tot (phZ P A os ob k)) := Ph.2.1
    have eI : (if Int32.ofNat (tot (phZ P A os ob k)) - Int32.ofNat T < Int32.ofNat m then Int32.ofNat (tot (phZ P A os ob k)) - Int32.ofNat T else Int32.ofNat m) = Int32.ofNat u := by
      rw [i_sub (by omega)]
      by_cases q : tot (phZ P A os ob k) - T < m
      · rw [if_pos (by rw [i_lt (by omega) (by omega)]; exact q), ← hU, Nat.min_eq_left (by omega)]
      · rw [if_neg (by rw [i_lt (by omega) (by omega)]; exact q), ← hU, Nat.min_eq_right (by omega)]
    have hI : (Int32.ofNat (T + u) = Int32.ofNat (tot (phZ P A os ob k))) = (T + u = tot (phZ P A os ob k)) := i_eq (by omega) (by omega)
    by_cases q : T + u < tot (phZ P A os ob k)
    · have hIn : ¬ (T + u = tot (phZ P A os ob k)) := by omega
      refine ⟨up2 (up2 σ 270 0 0) 270 36 (Int32.ofNat (T + u)), ?_, fun a ha => by simp (disch := omega) only [up2_row], fun _ => ⟨ShM_congr C (fun a a1 a2 => ?_) ?_, ?_, PhM_congr (fun a a1 a2 => ?_) ?_ ?_ Ph, fun s hs => ?_, fun i hi => ?_, ?_, ?_, ?_, up2_s _ _ _ _, ?_, ?_⟩, fun z => by omega⟩
      · rw [sg_X7_step_0]
        simp (disch := omega) only [bq_s, aq_I, aq_R, aq_V, cq_t, cq_f, if_true, if_false, Bool.true_and, Bool.and_true, Bool.or_true, Bool.true_or, gi_270_0, gi_270_10, gi_270_11, gi_270_12, gi_270_13, gi_270_14, gi_270_15, gi_270_21, gi_270_22, gi_270_23, gi_270_34, gi_270_35, gi_270_36, pi_270_0, pi_270_10, pi_270_11, pi_270_12, pi_270_13, pi_270_14, pi_270_15, pi_270_21, pi_270_22, pi_270_23, pi_270_34, pi_270_35, pi_270_36, gr_270_1, gr_270_2, gr_270_3, gr_270_4, gr_270_5, gr_270_6, gr_270_7, gr_270_8, gr_270_9, gr_270_16, gr_270_17, gr_270_18, gr_270_19, gr_270_20, gr_270_24, gr_270_25, gr_270_26, gr_270_27, gr_270_28, gr_270_29, gr_270_30, gr_270_31, gr_270_32, gr_270_33, ld_271, ld_272, ld_273, ld_274, ld_275, ld_276, ld_277, ld_278, ld_279, ld_280, ld_281, ld_282, ld_283, ld_284, ld_285, ld_286, ld_287, ld_288, ld_289, ld_290, ld_291, ld_292, ld_293, ld_294, sv_271, sv_272, sv_273, sv_274, sv_275, sv_276, sv_277, sv_278, sv_279, sv_280, sv_281, sv_282, sv_283, sv_284, sv_285, sv_286, sv_287, sv_288, sv_289, sv_290, sv_291, sv_292, sv_293, sv_294, is_270, up2_n, up2_s, h23, hN0, mw_10000, hq, bI_0, Bool.true_eq_false, e35, h36, eI, i_add, hI, hIn]
      · simp (disch := omega) only [up2_row]
      · simp (disch := omega) only [up2_n]
      · unfold ArM; simp (disch := omega) only [up2_n]; exact hA
      · simp (disch := omega) only [up2_row]
      · simp (disch := omega) only [up2_n]
      · simp (disch := omega) only [up2_n]
      · simp (disch := omega) only [up2_row]; exact En s hs
      · simp (disch := omega) only [up2_row]; exact Or' i hi
      · simp (disch := omega) only [up2_n]; exact h21
      · simp (disch := omega) only [up2_n]; exact h22
      · simp (disch := omega) only [up2_n]; exact h23
      · simp (disch := omega) only [up2_n]; exact h14
      · simp (disch := omega) only [up2_n]; exact h15
    · have qe : T + u = tot (phZ P A os ob k) := by omega
      have le' : (phZ P A os ob k).length = (phE P A os ob k).1.length + 1 := by unfold phZ; rw [List.length_append]; rfl
      have gl : (phZ P A os ob k)[(phE P A os ob k).1.length]? = some (ltP P A os ob k) := get_pre (post := [])
      obtain ⟨-, -, -, -, -, -, g1, g2, g3⟩ := Ph.2.2 _ _ gl
      obtain ⟨τ, y1, y2, y3⟩ := mq_stL (tb := tb) (d := d + 1) (c := c) (t := t) (g := g) (fl := fl) (tg := tg) (σ := up2 (up2 (up2 σ 270 0 0) 270 36 (Int32.ofNat (tot (phZ P A os ob k)))) 270 23 0) (os := os) (enZ P A os ob) h8 (by simp (disch := omega) only [up2_n]; exact h21) (fun i hi => by simp (disch := omega) only [up2_row]; exact (Or' i hi).1) (fun i hi => by have := (hO.2.1 i hi).1; omega) (l1 := Int32.ofNat m) (l2 := Int32.ofNat u) k 0 _ (by omega) (fun _ _ => rfl) (fun v hv => rfl)
      have y1' : dX tb (d + 2) 128 67 [.ref 270, .int (Int32.ofNat m), .int (Int32.ofNat u), .int 0] [] (c, t, hp g (SH fl tg) (up2 (up2 (up2 σ 270 0 0) 270 36 (Int32.ofNat (tot (phZ P A os ob k)))) 270 23 0)) = dX tb (d + 2) 128 67 [.ref 270, .int (Int32.ofNat m), .int (Int32.ofNat u), .int (Int32.ofNat k)] [] (c, t, hp g (SH fl tg) τ) := y1
      have ro : ∀ a, a ≠ 270 → a ≠ 277 → τ a = σ a := fun a a1 a2 => by rw [y2 a a2]; simp (disch := omega) only [up2_row]
      have ro270 : ∀ i, i ≠ 0 → i ≠ 36 → i ≠ 23 → τ 270 i = σ 270 i := fun i a1 a2 a3 => by rw [y2 270 (by omega)]; simp (disch := omega) only [up2_n]
      have r36 : τ 270 36 = Int32.ofNat (tot (phZ P A os ob k)) := by rw [y2 270 (by omega)]; simp (disch := omega) only [up2_n, up2_s]
      have r23 : τ 270 23 = 0 := by rw [y2 270 (by omega)]; simp (disch := omega) only [up2_s]
      have r21 : τ 270 21 = Int32.ofNat k := by rw [ro270 21 (by decide) (by decide) (by decide)]; exact h21
      have r34 : τ 270 34 = Int32.ofNat ((phE P A os ob k).1.length + 1) := by rw [ro270 34 (by decide) (by decide) (by decide), Ph.1, le']
      have pl := pv_le (A := A) W hO hx hy (Nat.le_refl k)
      refine ⟨up2 (up2 (up2 τ 270 11 (Int32.ofNat (pvX P A os ob k))) 270 12 (Int32.ofNat (pvY P A os ob k))) 270 13 (pvP P A os k), ?_, fun a ha => ?_, fun z => by omega, fun _ => ⟨⟨?_, fun i hi => ?_, fun s hs => ?_, fun s o hs ho => ?_⟩, ⟨?_, ?_, ?_, pl.1, pl.2⟩, ?_, ?_, ⟨phZ P A os ob k, PhM_congr (fun a a1 a2 => ?_) ?_ ?_ Ph, l1, l2, fun f hf => (phZ_K W hO hk hx hy f hf).1, ?_⟩, fun s hs => ?_, ?_, ?_⟩⟩
      · rw [sg_X7_step_0]
        simp (disch := omega) only [bq_s, aq_I, aq_R, aq_V, cq_t, cq_f, if_true, if_false, Bool.true_and, Bool.and_true, Bool.or_true, Bool.true_or, gi_270_0, gi_270_10, gi_270_11, gi_270_12, gi_270_13, gi_270_14, gi_270_15, gi_270_21, gi_270_22, gi_270_23, gi_270_34, gi_270_35, gi_270_36, pi_270_0, pi_270_10, pi_270_11, pi_270_12, pi_270_13, pi_270_14, pi_270_15, pi_270_21, pi_270_22, pi_270_23, pi_270_34, pi_270_35, pi_270_36, gr_270_1, gr_270_2, gr_270_3, gr_270_4, gr_270_5, gr_270_6, gr_270_7, gr_270_8, gr_270_9, gr_270_16, gr_270_17, gr_270_18, gr_270_19, gr_270_20, gr_270_24, gr_270_25, gr_270_26, gr_270_27, gr_270_28, gr_270_29, gr_270_30, gr_270_31, gr_270_32, gr_270_33, ld_271, ld_272, ld_273, ld_274, ld_275, ld_276, ld_277, ld_278, ld_279, ld_280, ld_281, ld_282, ld_283, ld_284, ld_285, ld_286, ld_287, ld_288, ld_289, ld_290, ld_291, ld_292, ld_293, ld_294, sv_271, sv_272, sv_273, sv_274, sv_275, sv_276, sv_277, sv_278, sv_279, sv_280, sv_281, sv_282, sv_283, sv_284, sv_285, sv_286, sv_287, sv_288, sv_289, sv_290, sv_291, sv_292, sv_293, sv_294, is_270, up2_n, up2_s, h23, hN0, mw_10000, hq, bI_0, Bool.true_eq_false, e35, h36, eI, i_add, qe, y1']
        rw [sg_X7_step_67]
        have e291 : τ 291 (phE P A os ob k).1.length = Int32.ofNat (pvX P A os ob k) := by rw [ro 291 (by omega) (by omega)]; exact g1
        have e292 : τ 292 (phE P A os ob k).1.length = Int32.ofNat (pvY P A os ob k) := by rw [ro 292 (by omega) (by omega)]; exact g2
        have e293 : τ 293 (phE P A os ob k).1.length = pvP P A os k := by rw [ro 293 (by omega) (by omega)]; exact g3
        simp (disch := omega) only [bq_s, aq_I, aq_R, aq_V, cq_t, cq_f, if_true, if_false, Bool.true_and, Bool.and_true, Bool.or_true, Bool.true_or, gi_270_0, gi_270_10, gi_270_11, gi_270_12, gi_270_13, gi_270_14, gi_270_15, gi_270_21, gi_270_22, gi_270_23, gi_270_34, gi_270_35, gi_270_36, pi_270_0, pi_270_10, pi_270_11, pi_270_12, pi_270_13, pi_270_14, pi_270_15, pi_270_21, pi_270_22, pi_270_23, pi_270_34, pi_270_35, pi_270_36, gr_270_1, gr_270_2, gr_270_3, gr_270_4, gr_270_5, gr_270_6, gr_270_7, gr_270_8, gr_270_9, gr_270_16, gr_270_17, gr_270_18, gr_270_19, gr_270_20, gr_270_24, gr_270_25, gr_270_26, gr_270_27, gr_270_28, gr_270_29, gr_270_30, gr_270_31, gr_270_32, gr_270_33, ld_271, ld_272, ld_273, ld_274, ld_275, ld_276, ld_277, ld_278, ld_279, ld_280, ld_281, ld_282, ld_283, ld_284, ld_285, ld_286, ld_287, ld_288, ld_289, ld_290, ld_291, ld_292, ld_293, ld_294, sv_271, sv_272, sv_273, sv_274, sv_275, sv_276, sv_277, sv_278, sv_279, sv_280, sv_281, sv_282, sv_283, sv_284, sv_285, sv_286, sv_287, sv_288, sv_289, sv_290, sv_291, sv_292, sv_293, sv_294, is_270, r21, i_le, Nat.le_refl, r34, is_m1, Nat.add_sub_cancel, up2_n, up2_row, e291, e292, e293]
      · simp (disch := omega) only [up2_row]; exact ro a (by omega) (by omega)
      · simp (disch := omega) only [up2_n]; rw [ro270 10 (by decide) (by decide) (by decide)]; exact C.1
      · simp (disch := omega) only [up2_row]; rw [ro 276 (by omega) (by omega)]; exact C.2.1 i hi
      · have hs' : s < pM P := hs
        obtain ⟨d1, d2, d3, d4, d5, d6⟩ := C.2.2.1 s hs
        unfold StM
        simp (disch := omega) only [up2_row]
        rw [ro 273 (by omega) (by omega), ro 274 (by omega) (by omega), ro 275 (by omega) (by omega), ro 278 (by omega) (by omega), ro 271 (by omega) (by omega), ro 272 (by omega) (by omega)]
        refine ⟨d1, d2, d3, ?_, d5, d6⟩
        rw [y3 s (by omega)]
        simp (disch := omega) only [up2_row]
        rw [d4]
        show _ = bI (pLf P s && (eoU os (enZ P A os ob) k s).isNone)
        cases (eoU os (enZ P A os ob) k s).isNone
        · rw [Bool.and_false]; rfl
        · rw [Bool.and_true]; rfl
      · simp (disch := omega) only [up2_row]; rw [ro 279 (by omega) (by omega)]; exact C.2.2.2 s o hs ho
      · simp (disch := omega) only [up2_n, up2_s]; rfl
      · simp (disch := omega) only [up2_n, up2_s]; rfl
      · simp (disch := omega) only [up2_s]; rfl
      · simp (disch := omega) only [up2_n]; exact r23
      · simp (disch := omega) only [up2_n]; exact r36
      · simp (disch := omega) only [up2_row]; exact ro a (by omega) (by omega)
      · simp (disch := omega) only [up2_n]; exact ro270 34 (by decide) (by decide) (by decide)
      · simp (disch := omega) only [up2_n]; exact ro270 35 (by decide) (by decide) (by decide)
      · rw [wtT_pre _ _ (by omega)]
      · simp (disch := omega) only [up2_row]; rw [ro 294 (by omega) (by omega)]; exact En s hs
      · simp (disch := omega) only [up2_n]; rw [ro270 14 (by decide) (by decide) (by decide)]; exact h14
      · simp (disch := omega) only [up2_n]; rw [ro270 15 (by decide) (by decide) (by decide)]; exact h15
end MSP
