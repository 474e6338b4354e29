/-! jam, the reference's side, whole -/
section MJ2
variable {tb : dT} {d c t : Nat} {g : Nat → Option dE} {fl : Nat → Bool} {tg : Nat} {σ : dSg} {P : dP} {A : dA} {os ob : Nat → Nat} {sum : Option Nat} {k T w : Nat} {e : Nat → Option Nat} {n j : Int32}
theorem enc8 : encS 8 = -1 := if_pos rfl
theorem ofN_m1 {x : Nat} (hx : x ≤ 1000000) : ¬ Int32.ofNat x = -1 := by
  intro z
  have := congrArg Int32.toInt z
  rw [Int32.toInt_ofNat_of_lt (by omega)] at this
  have m1 : (-1 : Int32).toInt = -1 := rfl
  omega
theorem mq_jam (R : OkR P A sum k os ob T) (H : MR P A sum k os ob T n j σ) {pre post : List dF} {f : dF} (he : phZ P A os ob k = pre ++ f :: post) (h1 : tot pre ≤ T) (h2 : T < tot pre + fL f) (hS0 : SH fl tg c = none) (hS1 : SH fl tg (c + 1) = none) : ∃ τ c' t' g', dX tb (d + 3) 129 0 [.ref 270, .null, .null] [] (c, t, hp g (SH fl tg) σ) = some (some (.int 1), (c', t', hp g' (SH fl tg) τ)) ∧ (∀ a, a < 270 ∨ 295 ≤ a → τ a = σ a) ∧ MN (jamP P A T pre f) (jamA P T pre f) T (wtT T 0 (phZ P A os ob k)) (eJ P A pre) n (j + 1) τ ∧ ((c' = c ∧ t' = t ∧ g' = g) ∨ (c' = c + 2 ∧ t' = t + 24 ∧ ∃ fx fy, g' = G2 g c fx fy)) := by
  have R' := R
  obtain ⟨W, hx, hy, hk, h8, hp1, hT⟩ := R'
  have hm := W.1
  have hO := (pl_ok hp1 hk h8).1
  obtain ⟨l1, l2⟩ := phZ_len (A := A) W hO hx hy
  have hK := phZ_K (A := A) W hO hk hx hy
  obtain ⟨⟨W', x1, x2, x3, x4⟩, wx, wy⟩ := jam_ok R he h1 h2
  obtain ⟨ho, okp⟩ := at_ok R he
  have ecut := eJ_cut R he h1 h2
  obtain ⟨C, hA, Ph, En, Or', h21, h22, h23, h36, h14, h15⟩ := H
  have hN0 : ¬ ((1 : Int32) = 0) := by decide
  have gp : (phZ P A os ob k)[pre.length]? = some f := by rw [he]; exact get_pre
  have tp : (phZ P A os ob k).take pre.length = pre := by rw [he]; exact take_pre
  have hlen : pre.length < 209 := by have := (List.getElem?_eq_some_iff.mp gp).1; omega
  have T6 : T ≤ 1000000 := by omega
  let wX : Int32 := whI (fX f) (gX f) (fW f) ((T - tot pre) / fU P f)
  let wY : Int32 := whI (fY f) (gY f) (fW f) ((T - tot pre) / fU P f)
  have at0 := km_at (tb := tb) (d := d + 2) (c := c) (t := t) (g := g) (fl := fl) (tg := tg) (σ := up2 σ 270 0 0) (PhM_congr (fun a a1 a2 => up2_row _ _ (by omega)) (up2_n _ _ (by omega)) (up2_n _ _ (by omega)) Ph) l1 (by rw [up2_n _ _ (by omega)]; exact h36) T6 l2 he h1 h2
  have w0 := (km_wh (tb := tb) (d := d) (c := c) (t := t) (g := g) (fl := fl) (tg := tg) (σ := up2 σ 270 0 0) (ShM_congr C (fun a a1 a2 => up2_row _ _ (by omega)) (up2_n _ _ (by omega))) W (PhM_congr (fun a a1 a2 => up2_row _ _ (by omega)) (up2_n _ _ (by omega)) (up2_n _ _ (by omega)) Ph) l1 (by rw [up2_n _ _ (by omega)]; exact h36) T6 l2 gp ho (by rw [tp]; exact h1) (by rw [tp]; exact h2)).1
  rw [tp] at w0
  have w1 := (km_wh (tb := tb) (d := d) (c := c) (t := t) (g := g) (fl := fl) (tg := tg) (σ := up2 (up2 σ 270 0 0) 270 11 (whI (fX f) (gX f) (fW f) ((T - tot pre) / fU P f))) (ShM_congr C (fun a a1 a2 => by simp (disch := omega) only [up2_row]) (by simp (disch := omega) only [up2_n])) W (PhM_congr (fun a a1 a2 => by simp (disch := omega) only [up2_row]) (by simp (disch := omega) only [up2_n]) (by simp (disch := omega) only [up2_n]) Ph) l1 (by simp (disch := omega) only [up2_n]; exact h36) T6 l2 gp ho (by rw [tp]; exact h1) (by rw [tp]; exact h2)).2
  rw [tp] at w1
  have e293 : σ 293 pre.length = fP f := (Ph.2.2 _ _ gp).2.2.2.2.2.2.2.2
  obtain ⟨τ, y1, y2, y3⟩ := mq_jmL (tb := tb) (d := d + 2) (c := c) (t := t) (g := g) (fl := fl) (tg := tg) (σ := up2 (up2 (up2 (up2 (up2 (up2 σ 270 0 0) 270 11 (whI (fX f) (gX f) (fW f) ((T - tot pre) / fU P f))) 270 12 (whI (fY f) (gY f) (fW f) ((T - tot pre) / fU P f))) 270 13 (fP f)) 270 23 0) 270 15 (j + 1)) (e := eoU os (enZ P A os ob) k) W T6 (by simp (disch := omega) only [up2_n]; exact C.1) (by simp (disch := omega) only [up2_n]; exact h36) (fun v hv => by simp (disch := omega) only [up2_row]; exact En v hv) (fun v hv => by simp (disch := omega) only [up2_row]; exact (C.2.2.1 v hv).2.2.2.1) (fun v x hv => by have := (end_ok (A := A) W hO hk hx hy).2.2.2.2 v x hv; omega) (l1 := Int32.ofNat pre.length) (pM P) 0 _ (by omega) (fun _ _ _ => rfl) (fun v hv => by omega) (fun _ _ => ⟨rfl, rfl⟩)
  rw [← ecut] at y3
  have ro : ∀ a, a ≠ 270 → a ≠ 277 → a ≠ 294 → τ a = σ a := fun a a1 a2 a3 => by rw [y2 a a2 a3]; simp (disch := omega) only [up2_row]
  have ro270 : ∀ i, i ≠ 0 → i ≠ 11 → i ≠ 12 → i ≠ 13 → i ≠ 23 → i ≠ 15 → τ 270 i = σ 270 i := fun i a0 a1 a2 a3 a4 a5 => by rw [y2 270 (by omega) (by omega)]; simp (disch := omega) only [up2_n]
  have q11 : τ 270 11 = Int32.ofNat (jamA P T pre f).1 := by rw [y2 270 (by omega) (by omega)]; simp (disch := omega) only [up2_n, up2_s]; exact wx
  have q12 : τ 270 12 = Int32.ofNat (jamA P T pre f).2.1 := by rw [y2 270 (by omega) (by omega)]; simp (disch := omega) only [up2_n, up2_s]; exact wy
  have q13 : τ 270 13 = fP f := by rw [y2 270 (by omega) (by omega)]; simp (disch := omega) only [up2_n, up2_s]
  have q23 : τ 270 23 = 0 := by rw [y2 270 (by omega) (by omega)]; simp (disch := omega) only [up2_n, up2_s]
  have q15 : τ 270 15 = j + 1 := by rw [y2 270 (by omega) (by omega)]; simp (disch := omega) only [up2_s]
  have q36 : τ 270 36 = Int32.ofNat T := by rw [ro270 36 (by decide) (by decide) (by decide) (by decide) (by decide) (by decide)]; exact h36
  have q14 : τ 270 14 = n := by rw [ro270 14 (by decide) (by decide) (by decide) (by decide) (by decide) (by decide)]; exact h14
  have q10 : τ 270 10 = Int32.ofNat (pM P) := by rw [ro270 10 (by decide) (by decide) (by decide) (by decide) (by decide) (by decide)]; exact C.1
  have Ph1 : PhM (phZ P A os ob k) τ := PhM_congr (fun a a1 a2 => ro a (by omega) (by omega) (by omega)) (ro270 34 (by decide) (by decide) (by decide) (by decide) (by decide) (by decide)) (ro270 35 (by decide) (by decide) (by decide) (by decide) (by decide) (by decide)) Ph
  have C1 : ShM (donP P (eJ P A pre)) τ := by
    refine ⟨q10, fun i hi => by rw [ro 276 (by omega) (by omega) (by omega)]; exact C.2.1 i hi, fun s hs => ?_, fun s o hs ho' => by rw [ro 279 (by omega) (by omega) (by omega)]; exact C.2.2.2 s o hs ho'⟩
    obtain ⟨d1, d2, d3, d4, d5, d6⟩ := C.2.2.1 s hs
    unfold StM
    rw [ro 273 (by omega) (by omega) (by omega), ro 274 (by omega) (by omega) (by omega), ro 275 (by omega) (by omega) (by omega), ro 278 (by omega) (by omega) (by omega), ro 271 (by omega) (by omega) (by omega), ro 272 (by omega) (by omega) (by omega)]
    exact ⟨d1, d2, d3, (y3 s hs).2, d5, d6⟩
  have y1' : dX tb (d + 3) 129 66 [.ref 270, .int (Int32.ofNat pre.length), .int 0] [] (c, t, hp g (SH fl tg) (up2 (up2 (up2 (up2 (up2 (up2 σ 270 0 0) 270 11 (whI (fX f) (gX f) (fW f) ((T - tot pre) / fU P f))) 270 12 (whI (fY f) (gY f) (fW f) ((T - tot pre) / fU P f))) 270 13 (fP f)) 270 23 0) 270 15 (j + 1))) = dX tb (d + 3) 129 66 [.ref 270, .int (Int32.ofNat pre.length), .int (Int32.ofNat (pM P))] [] (c, t, hp g (SH fl tg) τ) := y1
  have go : dX tb (d + 3) 129 0 [.ref 270, .null, .null] [] (c, t, hp g (SH fl tg) σ) = dX tb (d + 3) 129 66 [.ref 270, .int (Int32.ofNat pre.length), .int (Int32.ofNat (pM P))] [] (c, t, hp g (SH fl tg) τ) := by
    rw [sg_X7_jam_0]
    simp (disch := omega) only [bq_s, aq_I, aq_R, aq_V, cq_t, cq_f, if_true, if_false, Bool.true_and, Bool.and_true, Bool.or_true, Bool.true_or, gi_270_0, gi_270_10, gi_270_11, gi_270_12, gi_270_13, gi_270_14, gi_270_15, gi_270_21, gi_270_22, gi_270_23, gi_270_34, gi_270_35, gi_270_36, pi_270_0, pi_270_10, pi_270_11, pi_270_12, pi_270_13, pi_270_14, pi_270_15, pi_270_21, pi_270_22, pi_270_23, pi_270_34, pi_270_35, pi_270_36, gr_270_1, gr_270_2, gr_270_3, gr_270_4, gr_270_5, gr_270_6, gr_270_7, gr_270_8, gr_270_9, gr_270_16, gr_270_17, gr_270_18, gr_270_19, gr_270_20, gr_270_24, gr_270_25, gr_270_26, gr_270_27, gr_270_28, gr_270_29, gr_270_30, gr_270_31, gr_270_32, gr_270_33, ld_271, ld_272, ld_273, ld_274, ld_275, ld_276, ld_277, ld_278, ld_279, ld_280, ld_281, ld_282, ld_283, ld_284, ld_285, ld_286, ld_287, ld_288, ld_289, ld_290, ld_291, ld_292, ld_293, ld_294, sv_271, sv_272, sv_273, sv_274, sv_275, sv_276, sv_277, sv_278, sv_279, sv_280, sv_281, sv_282, sv_283, sv_284, sv_285, sv_286, sv_287, sv_288, sv_289, sv_290, sv_291, sv_292, sv_293, sv_294, is_270, up2_n, up2_row, h23, hN0, at0, w0, w1, e293, h15]
    exact y1'
  have e288 : τ 288 pre.length = encS (fS f) := by rw [ro 288 (by omega) (by omega) (by omega)]; exact (Ph.2.2 _ _ gp).2.2.2.1
  have fr : ∀ a, a < 270 ∨ 295 ≤ a → τ a = σ a := fun a ha => ro a (by omega) (by omega) (by omega)
  have lpart : ∃ l, PhM l τ ∧ l.length ≤ 209 ∧ tot l ≤ 1000000 ∧ (∀ f, f ∈ l → fK f ≤ 6) ∧ wtT T 0 (phZ P A os ob k) = wtT T 0 l := ⟨phZ P A os ob k, Ph1, l1, l2, fun f hf => (hK f hf).1, rfl⟩
  have fin0 : unJ P T pre f = 0 → MN (jamP P A T pre f) (jamA P T pre f) T (wtT T 0 (phZ P A os ob k)) (eJ P A pre) n (j + 1) τ := fun q => by
    unfold jamP
    rw [if_pos q]
    exact ⟨C1, ⟨q11, q12, q13, x1, x2⟩, q23, q36, lpart, fun s hs => (y3 s hs).1, q14, q15⟩
  have hub := unJ_b R he h2
  by_cases s8 : fS f = 8
  · have q0 : unJ P T pre f = 0 := by
      unfold unJ
      have k0 : fK f = 0 := Decidable.byContradiction fun z => ho.2.2.2.2.2.2.2.2.2.2.1 z s8
      rw [if_neg (by omega), if_neg (by omega)]
    refine ⟨τ, c, t, g, ?_, fr, fin0 q0, Or.inl ⟨rfl, rfl, rfl⟩⟩
    rw [go, sg_X7_jam_66]
    simp (disch := omega) only [bq_s, aq_I, aq_R, aq_V, cq_t, cq_f, if_true, if_false, Bool.true_and, Bool.and_true, Bool.or_true, Bool.true_or, gi_270_0, gi_270_10, gi_270_11, gi_270_12, gi_270_13, gi_270_14, gi_270_15, gi_270_21, gi_270_22, gi_270_23, gi_270_34, gi_270_35, gi_270_36, pi_270_0, pi_270_10, pi_270_11, pi_270_12, pi_270_13, pi_270_14, pi_270_15, pi_270_21, pi_270_22, pi_270_23, pi_270_34, pi_270_35, pi_270_36, gr_270_1, gr_270_2, gr_270_3, gr_270_4, gr_270_5, gr_270_6, gr_270_7, gr_270_8, gr_270_9, gr_270_16, gr_270_17, gr_270_18, gr_270_19, gr_270_20, gr_270_24, gr_270_25, gr_270_26, gr_270_27, gr_270_28, gr_270_29, gr_270_30, gr_270_31, gr_270_32, gr_270_33, ld_271, ld_272, ld_273, ld_274, ld_275, ld_276, ld_277, ld_278, ld_279, ld_280, ld_281, ld_282, ld_283, ld_284, ld_285, ld_286, ld_287, ld_288, ld_289, ld_290, ld_291, ld_292, ld_293, ld_294, sv_271, sv_272, sv_273, sv_274, sv_275, sv_276, sv_277, sv_278, sv_279, sv_280, sv_281, sv_282, sv_283, sv_284, sv_285, sv_286, sv_287, sv_288, sv_289, sv_290, sv_291, sv_292, sv_293, sv_294, is_270, q10, i_le, Nat.le_refl, e288, s8, enc8]
  · obtain ⟨t1, t2, t3⟩ : fS f < pM P ∧ fB f < bgn P (fS f) ∧ 2 ≤ pN P (fS f) := by
      rcases ho.2.2.2.2.2.2.2.2.2.1 with r | r
      · exact absurd r s8
      · exact r
    have e288' : τ 288 pre.length = Int32.ofNat (fS f) := by rw [e288, encS_ne s8]
    have nm := ofN_m1 (x := fS f) (by omega)
    have hj := phZM (A := A) (os := os) (ob := ob) f (by rw [he]; exact List.mem_append_right _ (List.mem_cons_self)) s8
    obtain ⟨u1, u2⟩ := at_hand (A := A) W hO hk hx hy he h1 h2 s8 hj
    have un := km_un (tb := tb) (d := d) (c := c) (t := t) (g := g) (fl := fl) (tg := tg) C1 (donP_Wf W) Ph1 l1 q36 T6 l2 (show fS f < 8 by omega) hK
    rw [unT_don, u1] at un
    have un' : dX tb (d + 2) 130 0 [.ref 270, .int (Int32.ofNat (fS f)), .null, .null] [] (c, t, hp g (SH fl tg) τ) = some (some (.int (Int32.ofNat (unJ P T pre f))), (c, t, hp g (SH fl tg) τ)) := un
    by_cases q0 : unJ P T pre f = 0
    · have q0' : unJ P T pre f ≤ 0 := by omega
      refine ⟨τ, c, t, g, ?_, fr, fin0 q0, Or.inl ⟨rfl, rfl, rfl⟩⟩
      rw [go, sg_X7_jam_66]
      simp (disch := omega) only [bq_s, aq_I, aq_R, aq_V, cq_t, cq_f, if_true, if_false, Bool.true_and, Bool.and_true, Bool.or_true, Bool.true_or, gi_270_0, gi_270_10, gi_270_11, gi_270_12, gi_270_13, gi_270_14, gi_270_15, gi_270_21, gi_270_22, gi_270_23, gi_270_34, gi_270_35, gi_270_36, pi_270_0, pi_270_10, pi_270_11, pi_270_12, pi_270_13, pi_270_14, pi_270_15, pi_270_21, pi_270_22, pi_270_23, pi_270_34, pi_270_35, pi_270_36, gr_270_1, gr_270_2, gr_270_3, gr_270_4, gr_270_5, gr_270_6, gr_270_7, gr_270_8, gr_270_9, gr_270_16, gr_270_17, gr_270_18, gr_270_19, gr_270_20, gr_270_24, gr_270_25, gr_270_26, gr_270_27, gr_270_28, gr_270_29, gr_270_30, gr_270_31, gr_270_32, gr_270_33, ld_271, ld_272, ld_273, ld_274, ld_275, ld_276, ld_277, ld_278, ld_279, ld_280, ld_281, ld_282, ld_283, ld_284, ld_285, ld_286, ld_287, ld_288, ld_289, ld_290, ld_291, ld_292, ld_293, ld_294, sv_271, sv_272, sv_273, sv_274, sv_275, sv_276, sv_277, sv_278, sv_279, sv_280, sv_281, sv_282, sv_283, sv_284, sv_285, sv_286, sv_287, sv_288, sv_289, sv_290, sv_291, sv_292, sv_293, sv_294, is_270, ia_0, ia_1, is_m0, is_m1, im_8, ml_8, im_11, ml_11, im_12, ml_12, im_88, ml_88, im_89, ml_89, j_lt_0, j_gt_0, j_le_0, j_ge_0, j_eq_0, j_lt_1, j_gt_1, j_le_1, j_ge_1, j_eq_1, j_lt_2, j_gt_2, j_le_2, j_ge_2, j_eq_2, j_lt_3, j_gt_3, j_le_3, j_ge_3, j_eq_3, j_lt_4, j_gt_4, j_le_4, j_ge_4, j_eq_4, j_lt_5, j_gt_5, j_le_5, j_ge_5, j_eq_5, j_lt_6, j_gt_6, j_le_6, j_ge_6, j_eq_6, j_lt_8, j_gt_8, j_le_8, j_ge_8, j_eq_8, j_lt_12, j_gt_12, j_le_12, j_ge_12, j_eq_12, j_lt_209, j_gt_209, j_le_209, j_ge_209, j_eq_209, j_lt_255, j_gt_255, j_le_255, j_ge_255, j_eq_255, j_lt_1000000000, j_gt_1000000000, j_le_1000000000, j_ge_1000000000, j_eq_1000000000, q10, i_le, Nat.le_refl, e288', nm, un', q0']
    · have q0' : ¬ unJ P T pre f ≤ 0 := by omega
      have q5 := jam_un q0
      obtain ⟨z1, z2, z3, z4, z5⟩ := ho.2.2.2.2.2.2.1 q5
      obtain ⟨τ2, fx, fy, v1, v2, v3⟩ := km_cut (tb := tb) (d := d + 2) (c := c) (t := t) (g := g) (fl := fl) (tg := tg) (b := fB f) (j := fJ f) (l2 := Int32.ofNat pre.length) C1 (donP_Wf W) Ph1 l1 q36 T6 l2 he h1 h2 (s := fS f) t1 hK z4 (by rw [drR_don]; exact u2 q5) hS0 hS1
      refine ⟨τ2, c + 2, t + 24, G2 g c fx fy, ?_, fun a ha => by rw [v3 a (by omega) (by omega) (by omega) (by omega)]; exact fr a ha, ?_, Or.inr ⟨rfl, rfl, fx, fy, rfl⟩⟩
      · rw [go, sg_X7_jam_66]
        simp (disch := omega) only [bq_s, aq_I, aq_R, aq_V, cq_t, cq_f, if_true, if_false, Bool.true_and, Bool.and_true, Bool.or_true, Bool.true_or, gi_270_0, gi_270_10, gi_270_11, gi_270_12, gi_270_13, gi_270_14, gi_270_15, gi_270_21, gi_270_22, gi_270_23, gi_270_34, gi_270_35, gi_270_36, pi_270_0, pi_270_10, pi_270_11, pi_270_12, pi_270_13, pi_270_14, pi_270_15, pi_270_21, pi_270_22, pi_270_23, pi_270_34, pi_270_35, pi_270_36, gr_270_1, gr_270_2, gr_270_3, gr_270_4, gr_270_5, gr_270_6, gr_270_7, gr_270_8, gr_270_9, gr_270_16, gr_270_17, gr_270_18, gr_270_19, gr_270_20, gr_270_24, gr_270_25, gr_270_26, gr_270_27, gr_270_28, gr_270_29, gr_270_30, gr_270_31, gr_270_32, gr_270_33, ld_271, ld_272, ld_273, ld_274, ld_275, ld_276, ld_277, ld_278, ld_279, ld_280, ld_281, ld_282, ld_283, ld_284, ld_285, ld_286, ld_287, ld_288, ld_289, ld_290, ld_291, ld_292, ld_293, ld_294, sv_271, sv_272, sv_273, sv_274, sv_275, sv_276, sv_277, sv_278, sv_279, sv_280, sv_281, sv_282, sv_283, sv_284, sv_285, sv_286, sv_287, sv_288, sv_289, sv_290, sv_291, sv_292, sv_293, sv_294, is_270, ia_0, ia_1, is_m0, is_m1, im_8, ml_8, im_11, ml_11, im_12, ml_12, im_88, ml_88, im_89, ml_89, j_lt_0, j_gt_0, j_le_0, j_ge_0, j_eq_0, j_lt_1, j_gt_1, j_le_1, j_ge_1, j_eq_1, j_lt_2, j_gt_2, j_le_2, j_ge_2, j_eq_2, j_lt_3, j_gt_3, j_le_3, j_ge_3, j_eq_3, j_lt_4, j_gt_4, j_le_4, j_ge_4, j_eq_4, j_lt_5, j_gt_5, j_le_5, j_ge_5, j_eq_5, j_lt_6, j_gt_6, j_le_6, j_ge_6, j_eq_6, j_lt_8, j_gt_8, j_le_8, j_ge_8, j_eq_8, j_lt_12, j_gt_12, j_le_12, j_ge_12, j_eq_12, j_lt_209, j_gt_209, j_le_209, j_ge_209, j_eq_209, j_lt_255, j_gt_255, j_le_255, j_ge_255, j_eq_255, j_lt_1000000000, j_gt_1000000000, j_le_1000000000, j_ge_1000000000, j_eq_1000000000, q10, i_le, Nat.le_refl, e288', nm, un', q0', v1]
      · unfold jamP
        rw [if_neg q0]
        have r270 := v3 270 (by omega) (by omega) (by omega) (by omega)
        refine ⟨v2, ⟨?_, ?_, ?_, x1, x2⟩, ?_, ?_, ?_, fun s hs => ?_, ?_, ?_⟩
        · rw [r270]; exact q11
        · rw [r270]; exact q12
        · rw [r270]; exact q13
        · rw [r270]; exact q23
        · rw [r270]; exact q36
        · exact ⟨phZ P A os ob k, PhM_congr (fun a a1 a2 => v3 a (by omega) (by omega) (by omega) (by omega)) (by rw [r270]) (by rw [r270]) Ph1, l1, l2, fun f hf => (hK f hf).1, rfl⟩
        · rw [v3 294 (by omega) (by omega) (by omega) (by omega)]; exact (y3 s hs).1
        · rw [r270]; exact q14
        · rw [r270]; exact q15
end MJ2
