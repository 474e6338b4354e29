/-! arm, the reference's side -/
section MAR
variable {tb : dT} {d c t : Nat} {g : Nat → Option dE} {fl : Nat → Bool} {tg : Nat} {σ : dSg} {P : dP} {A : dA} {os ob : Nat → Nat} {sum : Option Nat} {k T w : Nat} {e : Nat → Option Nat} {n j : Int32}
theorem mq_armN (hT : T ≤ 1000000) (H : MN P A T w e n j σ) (x : Int32) : dX tb (d + 3) 132 0 [.ref 270, .int x, .null, .null, .null] [] (c, t, hp g (SH fl tg) σ) = some (some (.int (ans9 (armN A T w) x)), (c, t, hp g (SH fl tg) (up2 σ 270 0 0))) := by
  have H0 : MN P A T w e n j (up2 σ 270 0 0) := MN_congr (fun a a1 _ => up2_row _ _ (by omega)) (fun k hk => up2_n _ _ (by omega)) H
  have e23 := H.2.2.1
  obtain ⟨C, hA, h23, h36, ⟨l, l1, l2, l3, l4, l5⟩, hE, h14, h15⟩ := H0
  rw [sg_X7_arm_0, pi_270_0, bq_s, gi_270_23, bq_s, up2_n _ _ (by omega), e23, if_pos rfl]
  refine sw9 ?_ ?_ ?_ ?_ ?_ ?_ ?_ ?_ ?_ ?_
  · rw [sg_X7_arm_297]
  · show dX tb (d + 3) 132 72 _ _ _ = _
    rw [sg_X7_arm_72, gi_270_23, bq_s, h23, if_pos rfl, gi_270_11, bq_s, hA.1]; rfl
  · show dX tb (d + 3) 132 93 _ _ _ = _
    rw [sg_X7_arm_93, gi_270_23, bq_s, h23, if_pos rfl, gi_270_12, bq_s, hA.2.1]; rfl
  · show dX tb (d + 3) 132 114 _ _ _ = _
    rw [sg_X7_arm_114, gi_270_23, bq_s, h23, if_pos rfl, gi_270_13, bq_s, hA.2.2.1]; rfl
  · show dX tb (d + 3) 132 135 _ _ _ = _
    rw [sg_X7_arm_135, gi_270_23, bq_s, h23, if_pos rfl]; rfl
  · show dX tb (d + 3) 132 167 _ _ _ = _
    rw [sg_X7_arm_167, gi_270_23, bq_s, h23, if_pos rfl]; rfl
  · show dX tb (d + 3) 132 180 _ _ _ = _
    rw [sg_X7_arm_180, gi_270_36, bq_s, h36]; rfl
  · show dX tb (d + 3) 132 185 _ _ _ = _
    rw [sg_X7_arm_185]
    refine (km_wtL (d := d + 2) l1 l2 h36 hT l3 l4 l.length 0 0 (by omega)).trans ?_
    rw [List.take_zero, List.drop_zero, Nat.zero_add]
    show _ = some (some (Value.int (Int32.ofNat w)), _)
    rw [l5]; rfl
  · show dX tb (d + 3) 132 247 _ _ _ = _
    rw [sg_X7_arm_247, gi_270_23, bq_s, h23, if_pos rfl]; rfl
  · show dX tb (d + 3) 132 265 _ _ _ = _
    rw [sg_X7_arm_265, gi_270_23, bq_s, h23, if_pos rfl]; rfl
theorem MR_thr (H : MR P A sum k os ob T n j σ) : MR P A sum k os ob T n j (up2 σ 270 0 0) := by
  obtain ⟨C, hA, Ph, En, Or', h21, h22, h23, h36, h14, h15⟩ := H
  refine ⟨ShM_congr C (fun a a1 a2 => up2_row _ _ (by omega)) (up2_n _ _ (by omega)), ?_, PhM_congr (fun a a1 a2 => up2_row _ _ (by omega)) (up2_n _ _ (by omega)) (up2_n _ _ (by omega)) Ph, fun s hs => ?_, fun i hi => ?_, ?_, ?_, ?_, ?_, ?_, ?_⟩
  · unfold ArM; simp (disch := omega) only [up2_n]; exact hA
  · simp (disch := omega) only [up2_row]; exact En s hs
  · simp (disch := omega) only [up2_row]; exact Or' i hi
  · rw [up2_n _ _ (by omega)]; exact h21
  · rw [up2_n _ _ (by omega)]; exact h22
  · rw [up2_n _ _ (by omega)]; exact h23
  · rw [up2_n _ _ (by omega)]; exact h36
  · rw [up2_n _ _ (by omega)]; exact h14
  · rw [up2_n _ _ (by omega)]; exact h15
theorem mq_armR (R : OkR P A sum k os ob T) (H : MR P A sum k os ob T n j σ) {pre post : List dF} {f : dF} (he : phZ P A os ob k = pre ++ f :: post) (h1 : tot pre ≤ T) (h2 : T < tot pre + fL f) (x : Int32) : dX tb (d + 3) 132 0 [.ref 270, .int x, .null, .null, .null] [] (c, t, hp g (SH fl tg) σ) = some (some (.int (ans9 (armR P T (phZ P A os ob k) pre f) x)), (c, t, hp g (SH fl tg) (up2 σ 270 0 0))) := by
  have e23 := H.2.2.2.2.2.2.2.1
  have R' := R
  obtain ⟨W, hx, hy, hk, h8, hp1, hT⟩ := R'
  have hm := W.1
  have hO := (pl_ok hp1 hk h8).1
  obtain ⟨l1, l2⟩ := phZ_len (A := A) W hO hx hy
  have hK := phZ_K (A := A) W hO hk hx hy
  obtain ⟨ho, okp⟩ := at_ok R he
  obtain ⟨C, hA, Ph, En, Or', h21, h22, h23, h36, h14, h15⟩ := MR_thr H
  have hN0 : ¬ ((1 : Int32) = 0) := by decide
  have gp : (phZ P A os ob k)[pre.length]? = some f := by rw [he]; exact get_pre
  have tp : (phZ P A os ob k).take pre.length = pre := by rw [he]; exact take_pre
  have hlen : pre.length < 209 := by have := (List.getElem?_eq_some_iff.mp gp).1; omega
  have T6 : T ≤ 1000000 := by omega
  have at0 := km_at (tb := tb) (d := d + 2) (c := c) (t := t) (g := g) (fl := fl) (tg := tg) Ph l1 h36 T6 l2 he h1 h2
  have wh := km_wh (tb := tb) (d := d) (c := c) (t := t) (g := g) (fl := fl) (tg := tg) C W Ph l1 h36 T6 l2 gp ho (by rw [tp]; exact h1) (by rw [tp]; exact h2)
  rw [tp] at wh
  obtain ⟨g0, -, -, g3, -, -, -, -, g8⟩ := Ph.2.2 _ _ gp
  rw [sg_X7_arm_0, pi_270_0, bq_s, gi_270_23, bq_s, up2_n _ _ (by omega), e23, if_neg hN0, is_270, cq_t, at0, aq_I]
  have k6 := ho.1
  refine sw9 ?_ ?_ ?_ ?_ ?_ ?_ ?_ ?_ ?_ ?_
  · rw [sg_X7_arm_297]
  · show dX tb (d + 3) 132 72 _ _ _ = _
    rw [sg_X7_arm_72, gi_270_23, bq_s, h23, if_neg hN0, is_270, cq_t, wh.1, aq_I]; rfl
  · show dX tb (d + 3) 132 93 _ _ _ = _
    rw [sg_X7_arm_93, gi_270_23, bq_s, h23, if_neg hN0, is_270, cq_t, wh.2, aq_I]; rfl
  · show dX tb (d + 3) 132 114 _ _ _ = _
    rw [sg_X7_arm_114, gi_270_23, bq_s, h23, if_neg hN0]
    simp (disch := omega) only [bq_s, aq_I, aq_R, aq_V, cq_t, cq_f, if_true, if_false, Bool.true_and, Bool.and_true, Bool.or_true, Bool.true_or, gi_270_0, gi_270_10, gi_270_11, gi_270_12, gi_270_13, gi_270_14, gi_270_15, gi_270_21, gi_270_22, gi_270_23, gi_270_34, gi_270_35, gi_270_36, pi_270_0, pi_270_10, pi_270_11, pi_270_12, pi_270_13, pi_270_14, pi_270_15, pi_270_21, pi_270_22, pi_270_23, pi_270_34, pi_270_35, pi_270_36, gr_270_1, gr_270_2, gr_270_3, gr_270_4, gr_270_5, gr_270_6, gr_270_7, gr_270_8, gr_270_9, gr_270_16, gr_270_17, gr_270_18, gr_270_19, gr_270_20, gr_270_24, gr_270_25, gr_270_26, gr_270_27, gr_270_28, gr_270_29, gr_270_30, gr_270_31, gr_270_32, gr_270_33, ld_271, ld_272, ld_273, ld_274, ld_275, ld_276, ld_277, ld_278, ld_279, ld_280, ld_281, ld_282, ld_283, ld_284, ld_285, ld_286, ld_287, ld_288, ld_289, ld_290, ld_291, ld_292, ld_293, ld_294, sv_271, sv_272, sv_273, sv_274, sv_275, sv_276, sv_277, sv_278, sv_279, sv_280, sv_281, sv_282, sv_283, sv_284, sv_285, sv_286, sv_287, sv_288, sv_289, sv_290, sv_291, sv_292, sv_293, sv_294, is_270, g8]; rfl
  · show dX tb (d + 3) 132 135 _ _ _ = _
    rw [sg_X7_arm_135, gi_270_23, bq_s, h23, if_neg hN0]
    simp (disch := omega) only [bq_s, aq_I, aq_R, aq_V, cq_t, cq_f, if_true, if_false, Bool.true_and, Bool.and_true, Bool.or_true, Bool.true_or, gi_270_0, gi_270_10, gi_270_11, gi_270_12, gi_270_13, gi_270_14, gi_270_15, gi_270_21, gi_270_22, gi_270_23, gi_270_34, gi_270_35, gi_270_36, pi_270_0, pi_270_10, pi_270_11, pi_270_12, pi_270_13, pi_270_14, pi_270_15, pi_270_21, pi_270_22, pi_270_23, pi_270_34, pi_270_35, pi_270_36, gr_270_1, gr_270_2, gr_270_3, gr_270_4, gr_270_5, gr_270_6, gr_270_7, gr_270_8, gr_270_9, gr_270_16, gr_270_17, gr_270_18, gr_270_19, gr_270_20, gr_270_24, gr_270_25, gr_270_26, gr_270_27, gr_270_28, gr_270_29, gr_270_30, gr_270_31, gr_270_32, gr_270_33, ld_271, ld_272, ld_273, ld_274, ld_275, ld_276, ld_277, ld_278, ld_279, ld_280, ld_281, ld_282, ld_283, ld_284, ld_285, ld_286, ld_287, ld_288, ld_289, ld_290, ld_291, ld_292, ld_293, ld_294, sv_271, sv_272, sv_273, sv_274, sv_275, sv_276, sv_277, sv_278, sv_279, sv_280, sv_281, sv_282, sv_283, sv_284, sv_285, sv_286, sv_287, sv_288, sv_289, sv_290, sv_291, sv_292, sv_293, sv_294, is_270, ia_0, ia_1, is_m0, is_m1, im_8, ml_8, im_11, ml_11, im_12, ml_12, im_88, ml_88, im_89, ml_89, j_lt_0, j_gt_0, j_le_0, j_ge_0, j_eq_0, j_lt_1, j_gt_1, j_le_1, j_ge_1, j_eq_1, j_lt_2, j_gt_2, j_le_2, j_ge_2, j_eq_2, j_lt_3, j_gt_3, j_le_3, j_ge_3, j_eq_3, j_lt_4, j_gt_4, j_le_4, j_ge_4, j_eq_4, j_lt_5, j_gt_5, j_le_5, j_ge_5, j_eq_5, j_lt_6, j_gt_6, j_le_6, j_ge_6, j_eq_6, j_lt_8, j_gt_8, j_le_8, j_ge_8, j_eq_8, j_lt_12, j_gt_12, j_le_12, j_ge_12, j_eq_12, j_lt_209, j_gt_209, j_le_209, j_ge_209, j_eq_209, j_lt_255, j_gt_255, j_le_255, j_ge_255, j_eq_255, j_lt_1000000000, j_gt_1000000000, j_le_1000000000, j_ge_1000000000, j_eq_1000000000, g0]
    show _ = some (some (Value.int (bI (dwK (fK f)))), _)
    unfold dwK
    by_cases q : fK f = 0
    · rw [if_pos q, q]; rfl
    · rw [if_neg q, show Nat.beq (fK f) 0 = false from beq_f q, Bool.false_or]
      by_cases q4 : fK f < 4
      · rw [if_pos q4]
        have : Nat.ble 4 (fK f) = false := by cases z : Nat.ble 4 (fK f); rfl; have := Nat.le_of_ble_eq_true z; omega
        rw [this]; rfl
      · rw [if_neg q4, show Nat.ble 4 (fK f) = true from Nat.ble_eq.mpr (by omega)]; rfl
  · show dX tb (d + 3) 132 167 _ _ _ = _
    rw [sg_X7_arm_167, gi_270_23, bq_s, h23, if_neg hN0]; rfl
  · show dX tb (d + 3) 132 180 _ _ _ = _
    rw [sg_X7_arm_180, gi_270_36, bq_s, h36]; rfl
  · show dX tb (d + 3) 132 185 _ _ _ = _
    rw [sg_X7_arm_185]
    refine (km_wtL (d := d + 2) Ph l1 h36 T6 l2 (fun f hf => (hK f hf).1) (phZ P A os ob k).length 0 0 (by omega)).trans ?_
    rw [List.take_zero, List.drop_zero, Nat.zero_add]; rfl
  · show dX tb (d + 3) 132 247 _ _ _ = _
    rw [sg_X7_arm_247, gi_270_23, bq_s, h23, if_neg hN0]
    simp (disch := omega) only [bq_s, aq_I, aq_R, aq_V, cq_t, cq_f, if_true, if_false, Bool.true_and, Bool.and_true, Bool.or_true, Bool.true_or, gi_270_0, gi_270_10, gi_270_11, gi_270_12, gi_270_13, gi_270_14, gi_270_15, gi_270_21, gi_270_22, gi_270_23, gi_270_34, gi_270_35, gi_270_36, pi_270_0, pi_270_10, pi_270_11, pi_270_12, pi_270_13, pi_270_14, pi_270_15, pi_270_21, pi_270_22, pi_270_23, pi_270_34, pi_270_35, pi_270_36, gr_270_1, gr_270_2, gr_270_3, gr_270_4, gr_270_5, gr_270_6, gr_270_7, gr_270_8, gr_270_9, gr_270_16, gr_270_17, gr_270_18, gr_270_19, gr_270_20, gr_270_24, gr_270_25, gr_270_26, gr_270_27, gr_270_28, gr_270_29, gr_270_30, gr_270_31, gr_270_32, gr_270_33, ld_271, ld_272, ld_273, ld_274, ld_275, ld_276, ld_277, ld_278, ld_279, ld_280, ld_281, ld_282, ld_283, ld_284, ld_285, ld_286, ld_287, ld_288, ld_289, ld_290, ld_291, ld_292, ld_293, ld_294, sv_271, sv_272, sv_273, sv_274, sv_275, sv_276, sv_277, sv_278, sv_279, sv_280, sv_281, sv_282, sv_283, sv_284, sv_285, sv_286, sv_287, sv_288, sv_289, sv_290, sv_291, sv_292, sv_293, sv_294, is_270, g3]; rfl
  · show dX tb (d + 3) 132 265 _ _ _ = _
    rw [sg_X7_arm_265, gi_270_23, bq_s, h23, if_neg hN0]
    show _ = some (some (Value.int (Int32.ofNat (unJ P T pre f))), _)
    by_cases s8 : fS f = 8
    · have q0 : unJ P T pre f = 0 := by
        unfold unJ
        have k0 : fK f = 0 := Decidable.byContradiction fun z => ho.2.2.2.2.2.2.2.2.2.2.1 z s8
        rw [if_neg (by omega), if_neg (by omega)]
      rw [q0]
      simp (disch := omega) only [bq_s, aq_I, aq_R, aq_V, cq_t, cq_f, if_true, if_false, Bool.true_and, Bool.and_true, Bool.or_true, Bool.true_or, gi_270_0, gi_270_10, gi_270_11, gi_270_12, gi_270_13, gi_270_14, gi_270_15, gi_270_21, gi_270_22, gi_270_23, gi_270_34, gi_270_35, gi_270_36, pi_270_0, pi_270_10, pi_270_11, pi_270_12, pi_270_13, pi_270_14, pi_270_15, pi_270_21, pi_270_22, pi_270_23, pi_270_34, pi_270_35, pi_270_36, gr_270_1, gr_270_2, gr_270_3, gr_270_4, gr_270_5, gr_270_6, gr_270_7, gr_270_8, gr_270_9, gr_270_16, gr_270_17, gr_270_18, gr_270_19, gr_270_20, gr_270_24, gr_270_25, gr_270_26, gr_270_27, gr_270_28, gr_270_29, gr_270_30, gr_270_31, gr_270_32, gr_270_33, ld_271, ld_272, ld_273, ld_274, ld_275, ld_276, ld_277, ld_278, ld_279, ld_280, ld_281, ld_282, ld_283, ld_284, ld_285, ld_286, ld_287, ld_288, ld_289, ld_290, ld_291, ld_292, ld_293, ld_294, sv_271, sv_272, sv_273, sv_274, sv_275, sv_276, sv_277, sv_278, sv_279, sv_280, sv_281, sv_282, sv_283, sv_284, sv_285, sv_286, sv_287, sv_288, sv_289, sv_290, sv_291, sv_292, sv_293, sv_294, is_270, g3, s8, enc8]; rfl
    · have t1 : fS f < pM P := by
        rcases ho.2.2.2.2.2.2.2.2.2.1 with r | r
        · exact absurd r s8
        · exact r.1
      have nm := ofN_m1 (x := fS f) (by omega)
      have hj := phZM (A := A) (os := os) (ob := ob) f (by rw [he]; exact List.mem_append_right _ (List.mem_cons_self)) s8
      obtain ⟨u1, -⟩ := at_hand (A := A) W hO hk hx hy he h1 h2 s8 hj
      have un := km_un (tb := tb) (d := d) (c := c) (t := t) (g := g) (fl := fl) (tg := tg) C W Ph l1 h36 T6 l2 (show fS f < 8 by omega) hK
      rw [u1] at un
      rw [encS_ne s8] at g3
      simp (disch := omega) only [bq_s, aq_I, aq_R, aq_V, cq_t, cq_f, if_true, if_false, Bool.true_and, Bool.and_true, Bool.or_true, Bool.true_or, gi_270_0, gi_270_10, gi_270_11, gi_270_12, gi_270_13, gi_270_14, gi_270_15, gi_270_21, gi_270_22, gi_270_23, gi_270_34, gi_270_35, gi_270_36, pi_270_0, pi_270_10, pi_270_11, pi_270_12, pi_270_13, pi_270_14, pi_270_15, pi_270_21, pi_270_22, pi_270_23, pi_270_34, pi_270_35, pi_270_36, gr_270_1, gr_270_2, gr_270_3, gr_270_4, gr_270_5, gr_270_6, gr_270_7, gr_270_8, gr_270_9, gr_270_16, gr_270_17, gr_270_18, gr_270_19, gr_270_20, gr_270_24, gr_270_25, gr_270_26, gr_270_27, gr_270_28, gr_270_29, gr_270_30, gr_270_31, gr_270_32, gr_270_33, ld_271, ld_272, ld_273, ld_274, ld_275, ld_276, ld_277, ld_278, ld_279, ld_280, ld_281, ld_282, ld_283, ld_284, ld_285, ld_286, ld_287, ld_288, ld_289, ld_290, ld_291, ld_292, ld_293, ld_294, sv_271, sv_272, sv_273, sv_274, sv_275, sv_276, sv_277, sv_278, sv_279, sv_280, sv_281, sv_282, sv_283, sv_284, sv_285, sv_286, sv_287, sv_288, sv_289, sv_290, sv_291, sv_292, sv_293, sv_294, is_270, g3, nm, un]; rfl
end MAR
