/-! told, at rest and running, on both sides -/
section TLD
variable {tb : dT} {d c t : Nat} {g : Nat → Option dE} {fl : Nat → Bool} {tg : Nat} {σ : dSg} {P : dP} {A : dA} {os ob : Nat → Nat} {sum : Option Nat} {k T w : Nat} {e : Nat → Option Nat} {lf : Nat → Bool} {n j : Int32}
def ans6 (a : Nat → Int32) (x : Int32) : Int32 := if x = 0 then a 0 else if x = 1 then a 1 else if x = 2 then a 2 else if x = 3 then a 3 else if x = 4 then a 4 else if x = 5 then a 5 else -1
theorem sw6 {a : Nat → Int32} {x : Int32} {a0 a1 a2 a3 a4 a5 : Int} {h : dH} {D : Option (Option Value × dH)} {G : Int → Option (Option Value × dH)} (hD : D = some (some (.int (-1)), h)) (h0 : G a0 = some (some (.int (a 0)), h)) (h1 : G a1 = some (some (.int (a 1)), h)) (h2 : G a2 = some (some (.int (a 2)), h)) (h3 : G a3 = some (some (.int (a 3)), h)) (h4 : G a4 = some (some (.int (a 4)), h)) (h5 : G a5 = some (some (.int (a 5)), h)) : (if x.toInt < 0 ∨ 5 < x.toInt then D else (#[a0, a1, a2, a3, a4, a5][(x.toInt - 0).toNat]?).bind G) = some (some (.int (ans6 a x)), h) := by
  unfold ans6
  by_cases q0 : x = 0
  · subst q0; exact h0
  rw [if_neg q0]
  by_cases q1 : x = 1
  · subst q1; exact h1
  rw [if_neg q1]
  by_cases q2 : x = 2
  · subst q2; exact h2
  rw [if_neg q2]
  by_cases q3 : x = 3
  · subst q3; exact h3
  rw [if_neg q3]
  by_cases q4 : x = 4
  · subst q4; exact h4
  rw [if_neg q4]
  by_cases q5 : x = 5
  · subst q5; exact h5
  rw [if_neg q5]
  have f : ∀ z : Int32, x ≠ z → x.toInt ≠ z.toInt := fun z hz q => hz (Int32.toInt_inj.mp q)
  have f0 := f 0 q0
  have f1 := f 1 q1
  have f2 := f 2 q2
  have f3 := f 3 q3
  have f4 := f 4 q4
  have f5 := f 5 q5
  have e0 : (0 : Int32).toInt = 0 := rfl
  have e1 : (1 : Int32).toInt = 1 := rfl
  have e2 : (2 : Int32).toInt = 2 := rfl
  have e3 : (3 : Int32).toInt = 3 := rfl
  have e4 : (4 : Int32).toInt = 4 := rfl
  have e5 : (5 : Int32).toInt = 5 := rfl
  rw [if_pos (by omega)]; exact hD
def tld (P : dP) (lf : Nat → Bool) (e : Nat → Option Nat) (s i : Nat) : Int32 := match i with
  | 0 => Int32.ofNat (pPen P s)
  | 1 => Int32.ofNat (pWet P s)
  | 2 => Int32.ofNat (pN P s)
  | 3 => bI (clo P s)
  | 4 => bI (lf s)
  | _ => encE (e s)
def ansTd (P : dP) (lf : Nat → Bool) (e : Nat → Option Nat) (x y : Int32) : Int32 := bif inR (pM P) x then ans6 (tld P lf e (tN x)) y else -1
theorem bI_if (b : Bool) (h : dH) : (if bI b = 0 then some (some (Value.int 0), h) else some (some (Value.int 1), h)) = some (some (.int (bI b)), h) := by
  cases b
  · rfl
  · rw [if_neg (by decide)]; rfl
theorem kq_told (C : ShC P fl σ) (W : Wf P) (h3 : ∀ s, s < pM P → σ (5 + 5 * s) 3 = bI (lf s)) (h6 : ∀ s, s < pM P → σ (5 + 5 * s) 6 = encE (e s)) (x y : Int32) : dX tb (d + 2) 84 0 [.ref 0, .int x, .int y, .null] [] (c, t, hp g (SH fl tg) σ) = some (some (.int (ansTd P lf e x y)), (c, t, hp g (SH fl tg) σ)) := by
  have hm := W.1
  unfold ansTd
  rw [sg_X6_told_0]
  simp (disch := omega) only [bq_s, aq_I, aq_R, aq_V, cq_t, cq_f, if_true, if_false, Bool.true_and, Bool.and_true, Bool.or_true, Bool.true_or, gi_1_3, gi_s, pi_1_3, pi_s, gr_0_0, gr_0_1, gr_0_2, gr_0_3, gr_1_0, gr_1_1, gr_1_2, gr_s_7, gr_s_8, gr_s_9, gr_s_10, ld_3, ld_4, ld_x, ld_y, ld_u, ld_v, sv_3, sv_4, sv_x, sv_y, sv_u, sv_v, is_0, is_1, is_s, lr_2, kh_has C W]
  cases q : inR (pM P) x
  · rw [if_pos (by decide)]; rfl
  · rw [if_neg (by decide)]
    obtain ⟨s, hs, rfl, es⟩ := inR_ex (by omega) q
    rw [es]
    have a3 := h3 s hs
    have a6 := h6 s hs
    obtain ⟨b0, b1, b2, b4, b5, b6⟩ := C.2.2.1 s hs
    simp (disch := omega) only [bq_s, aq_I, aq_R, aq_V, cq_t, cq_f, if_true, if_false, Bool.true_and, Bool.and_true, Bool.or_true, Bool.true_or, gi_1_3, gi_s, pi_1_3, pi_s, gr_0_0, gr_0_1, gr_0_2, gr_0_3, gr_1_0, gr_1_1, gr_1_2, gr_s_7, gr_s_8, gr_s_9, gr_s_10, ld_3, ld_4, ld_x, ld_y, ld_u, ld_v, sv_3, sv_4, sv_x, sv_y, sv_u, sv_v, is_0, is_1, is_s, lr_2]
    refine sw6 ?_ ?_ ?_ ?_ ?_ ?_ ?_
    · rw [sg_X6_told_110]
    · show dX tb (d + 2) 84 64 _ _ _ = _
      rw [sg_X6_told_64]; simp (disch := omega) only [bq_s, aq_I, aq_R, aq_V, cq_t, cq_f, if_true, if_false, Bool.true_and, Bool.and_true, Bool.or_true, Bool.true_or, gi_1_3, gi_s, pi_1_3, pi_s, gr_0_0, gr_0_1, gr_0_2, gr_0_3, gr_1_0, gr_1_1, gr_1_2, gr_s_7, gr_s_8, gr_s_9, gr_s_10, ld_3, ld_4, ld_x, ld_y, ld_u, ld_v, sv_3, sv_4, sv_x, sv_y, sv_u, sv_v, is_0, is_1, is_s, lr_2, b0]; rfl
    · show dX tb (d + 2) 84 69 _ _ _ = _
      rw [sg_X6_told_69]; simp (disch := omega) only [bq_s, aq_I, aq_R, aq_V, cq_t, cq_f, if_true, if_false, Bool.true_and, Bool.and_true, Bool.or_true, Bool.true_or, gi_1_3, gi_s, pi_1_3, pi_s, gr_0_0, gr_0_1, gr_0_2, gr_0_3, gr_1_0, gr_1_1, gr_1_2, gr_s_7, gr_s_8, gr_s_9, gr_s_10, ld_3, ld_4, ld_x, ld_y, ld_u, ld_v, sv_3, sv_4, sv_x, sv_y, sv_u, sv_v, is_0, is_1, is_s, lr_2, b1]; rfl
    · show dX tb (d + 2) 84 74 _ _ _ = _
      rw [sg_X6_told_74]; simp (disch := omega) only [bq_s, aq_I, aq_R, aq_V, cq_t, cq_f, if_true, if_false, Bool.true_and, Bool.and_true, Bool.or_true, Bool.true_or, gi_1_3, gi_s, pi_1_3, pi_s, gr_0_0, gr_0_1, gr_0_2, gr_0_3, gr_1_0, gr_1_1, gr_1_2, gr_s_7, gr_s_8, gr_s_9, gr_s_10, ld_3, ld_4, ld_x, ld_y, ld_u, ld_v, sv_3, sv_4, sv_x, sv_y, sv_u, sv_v, is_0, is_1, is_s, lr_2, b2]; rfl
    · show dX tb (d + 2) 84 79 _ _ _ = _
      rw [sg_X6_told_79]; simp (disch := omega) only [bq_s, aq_I, aq_R, aq_V, cq_t, cq_f, if_true, if_false, Bool.true_and, Bool.and_true, Bool.or_true, Bool.true_or, gi_1_3, gi_s, pi_1_3, pi_s, gr_0_0, gr_0_1, gr_0_2, gr_0_3, gr_1_0, gr_1_1, gr_1_2, gr_s_7, gr_s_8, gr_s_9, gr_s_10, ld_3, ld_4, ld_x, ld_y, ld_u, ld_v, sv_3, sv_4, sv_x, sv_y, sv_u, sv_v, is_0, is_1, is_s, lr_2, b5]; exact bI_if _ _
    · show dX tb (d + 2) 84 92 _ _ _ = _
      rw [sg_X6_told_92]; simp (disch := omega) only [bq_s, aq_I, aq_R, aq_V, cq_t, cq_f, if_true, if_false, Bool.true_and, Bool.and_true, Bool.or_true, Bool.true_or, gi_1_3, gi_s, pi_1_3, pi_s, gr_0_0, gr_0_1, gr_0_2, gr_0_3, gr_1_0, gr_1_1, gr_1_2, gr_s_7, gr_s_8, gr_s_9, gr_s_10, ld_3, ld_4, ld_x, ld_y, ld_u, ld_v, sv_3, sv_4, sv_x, sv_y, sv_u, sv_v, is_0, is_1, is_s, lr_2, a3]; exact bI_if _ _
    · show dX tb (d + 2) 84 105 _ _ _ = _
      rw [sg_X6_told_105]; simp (disch := omega) only [bq_s, aq_I, aq_R, aq_V, cq_t, cq_f, if_true, if_false, Bool.true_and, Bool.and_true, Bool.or_true, Bool.true_or, gi_1_3, gi_s, pi_1_3, pi_s, gr_0_0, gr_0_1, gr_0_2, gr_0_3, gr_1_0, gr_1_1, gr_1_2, gr_s_7, gr_s_8, gr_s_9, gr_s_10, ld_3, ld_4, ld_x, ld_y, ld_u, ld_v, sv_3, sv_4, sv_x, sv_y, sv_u, sv_v, is_0, is_1, is_s, lr_2, a6]; rfl
theorem mh_leftN (C : ShM P σ) (W : Wf P) (h23 : σ 270 23 = 0) {s : Nat} (hs : s < pM P) : dX tb d 133 0 [.ref 270, .int (Int32.ofNat s)] [] (c, t, hp g (SH fl tg) σ) = some (some (.int (bI (pLf P s))), (c, t, hp g (SH fl tg) σ)) := by
  have hm := W.1
  obtain ⟨d1, d2, d3, d4, d5, d6⟩ := C.2.2.1 s hs
  rw [sg_X7_isLeft_0]
  simp (disch := omega) only [bq_s, aq_I, aq_R, aq_V, cq_t, cq_f, if_true, if_false, Bool.true_and, Bool.and_true, Bool.or_true, Bool.true_or, gi_270_0, gi_270_10, gi_270_11, gi_270_12, gi_270_13, gi_270_14, gi_270_15, gi_270_21, gi_270_22, gi_270_23, gi_270_34, gi_270_35, gi_270_36, pi_270_0, pi_270_10, pi_270_11, pi_270_12, pi_270_13, pi_270_14, pi_270_15, pi_270_21, pi_270_22, pi_270_23, pi_270_34, pi_270_35, pi_270_36, gr_270_1, gr_270_2, gr_270_3, gr_270_4, gr_270_5, gr_270_6, gr_270_7, gr_270_8, gr_270_9, gr_270_16, gr_270_17, gr_270_18, gr_270_19, gr_270_20, gr_270_24, gr_270_25, gr_270_26, gr_270_27, gr_270_28, gr_270_29, gr_270_30, gr_270_31, gr_270_32, gr_270_33, ld_271, ld_272, ld_273, ld_274, ld_275, ld_276, ld_277, ld_278, ld_279, ld_280, ld_281, ld_282, ld_283, ld_284, ld_285, ld_286, ld_287, ld_288, ld_289, ld_290, ld_291, ld_292, ld_293, ld_294, sv_271, sv_272, sv_273, sv_274, sv_275, sv_276, sv_277, sv_278, sv_279, sv_280, sv_281, sv_282, sv_283, sv_284, sv_285, sv_286, sv_287, sv_288, sv_289, sv_290, sv_291, sv_292, sv_293, sv_294, is_270, d4, h23]; exact bI_if _ _
theorem mh_leftR (C : ShM P σ) (W : Wf P) (h23 : σ 270 23 = 1) (hT : T ≤ 1000000) (h36 : σ 270 36 = Int32.ofNat T) (hE : ∀ v, v < pM P → σ 294 v = encE (e v)) (hb : ∀ v x, e v = some x → x ≤ 1000000) {s : Nat} (hs : s < pM P) : dX tb d 133 0 [.ref 270, .int (Int32.ofNat s)] [] (c, t, hp g (SH fl tg) σ) = some (some (.int (bI (pLf P s && (cutE T e s).isNone))), (c, t, hp g (SH fl tg) σ)) := by
  have hm := W.1
  obtain ⟨d1, d2, d3, d4, d5, d6⟩ := C.2.2.1 s hs
  have hN0 : ¬ ((1 : Int32) = 0) := by decide
  have e294 := hE s hs
  rw [sg_X7_isLeft_0]
  simp (disch := omega) only [bq_s, aq_I, aq_R, aq_V, cq_t, cq_f, if_true, if_false, Bool.true_and, Bool.and_true, Bool.or_true, Bool.true_or, gi_270_0, gi_270_10, gi_270_11, gi_270_12, gi_270_13, gi_270_14, gi_270_15, gi_270_21, gi_270_22, gi_270_23, gi_270_34, gi_270_35, gi_270_36, pi_270_0, pi_270_10, pi_270_11, pi_270_12, pi_270_13, pi_270_14, pi_270_15, pi_270_21, pi_270_22, pi_270_23, pi_270_34, pi_270_35, pi_270_36, gr_270_1, gr_270_2, gr_270_3, gr_270_4, gr_270_5, gr_270_6, gr_270_7, gr_270_8, gr_270_9, gr_270_16, gr_270_17, gr_270_18, gr_270_19, gr_270_20, gr_270_24, gr_270_25, gr_270_26, gr_270_27, gr_270_28, gr_270_29, gr_270_30, gr_270_31, gr_270_32, gr_270_33, ld_271, ld_272, ld_273, ld_274, ld_275, ld_276, ld_277, ld_278, ld_279, ld_280, ld_281, ld_282, ld_283, ld_284, ld_285, ld_286, ld_287, ld_288, ld_289, ld_290, ld_291, ld_292, ld_293, ld_294, sv_271, sv_272, sv_273, sv_274, sv_275, sv_276, sv_277, sv_278, sv_279, sv_280, sv_281, sv_282, sv_283, sv_284, sv_285, sv_286, sv_287, sv_288, sv_289, sv_290, sv_291, sv_292, sv_293, sv_294, is_270, d4, h23, hN0, e294, h36]
  cases pLf P s
  · rfl
  · rw [if_neg (by decide), Bool.true_and]
    unfold cutE
    cases he : e s with
    | none => rfl
    | some x =>
      have hx := hb s x he
      have nm := ofN_m1 hx
      show (if Int32.ofNat x = -1 then _ else if Int32.ofNat x ≤ Int32.ofNat T then _ else _) = _
      have hI : (Int32.ofNat x ≤ Int32.ofNat T) = (x ≤ T) := i_le (by omega) (by omega)
      rw [if_neg nm]
      by_cases q : x ≤ T
      · rw [if_pos (by rw [hI]; exact q)]; show _ = some (some (Value.int (bI (if x ≤ T then some x else none).isNone)), _); rw [if_pos q]; rfl
      · rw [if_neg (by rw [hI]; exact q)]; show _ = some (some (Value.int (bI (if x ≤ T then some x else none).isNone)), _); rw [if_neg q]; rfl
theorem mq_told (C : ShM P σ) (C0 : ShM P (up2 σ 270 0 0)) (W : Wf P) (hl : ∀ s, s < pM P → dX tb (d + 1) 133 0 [.ref 270, .int (Int32.ofNat s)] [] (c, t, hp g (SH fl tg) (up2 σ 270 0 0)) = some (some (.int (bI (lf s))), (c, t, hp g (SH fl tg) (up2 σ 270 0 0)))) (hT : T ≤ 1000000) (h36 : σ 270 36 = Int32.ofNat T) (hE : ∀ v, v < pM P → σ 294 v = encE (e v)) (hb : ∀ v x, e v = some x → x ≤ 1000000) (x y : Int32) : dX tb (d + 2) 134 0 [.ref 270, .int x, .int y] [] (c, t, hp g (SH fl tg) σ) = some (some (.int (ansTd P lf (cutE T e) x y)), (c, t, hp g (SH fl tg) (up2 σ 270 0 0))) := by
  have hm := W.1
  unfold ansTd
  rw [sg_X7_told_0, pi_270_0, bq_s, is_270, cq_t, mh_has C0, aq_I]
  cases q : inR (pM P) x
  · rw [if_pos (by decide)]; rfl
  · rw [if_neg (by decide)]
    obtain ⟨s, hs, rfl, es⟩ := inR_ex (by omega) q
    rw [es]
    obtain ⟨d1, d2, d3, d4, d5, d6⟩ := C.2.2.1 s hs
    have e294 := hE s hs
    refine sw6 ?_ ?_ ?_ ?_ ?_ ?_ ?_
    · rw [sg_X7_told_139]
    · show dX tb (d + 2) 134 56 _ _ _ = _
      rw [sg_X7_told_56]; simp (disch := omega) only [bq_s, aq_I, aq_R, aq_V, cq_t, cq_f, if_true, if_false, Bool.true_and, Bool.and_true, Bool.or_true, Bool.true_or, gi_270_0, gi_270_10, gi_270_11, gi_270_12, gi_270_13, gi_270_14, gi_270_15, gi_270_21, gi_270_22, gi_270_23, gi_270_34, gi_270_35, gi_270_36, pi_270_0, pi_270_10, pi_270_11, pi_270_12, pi_270_13, pi_270_14, pi_270_15, pi_270_21, pi_270_22, pi_270_23, pi_270_34, pi_270_35, pi_270_36, gr_270_1, gr_270_2, gr_270_3, gr_270_4, gr_270_5, gr_270_6, gr_270_7, gr_270_8, gr_270_9, gr_270_16, gr_270_17, gr_270_18, gr_270_19, gr_270_20, gr_270_24, gr_270_25, gr_270_26, gr_270_27, gr_270_28, gr_270_29, gr_270_30, gr_270_31, gr_270_32, gr_270_33, ld_271, ld_272, ld_273, ld_274, ld_275, ld_276, ld_277, ld_278, ld_279, ld_280, ld_281, ld_282, ld_283, ld_284, ld_285, ld_286, ld_287, ld_288, ld_289, ld_290, ld_291, ld_292, ld_293, ld_294, sv_271, sv_272, sv_273, sv_274, sv_275, sv_276, sv_277, sv_278, sv_279, sv_280, sv_281, sv_282, sv_283, sv_284, sv_285, sv_286, sv_287, sv_288, sv_289, sv_290, sv_291, sv_292, sv_293, sv_294, is_270, up2_row, d2]; rfl
    · show dX tb (d + 2) 134 63 _ _ _ = _
      rw [sg_X7_told_63]; simp (disch := omega) only [bq_s, aq_I, aq_R, aq_V, cq_t, cq_f, if_true, if_false, Bool.true_and, Bool.and_true, Bool.or_true, Bool.true_or, gi_270_0, gi_270_10, gi_270_11, gi_270_12, gi_270_13, gi_270_14, gi_270_15, gi_270_21, gi_270_22, gi_270_23, gi_270_34, gi_270_35, gi_270_36, pi_270_0, pi_270_10, pi_270_11, pi_270_12, pi_270_13, pi_270_14, pi_270_15, pi_270_21, pi_270_22, pi_270_23, pi_270_34, pi_270_35, pi_270_36, gr_270_1, gr_270_2, gr_270_3, gr_270_4, gr_270_5, gr_270_6, gr_270_7, gr_270_8, gr_270_9, gr_270_16, gr_270_17, gr_270_18, gr_270_19, gr_270_20, gr_270_24, gr_270_25, gr_270_26, gr_270_27, gr_270_28, gr_270_29, gr_270_30, gr_270_31, gr_270_32, gr_270_33, ld_271, ld_272, ld_273, ld_274, ld_275, ld_276, ld_277, ld_278, ld_279, ld_280, ld_281, ld_282, ld_283, ld_284, ld_285, ld_286, ld_287, ld_288, ld_289, ld_290, ld_291, ld_292, ld_293, ld_294, sv_271, sv_272, sv_273, sv_274, sv_275, sv_276, sv_277, sv_278, sv_279, sv_280, sv_281, sv_282, sv_283, sv_284, sv_285, sv_286, sv_287, sv_288, sv_289, sv_290, sv_291, sv_292, sv_293, sv_294, is_270, up2_row, d3]; rfl
    · show dX tb (d + 2) 134 70 _ _ _ = _
      rw [sg_X7_told_70]; simp (disch := omega) only [bq_s, aq_I, aq_R, aq_V, cq_t, cq_f, if_true, if_false, Bool.true_and, Bool.and_true, Bool.or_true, Bool.true_or, gi_270_0, gi_270_10, gi_270_11, gi_270_12, gi_270_13, gi_270_14, gi_270_15, gi_270_21, gi_270_22, gi_270_23, gi_270_34, gi_270_35, gi_270_36, pi_270_0, pi_270_10, pi_270_11, pi_270_12, pi_270_13, pi_270_14, pi_270_15, pi_270_21, pi_270_22, pi_270_23, pi_270_34, pi_270_35, pi_270_36, gr_270_1, gr_270_2, gr_270_3, gr_270_4, gr_270_5, gr_270_6, gr_270_7, gr_270_8, gr_270_9, gr_270_16, gr_270_17, gr_270_18, gr_270_19, gr_270_20, gr_270_24, gr_270_25, gr_270_26, gr_270_27, gr_270_28, gr_270_29, gr_270_30, gr_270_31, gr_270_32, gr_270_33, ld_271, ld_272, ld_273, ld_274, ld_275, ld_276, ld_277, ld_278, ld_279, ld_280, ld_281, ld_282, ld_283, ld_284, ld_285, ld_286, ld_287, ld_288, ld_289, ld_290, ld_291, ld_292, ld_293, ld_294, sv_271, sv_272, sv_273, sv_274, sv_275, sv_276, sv_277, sv_278, sv_279, sv_280, sv_281, sv_282, sv_283, sv_284, sv_285, sv_286, sv_287, sv_288, sv_289, sv_290, sv_291, sv_292, sv_293, sv_294, is_270, up2_row, d1]; rfl
    · show dX tb (d + 2) 134 77 _ _ _ = _
      rw [sg_X7_told_77, is_270, cq_t, km_clo C0 W hs, aq_I]; exact bI_if _ _
    · show dX tb (d + 2) 134 91 _ _ _ = _
      rw [sg_X7_told_91, is_270, cq_t, hl s hs, aq_I]; exact bI_if _ _
    · show dX tb (d + 2) 134 105 _ _ _ = _
      rw [sg_X7_told_105]; simp (disch := omega) only [bq_s, aq_I, aq_R, aq_V, cq_t, cq_f, if_true, if_false, Bool.true_and, Bool.and_true, Bool.or_true, Bool.true_or, gi_270_0, gi_270_10, gi_270_11, gi_270_12, gi_270_13, gi_270_14, gi_270_15, gi_270_21, gi_270_22, gi_270_23, gi_270_34, gi_270_35, gi_270_36, pi_270_0, pi_270_10, pi_270_11, pi_270_12, pi_270_13, pi_270_14, pi_270_15, pi_270_21, pi_270_22, pi_270_23, pi_270_34, pi_270_35, pi_270_36, gr_270_1, gr_270_2, gr_270_3, gr_270_4, gr_270_5, gr_270_6, gr_270_7, gr_270_8, gr_270_9, gr_270_16, gr_270_17, gr_270_18, gr_270_19, gr_270_20, gr_270_24, gr_270_25, gr_270_26, gr_270_27, gr_270_28, gr_270_29, gr_270_30, gr_270_31, gr_270_32, gr_270_33, ld_271, ld_272, ld_273, ld_274, ld_275, ld_276, ld_277, ld_278, ld_279, ld_280, ld_281, ld_282, ld_283, ld_284, ld_285, ld_286, ld_287, ld_288, ld_289, ld_290, ld_291, ld_292, ld_293, ld_294, sv_271, sv_272, sv_273, sv_274, sv_275, sv_276, sv_277, sv_278, sv_279, sv_280, sv_281, sv_282, sv_283, sv_284, sv_285, sv_286, sv_287, sv_288, sv_289, sv_290, sv_291, sv_292, sv_293, sv_294, is_270, up2_row, up2_n, e294, h36]
      show _ = some (some (Value.int (encE (cutE T e s))), _)
      unfold cutE
      cases he : e s with
      | none => rfl
      | some x =>
        have hx := hb s x he
        have nm := ofN_m1 hx
        have hI : (Int32.ofNat T < Int32.ofNat x) = (T < x) := i_lt (by omega) (by omega)
        show (if Int32.ofNat x = -1 then _ else if Int32.ofNat T < Int32.ofNat x then _ else _) = _
        rw [if_neg nm]
        by_cases q : T < x
        · rw [if_pos (by rw [hI]; exact q)]; show _ = some (some (Value.int (encE (if x ≤ T then some x else none))), _); rw [if_neg (by omega)]; rfl
        · rw [if_neg (by rw [hI]; exact q)]; show _ = some (some (Value.int (encE (if x ≤ T then some x else none))), _); rw [if_pos (by omega)]
theorem cutE_id (h : ∀ s x, e s = some x → x ≤ T) : cutE T e = e := by
  funext s
  unfold cutE
  cases he : e s with
  | none => rfl
  | some x => exact if_pos (h s x he)
end TLD
