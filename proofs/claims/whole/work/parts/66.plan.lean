/-! plan and planned -/
section PLN
variable {tb : dT} {d c t : Nat} {g : Nat → Option dE} {fl : Nat → Bool} {tg : Nat} {σ : dSg} {P : dP} {A : dA} {T w : Nat} {e : Nat → Option Nat} {n j : Int32}
def Cnt (c t tg c' t' tg' : Nat) : Prop := (c' = c ∧ t' = t ∧ tg' = tg) ∨ (tg = 48 ∧ tg' ≠ 48 ∧ c' = c + 2 ∧ t' = t + 30360)
theorem kq_renew (W : Wf P) (hx : A.1 ≤ 500) (hy : A.2.1 ≤ 500) (hc : 296 ≤ c) (H : CN P A T w e n j fl tg c σ) : ∃ τ tg' c' t' sum k os ob, dX tb (d + 5) 12 0 [.ref 46] [] (c, t, hp g (SH fl tg) σ) = some (none, (c', t', hp g (SH fl tg') τ)) ∧ (∀ a, a < 46 ∨ 57 ≤ a → a < 296 → τ a = σ a) ∧ τ 46 10 = 1 ∧ IsPl P A sum k os ob ∧ PlC P A sum k os ob τ ∧ bnd 0 sum ∧ CN P A T w e n j fl tg' c' τ ∧ Cnt c t tg c' t' tg' := by
  have hm := W.1
  obtain ⟨C, Lc, Hh, h4, h5, h6, h7, h8, h9, h10, h11, h12⟩ := H
  rcases h11 with h11 | ⟨h11, sum, k, os, ob, p1, p2, p3⟩
  · obtain ⟨τ, tg', c', t', sum, k, os, ob, y1, y2, y3, y4, y5, y6, y7, y8, y9⟩ := kc_renew0 (tb := tb) (d := d) (c := c) (t := t) (g := g) C W Lc Hh hx hy hc h12 h11
    refine ⟨τ, tg', c', t', sum, k, os, ob, y1, y2, y3, y4, y5, y6, ⟨ShC_congr W C fun a ha => y2 a (by omega) (by omega), LfC_congr W Lc fun a ha => y2 a (by omega) (by omega), HdC_congr (y2 45 (by omega) (by omega)) Hh, ?_, ?_, ?_, ?_, fun s hs => ?_, ?_, ?_, Or.inr ⟨y3, sum, k, os, ob, y4, y5, y6⟩, y7⟩, y9⟩
    · rw [y2 57 (by omega) (by omega)]; exact h4
    · rw [y2 57 (by omega) (by omega)]; exact h5
    · rw [y2 57 (by omega) (by omega)]; exact h6
    · rw [y2 57 (by omega) (by omega)]; exact h7
    · rw [y2 _ (by omega) (by omega)]; exact h8 s hs
    · rw [y2 57 (by omega) (by omega)]; exact h9
    · rw [y2 57 (by omega) (by omega)]; exact h10
  · exact ⟨σ, tg, c, t, sum, k, os, ob, kc_renew1 h11, fun _ _ _ => rfl, h11, p1, p2, p3, ⟨C, Lc, Hh, h4, h5, h6, h7, h8, h9, h10, Or.inr ⟨h11, sum, k, os, ob, p1, p2, p3⟩, h12⟩, Or.inl ⟨rfl, rfl, rfl⟩⟩
theorem MN_FrP {τ : dSg} (h : FrP σ τ) (H : MN P A T w e n j σ) : MN P A T w e n j τ := by
  obtain ⟨h1, h3, h4, h5, ⟨l, l1, l2⟩, h6, h7, h8⟩ := H
  refine ⟨ShM_congr h1 (fun a a1 a2 => h.1 a (by omega)) (h.2 10 (by decide) (by decide)), ?_, ?_, ?_, ⟨l, PhM_congr (fun a a1 a2 => h.1 a (by omega)) (h.2 34 (by decide) (by decide)) (h.2 35 (by decide) (by decide)) l1, l2⟩, fun s hs => ?_, ?_, ?_⟩
  · unfold ArM; rw [h.2 11 (by decide) (by decide), h.2 12 (by decide) (by decide), h.2 13 (by decide) (by decide)]; exact h3
  · rw [h.2 23 (by decide) (by decide)]; exact h4
  · rw [h.2 36 (by decide) (by decide)]; exact h5
  · rw [h.1 294 (by omega)]; exact h6 s hs
  · rw [h.2 14 (by decide) (by decide)]; exact h7
  · rw [h.2 15 (by decide) (by decide)]; exact h8
theorem mq_plans (W : Wf P) (H : MN P A T w e n j σ) : ∃ τ sum k os ob, dX tb (d + 7) 114 0 [.ref 270, .null, .null, .null, .null, .null, .null, .null, .null, .null, .null] [] (c, t, hp g (SH fl tg) σ) = some (some (.int (bI sum.isSome)), (c, t, hp g (SH fl tg) τ)) ∧ FrP σ τ ∧ IsPl P A sum k os ob ∧ (sum.isSome = true → τ 270 22 = encM sum ∧ τ 270 21 = Int32.ofNat k ∧ OrM P A os ob k τ) ∧ k ≤ 8 ∧ bnd 0 sum := by
  by_cases h : shrt P
  · exact ⟨σ, none, 0, fun _ => 0, fun _ => 0, km_plansN H.1 W h, FrP_refl σ, Or.inl ⟨h, rfl, rfl⟩, fun z => (by cases z), (by omega), fun w hw => (by cases hw)⟩
  · obtain ⟨sum, k, os, ob, τ, y1, y2, y3, y4, y5, y6, y7, y8⟩ := km_plans (tb := tb) (d := d) (c := c) (t := t) (g := g) (fl := fl) (tg := tg) H.1 W H.2.1 h
    exact ⟨τ, sum, k, os, ob, y1, y2, Or.inr ⟨h, y3⟩, fun _ => ⟨y4, y5, y7⟩, y6, y8⟩
theorem IsPl_none {sum : Option Nat} {k : Nat} {os ob : Nat → Nat} (h : IsPl P A sum k os ob) (hs : sum.isSome = false) : sum = none ∧ k = 0 := by
  cases sum with
  | some x => cases hs
  | none =>
    rcases h with h | ⟨-, R, -, -, h, -⟩
    · exact ⟨rfl, h.2.2⟩
    · exact ⟨rfl, h rfl⟩
theorem kq_plan (W : Wf P) (hx : A.1 ≤ 500) (hy : A.2.1 ≤ 500) (hc : 296 ≤ c) (H : CN P A T w e n j fl tg c σ) : ∃ τ tg' c' t' sum k os ob, dX tb (d + 6) 76 0 [.ref 0] [] (c, t, hp g (SH fl tg) σ) = some (some (.int (encM sum)), (c', t', hp g (SH fl tg') τ)) ∧ (∀ a, 57 ≤ a → a < 296 → τ a = σ a) ∧ IsPl P A sum k os ob ∧ CN P A T w e n j fl tg' c' τ ∧ Cnt c t tg c' t' tg' := by
  obtain ⟨τ, tg', c', t', sum, k, os, ob, y1, y2, y3, y4, y5, y6, y7, y8⟩ := kq_renew (tb := tb) (d := d) (t := t) (g := g) W hx hy hc H
  refine ⟨τ, tg', c', t', sum, k, os, ob, ?_, fun a h1 h2 => y2 a (by omega) h2, y4, y7, y8⟩
  rw [sg_X6_plan_0]
  simp (disch := omega) only [bq_s, aq_I, aq_R, aq_V, cq_t, cq_f, if_true, if_false, Bool.true_and, Bool.and_true, Bool.or_true, Bool.true_or, gi_1_3, gi_s, pi_1_3, pi_s, gr_0_0, gr_0_1, gr_0_2, gr_0_3, gr_1_0, gr_1_1, gr_1_2, gr_s_7, gr_s_8, gr_s_9, gr_s_10, ld_3, ld_4, ld_x, ld_y, ld_u, ld_v, sv_3, sv_4, sv_x, sv_y, sv_u, sv_v, is_0, is_1, is_s, lr_2, gi_45_0, gi_45_1, gi_45_2, gi_45_3, gi_47_0, gi_47_1, gi_47_2, gi_47_3, gi_46_8, gi_46_9, gi_46_10, gi_46_15, gi_46_16, pi_45_0, pi_45_1, pi_45_2, pi_45_3, pi_47_0, pi_47_1, pi_47_2, pi_47_3, pi_46_8, pi_46_9, pi_46_10, pi_46_15, pi_46_16, gr_46_0, gr_46_1, gr_46_2, gr_46_3, gr_46_4, gr_46_5, gr_46_6, gr_46_7, gr_46_11, gr_46_12, gr_46_13, gr_46_14, ld_50, ld_51, ld_52, ld_53, ld_54, ld_55, ld_56, ld_t, ld_b, sv_50, sv_51, sv_52, sv_53, sv_54, sv_55, sv_56, sv_t, sv_b, is_45, is_47, is_46, y1, y5.1]
theorem mq_plan (W : Wf P) (H : MN P A T w e n j σ) : ∃ τ sum k os ob, dX tb (d + 8) 115 0 [.ref 270] [] (c, t, hp g (SH fl tg) σ) = some (some (.int (encM sum)), (c, t, hp g (SH fl tg) τ)) ∧ (∀ a, a < 270 ∨ 295 ≤ a → τ a = σ a) ∧ IsPl P A sum k os ob ∧ MN P A T w e n j τ := by
  have H0 : MN P A T w e n j (up2 σ 270 0 0) := MN_congr (fun a a1 _ => up2_row _ _ (by omega)) (fun k hk => up2_n _ _ (by omega)) H
  have h23 := H.2.2.1
  obtain ⟨τ, sum, k, os, ob, y1, y2, y3, y4, y5, y6⟩ := mq_plans (tb := tb) (d := d) (c := c) (t := t) (g := g) (fl := fl) (tg := tg) W H0
  refine ⟨τ, sum, k, os, ob, ?_, fun a ha => by rw [y2.1 a (by omega), up2_row _ _ (by omega)], y3, MN_FrP y2 H0⟩
  rw [sg_X7_plan_0]
  simp (disch := omega) only [bq_s, aq_I, aq_R, aq_V, cq_t, cq_f, if_true, if_false, Bool.true_and, Bool.and_true, Bool.or_true, Bool.true_or, gi_270_0, gi_270_10, gi_270_11, gi_270_12, gi_270_13, gi_270_14, gi_270_15, gi_270_21, gi_270_22, gi_270_23, gi_270_34, gi_270_35, gi_270_36, pi_270_0, pi_270_10, pi_270_11, pi_270_12, pi_270_13, pi_270_14, pi_270_15, pi_270_21, pi_270_22, pi_270_23, pi_270_34, pi_270_35, pi_270_36, gr_270_1, gr_270_2, gr_270_3, gr_270_4, gr_270_5, gr_270_6, gr_270_7, gr_270_8, gr_270_9, gr_270_16, gr_270_17, gr_270_18, gr_270_19, gr_270_20, gr_270_24, gr_270_25, gr_270_26, gr_270_27, gr_270_28, gr_270_29, gr_270_30, gr_270_31, gr_270_32, gr_270_33, ld_271, ld_272, ld_273, ld_274, ld_275, ld_276, ld_277, ld_278, ld_279, ld_280, ld_281, ld_282, ld_283, ld_284, ld_285, ld_286, ld_287, ld_288, ld_289, ld_290, ld_291, ld_292, ld_293, ld_294, sv_271, sv_272, sv_273, sv_274, sv_275, sv_276, sv_277, sv_278, sv_279, sv_280, sv_281, sv_282, sv_283, sv_284, sv_285, sv_286, sv_287, sv_288, sv_289, sv_290, sv_291, sv_292, sv_293, sv_294, is_270, ia_0, ia_1, is_m0, is_m1, im_8, ml_8, im_11, ml_11, im_12, ml_12, im_88, ml_88, im_89, ml_89, j_lt_0, j_gt_0, j_le_0, j_ge_0, j_eq_0, j_lt_1, j_gt_1, j_le_1, j_ge_1, j_eq_1, j_lt_2, j_gt_2, j_le_2, j_ge_2, j_eq_2, j_lt_3, j_gt_3, j_le_3, j_ge_3, j_eq_3, j_lt_4, j_gt_4, j_le_4, j_ge_4, j_eq_4, j_lt_5, j_gt_5, j_le_5, j_ge_5, j_eq_5, j_lt_6, j_gt_6, j_le_6, j_ge_6, j_eq_6, j_lt_8, j_gt_8, j_le_8, j_ge_8, j_eq_8, j_lt_12, j_gt_12, j_le_12, j_ge_12, j_eq_12, j_lt_209, j_gt_209, j_le_209, j_ge_209, j_eq_209, j_lt_255, j_gt_255, j_le_255, j_ge_255, j_eq_255, j_lt_1000000000, j_gt_1000000000, j_le_1000000000, j_ge_1000000000, j_eq_1000000000, up2_n, h23, y1, bI_0]
  cases q : sum.isSome
  · rw [if_pos rfl, (IsPl_none y3 q).1]; rfl
  · rw [if_neg (by decide), (y4 q).1]
theorem sw4 {β : Type} (y : Int32) {a b c' d' : Int} {D : Option β} {G : Int → Option β} : (if y.toInt < 0 ∨ 3 < y.toInt then D else (#[a, b, c', d'][(y.toInt - 0).toNat]?).bind G) = if y = 0 then G a else if y = 1 then G b else if y = 2 then G c' else if y = 3 then G d' else D := by
  by_cases h0 : y = 0
  · subst h0; rfl
  · by_cases h1 : y = 1
    · subst h1; rfl
    · by_cases h2 : y = 2
      · subst h2; rfl
      · by_cases h3 : y = 3
        · subst h3; rfl
        · rw [if_neg h0, if_neg h1, if_neg h2, if_neg h3, if_pos]
          have f : ∀ z : Int32, y ≠ z → y.toInt ≠ z.toInt := fun z hz q => hz (Int32.toInt_inj.mp q)
          have f0 := f 0 h0
          have f1 := f 1 h1
          have f2 := f 2 h2
          have f3 := f 3 h3
          have e0 : (0 : Int32).toInt = 0 := rfl
          have e1 : (1 : Int32).toInt = 1 := rfl
          have e2 : (2 : Int32).toInt = 2 := rfl
          have e3 : (3 : Int32).toInt = 3 := rfl
          omega
def ansPd (P : dP) (A : dA) (k : Nat) (os ob : Nat → Nat) (x y : Int32) : Int32 := bif inR k x then (if y = 0 then Int32.ofNat (os (tN x)) else if y = 1 then Int32.ofNat (ob (tN x)) else if y = 2 then Int32.ofNat (tkN P (os (tN x)) (ob (tN x))) else if y = 3 then Int32.ofNat (tbF P A (pF os ob (tN x)) (os (tN x)) (ob (tN x))) else -1) else -1
theorem kq_planned (W : Wf P) (hx : A.1 ≤ 500) (hy : A.2.1 ≤ 500) (hc : 296 ≤ c) (H : CN P A T w e n j fl tg c σ) (x y : Int32) : ∃ τ tg' c' t' sum k os ob, dX tb (d + 6) 77 0 [.ref 0, .int x, .int y] [] (c, t, hp g (SH fl tg) σ) = some (some (.int (ansPd P A k os ob x y)), (c', t', hp g (SH fl tg') τ)) ∧ (∀ a, 57 ≤ a → a < 296 → τ a = σ a) ∧ IsPl P A sum k os ob ∧ k ≤ 8 ∧ CN P A T w e n j fl tg' c' τ ∧ Cnt c t tg c' t' tg' := by
  obtain ⟨τ, tg', c', t', sum, k, os, ob, y1, y2, y3, y4, y5, y6, y7, y8⟩ := kq_renew (tb := tb) (d := d) (t := t) (g := g) W hx hy hc H
  refine ⟨τ, tg', c', t', sum, k, os, ob, ?_, fun a h1 h2 => y2 a (by omega) h2, y4, y5.2.2.1, y7, y8⟩
  obtain ⟨p1, p2, p3, p4⟩ := y5
  rw [sg_X6_planned_0]
  simp (disch := omega) only [bq_s, aq_I, aq_R, aq_V, cq_t, cq_f, if_true, if_false, Bool.true_and, Bool.and_true, Bool.or_true, Bool.true_or, gi_1_3, gi_s, pi_1_3, pi_s, gr_0_0, gr_0_1, gr_0_2, gr_0_3, gr_1_0, gr_1_1, gr_1_2, gr_s_7, gr_s_8, gr_s_9, gr_s_10, ld_3, ld_4, ld_x, ld_y, ld_u, ld_v, sv_3, sv_4, sv_x, sv_y, sv_u, sv_v, is_0, is_1, is_s, lr_2, gi_45_0, gi_45_1, gi_45_2, gi_45_3, gi_47_0, gi_47_1, gi_47_2, gi_47_3, gi_46_8, gi_46_9, gi_46_10, gi_46_15, gi_46_16, pi_45_0, pi_45_1, pi_45_2, pi_45_3, pi_47_0, pi_47_1, pi_47_2, pi_47_3, pi_46_8, pi_46_9, pi_46_10, pi_46_15, pi_46_16, gr_46_0, gr_46_1, gr_46_2, gr_46_3, gr_46_4, gr_46_5, gr_46_6, gr_46_7, gr_46_11, gr_46_12, gr_46_13, gr_46_14, ld_50, ld_51, ld_52, ld_53, ld_54, ld_55, ld_56, ld_t, ld_b, sv_50, sv_51, sv_52, sv_53, sv_54, sv_55, sv_56, sv_t, sv_b, is_45, is_47, is_46, y1, p2, kw_m]
  unfold ansPd
  cases q : inR k x
  · rw [if_pos (by decide)]; rfl
  · rw [if_neg (by decide), sw4]
    obtain ⟨s, hs, rfl, es⟩ := inR_ex (by omega) q
    rw [es, cond_true]
    obtain ⟨o1, o2, o3, o4⟩ := p4 s hs
    by_cases h0 : y = 0
    · rw [if_pos h0, if_pos h0]
      show dX tb (d + 6) 77 56 _ _ _ = _
      rw [sg_X6_planned_56]; simp (disch := omega) only [bq_s, aq_I, aq_R, aq_V, cq_t, cq_f, if_true, if_false, Bool.true_and, Bool.and_true, Bool.or_true, Bool.true_or, gi_1_3, gi_s, pi_1_3, pi_s, gr_0_0, gr_0_1, gr_0_2, gr_0_3, gr_1_0, gr_1_1, gr_1_2, gr_s_7, gr_s_8, gr_s_9, gr_s_10, ld_3, ld_4, ld_x, ld_y, ld_u, ld_v, sv_3, sv_4, sv_x, sv_y, sv_u, sv_v, is_0, is_1, is_s, lr_2, gi_45_0, gi_45_1, gi_45_2, gi_45_3, gi_47_0, gi_47_1, gi_47_2, gi_47_3, gi_46_8, gi_46_9, gi_46_10, gi_46_15, gi_46_16, pi_45_0, pi_45_1, pi_45_2, pi_45_3, pi_47_0, pi_47_1, pi_47_2, pi_47_3, pi_46_8, pi_46_9, pi_46_10, pi_46_15, pi_46_16, gr_46_0, gr_46_1, gr_46_2, gr_46_3, gr_46_4, gr_46_5, gr_46_6, gr_46_7, gr_46_11, gr_46_12, gr_46_13, gr_46_14, ld_50, ld_51, ld_52, ld_53, ld_54, ld_55, ld_56, ld_t, ld_b, sv_50, sv_51, sv_52, sv_53, sv_54, sv_55, sv_56, sv_t, sv_b, is_45, is_47, is_46, o1]
    · rw [if_neg h0, if_neg h0]
      by_cases h1 : y = 1
      · rw [if_pos h1, if_pos h1]
        show dX tb (d + 6) 77 66 _ _ _ = _
        rw [sg_X6_planned_66]; simp (disch := omega) only [bq_s, aq_I, aq_R, aq_V, cq_t, cq_f, if_true, if_false, Bool.true_and, Bool.and_true, Bool.or_true, Bool.true_or, gi_1_3, gi_s, pi_1_3, pi_s, gr_0_0, gr_0_1, gr_0_2, gr_0_3, gr_1_0, gr_1_1, gr_1_2, gr_s_7, gr_s_8, gr_s_9, gr_s_10, ld_3, ld_4, ld_x, ld_y, ld_u, ld_v, sv_3, sv_4, sv_x, sv_y, sv_u, sv_v, is_0, is_1, is_s, lr_2, gi_45_0, gi_45_1, gi_45_2, gi_45_3, gi_47_0, gi_47_1, gi_47_2, gi_47_3, gi_46_8, gi_46_9, gi_46_10, gi_46_15, gi_46_16, pi_45_0, pi_45_1, pi_45_2, pi_45_3, pi_47_0, pi_47_1, pi_47_2, pi_47_3, pi_46_8, pi_46_9, pi_46_10, pi_46_15, pi_46_16, gr_46_0, gr_46_1, gr_46_2, gr_46_3, gr_46_4, gr_46_5, gr_46_6, gr_46_7, gr_46_11, gr_46_12, gr_46_13, gr_46_14, ld_50, ld_51, ld_52, ld_53, ld_54, ld_55, ld_56, ld_t, ld_b, sv_50, sv_51, sv_52, sv_53, sv_54, sv_55, sv_56, sv_t, sv_b, is_45, is_47, is_46, o2]
      · rw [if_neg h1, if_neg h1]
        by_cases h2 : y = 2
        · rw [if_pos h2, if_pos h2]
          show dX tb (d + 6) 77 76 _ _ _ = _
          rw [sg_X6_planned_76]; simp (disch := omega) only [bq_s, aq_I, aq_R, aq_V, cq_t, cq_f, if_true, if_false, Bool.true_and, Bool.and_true, Bool.or_true, Bool.true_or, gi_1_3, gi_s, pi_1_3, pi_s, gr_0_0, gr_0_1, gr_0_2, gr_0_3, gr_1_0, gr_1_1, gr_1_2, gr_s_7, gr_s_8, gr_s_9, gr_s_10, ld_3, ld_4, ld_x, ld_y, ld_u, ld_v, sv_3, sv_4, sv_x, sv_y, sv_u, sv_v, is_0, is_1, is_s, lr_2, gi_45_0, gi_45_1, gi_45_2, gi_45_3, gi_47_0, gi_47_1, gi_47_2, gi_47_3, gi_46_8, gi_46_9, gi_46_10, gi_46_15, gi_46_16, pi_45_0, pi_45_1, pi_45_2, pi_45_3, pi_47_0, pi_47_1, pi_47_2, pi_47_3, pi_46_8, pi_46_9, pi_46_10, pi_46_15, pi_46_16, gr_46_0, gr_46_1, gr_46_2, gr_46_3, gr_46_4, gr_46_5, gr_46_6, gr_46_7, gr_46_11, gr_46_12, gr_46_13, gr_46_14, ld_50, ld_51, ld_52, ld_53, ld_54, ld_55, ld_56, ld_t, ld_b, sv_50, sv_51, sv_52, sv_53, sv_54, sv_55, sv_56, sv_t, sv_b, is_45, is_47, is_46, o3]
        · rw [if_neg h2, if_neg h2]
          by_cases h3 : y = 3
          · rw [if_pos h3, if_pos h3]
            show dX tb (d + 6) 77 86 _ _ _ = _
            rw [sg_X6_planned_86]; simp (disch := omega) only [bq_s, aq_I, aq_R, aq_V, cq_t, cq_f, if_true, if_false, Bool.true_and, Bool.and_true, Bool.or_true, Bool.true_or, gi_1_3, gi_s, pi_1_3, pi_s, gr_0_0, gr_0_1, gr_0_2, gr_0_3, gr_1_0, gr_1_1, gr_1_2, gr_s_7, gr_s_8, gr_s_9, gr_s_10, ld_3, ld_4, ld_x, ld_y, ld_u, ld_v, sv_3, sv_4, sv_x, sv_y, sv_u, sv_v, is_0, is_1, is_s, lr_2, gi_45_0, gi_45_1, gi_45_2, gi_45_3, gi_47_0, gi_47_1, gi_47_2, gi_47_3, gi_46_8, gi_46_9, gi_46_10, gi_46_15, gi_46_16, pi_45_0, pi_45_1, pi_45_2, pi_45_3, pi_47_0, pi_47_1, pi_47_2, pi_47_3, pi_46_8, pi_46_9, pi_46_10, pi_46_15, pi_46_16, gr_46_0, gr_46_1, gr_46_2, gr_46_3, gr_46_4, gr_46_5, gr_46_6, gr_46_7, gr_46_11, gr_46_12, gr_46_13, gr_46_14, ld_50, ld_51, ld_52, ld_53, ld_54, ld_55, ld_56, ld_t, ld_b, sv_50, sv_51, sv_52, sv_53, sv_54, sv_55, sv_56, sv_t, sv_b, is_45, is_47, is_46, o4]
          · rw [if_neg h3, if_neg h3, sg_X6_planned_96]
theorem mq_pdT {k : Nat} {os ob : Nat → Nat} (hk : k ≤ 8) (h21 : σ 270 21 = Int32.ofNat k) (hO : OrM P A os ob k σ) (x y : Int32) : (if x < 0 then (some (some (.int (-1)), (c, t, hp g (SH fl tg) σ))) else ((dm_getI (c, t, hp g (SH fl tg) σ) 270 7 21).bind fun x3 => if x < x3 then (if y.toInt < 0 ∨ 3 < y.toInt then (dX tb (d + 1) 116 92 [.ref 270, .int x, .int y] [] (c, t, hp g (SH fl tg) σ)) else (#[30, 37, 44, 51][(y.toInt - 0).toNat]?).bind fun o => (dm_to 34 o).bind fun t' => dX tb (d + 1) 116 t' [.ref 270, .int x, .int y] [] (c, t, hp g (SH fl tg) σ)) else (some (some (.int (-1)), (c, t, hp g (SH fl tg) σ))))) = some (some (.int (ansPd P A k os ob x y)), (c, t, hp g (SH fl tg) σ)) := by
  rw [gi_270_21, bq_s, h21, sw4]
  unfold ansPd
  cases q : inR k x
  · rw [cond_false]
    unfold inR at q
    by_cases q1 : 0 ≤ x
    · rw [if_neg (Int32.not_lt.mpr q1)]
      rw [decide_eq_true q1, Bool.true_and, decide_eq_false_iff_not] at q
      rw [if_neg q]
    · rw [if_pos (Int32.not_le.mp q1)]
  · have q' := q
    unfold inR at q'
    rw [Bool.and_eq_true, decide_eq_true_eq, decide_eq_true_eq] at q'
    rw [if_neg (Int32.not_lt.mpr q'.1), if_pos q'.2, cond_true]
    obtain ⟨s, hs, rfl, es⟩ := inR_ex (by omega) q
    rw [es]
    obtain ⟨o1, o2, o3, o4⟩ := hO s hs
    by_cases h0 : y = 0
    · rw [if_pos h0, if_pos h0]
      show dX tb (d + 1) 116 64 _ _ _ = _
      rw [sg_X7_planned_64]; simp (disch := omega) only [bq_s, aq_I, aq_R, aq_V, cq_t, cq_f, if_true, if_false, Bool.true_and, Bool.and_true, Bool.or_true, Bool.true_or, gi_270_0, gi_270_10, gi_270_11, gi_270_12, gi_270_13, gi_270_14, gi_270_15, gi_270_21, gi_270_22, gi_270_23, gi_270_34, gi_270_35, gi_270_36, pi_270_0, pi_270_10, pi_270_11, pi_270_12, pi_270_13, pi_270_14, pi_270_15, pi_270_21, pi_270_22, pi_270_23, pi_270_34, pi_270_35, pi_270_36, gr_270_1, gr_270_2, gr_270_3, gr_270_4, gr_270_5, gr_270_6, gr_270_7, gr_270_8, gr_270_9, gr_270_16, gr_270_17, gr_270_18, gr_270_19, gr_270_20, gr_270_24, gr_270_25, gr_270_26, gr_270_27, gr_270_28, gr_270_29, gr_270_30, gr_270_31, gr_270_32, gr_270_33, ld_271, ld_272, ld_273, ld_274, ld_275, ld_276, ld_277, ld_278, ld_279, ld_280, ld_281, ld_282, ld_283, ld_284, ld_285, ld_286, ld_287, ld_288, ld_289, ld_290, ld_291, ld_292, ld_293, ld_294, sv_271, sv_272, sv_273, sv_274, sv_275, sv_276, sv_277, sv_278, sv_279, sv_280, sv_281, sv_282, sv_283, sv_284, sv_285, sv_286, sv_287, sv_288, sv_289, sv_290, sv_291, sv_292, sv_293, sv_294, is_270, o1]
    · rw [if_neg h0, if_neg h0]
      by_cases h1 : y = 1
      · rw [if_pos h1, if_pos h1]
        show dX tb (d + 1) 116 71 _ _ _ = _
        rw [sg_X7_planned_71]; simp (disch := omega) only [bq_s, aq_I, aq_R, aq_V, cq_t, cq_f, if_true, if_false, Bool.true_and, Bool.and_true, Bool.or_true, Bool.true_or, gi_270_0, gi_270_10, gi_270_11, gi_270_12, gi_270_13, gi_270_14, gi_270_15, gi_270_21, gi_270_22, gi_270_23, gi_270_34, gi_270_35, gi_270_36, pi_270_0, pi_270_10, pi_270_11, pi_270_12, pi_270_13, pi_270_14, pi_270_15, pi_270_21, pi_270_22, pi_270_23, pi_270_34, pi_270_35, pi_270_36, gr_270_1, gr_270_2, gr_270_3, gr_270_4, gr_270_5, gr_270_6, gr_270_7, gr_270_8, gr_270_9, gr_270_16, gr_270_17, gr_270_18, gr_270_19, gr_270_20, gr_270_24, gr_270_25, gr_270_26, gr_270_27, gr_270_28, gr_270_29, gr_270_30, gr_270_31, gr_270_32, gr_270_33, ld_271, ld_272, ld_273, ld_274, ld_275, ld_276, ld_277, ld_278, ld_279, ld_280, ld_281, ld_282, ld_283, ld_284, ld_285, ld_286, ld_287, ld_288, ld_289, ld_290, ld_291, ld_292, ld_293, ld_294, sv_271, sv_272, sv_273, sv_274, sv_275, sv_276, sv_277, sv_278, sv_279, sv_280, sv_281, sv_282, sv_283, sv_284, sv_285, sv_286, sv_287, sv_288, sv_289, sv_290, sv_291, sv_292, sv_293, sv_294, is_270, o2]
      · rw [if_neg h1, if_neg h1]
        by_cases h2 : y = 2
        · rw [if_pos h2, if_pos h2]
          show dX tb (d + 1) 116 78 _ _ _ = _
          rw [sg_X7_planned_78]; simp (disch := omega) only [bq_s, aq_I, aq_R, aq_V, cq_t, cq_f, if_true, if_false, Bool.true_and, Bool.and_true, Bool.or_true, Bool.true_or, gi_270_0, gi_270_10, gi_270_11, gi_270_12, gi_270_13, gi_270_14, gi_270_15, gi_270_21, gi_270_22, gi_270_23, gi_270_34, gi_270_35, gi_270_36, pi_270_0, pi_270_10, pi_270_11, pi_270_12, pi_270_13, pi_270_14, pi_270_15, pi_270_21, pi_270_22, pi_270_23, pi_270_34, pi_270_35, pi_270_36, gr_270_1, gr_270_2, gr_270_3, gr_270_4, gr_270_5, gr_270_6, gr_270_7, gr_270_8, gr_270_9, gr_270_16, gr_270_17, gr_270_18, gr_270_19, gr_270_20, gr_270_24, gr_270_25, gr_270_26, gr_270_27, gr_270_28, gr_270_29, gr_270_30, gr_270_31, gr_270_32, gr_270_33, ld_271, ld_272, ld_273, ld_274, ld_275, ld_276, ld_277, ld_278, ld_279, ld_280, ld_281, ld_282, ld_283, ld_284, ld_285, ld_286, ld_287, ld_288, ld_289, ld_290, ld_291, ld_292, ld_293, ld_294, sv_271, sv_272, sv_273, sv_274, sv_275, sv_276, sv_277, sv_278, sv_279, sv_280, sv_281, sv_282, sv_283, sv_284, sv_285, sv_286, sv_287, sv_288, sv_289, sv_290, sv_291, sv_292, sv_293, sv_294, is_270, o3]
        · rw [if_neg h2, if_neg h2]
          by_cases h3 : y = 3
          · rw [if_pos h3, if_pos h3]
            show dX tb (d + 1) 116 85 _ _ _ = _
            rw [sg_X7_planned_85]; simp (disch := omega) only [bq_s, aq_I, aq_R, aq_V, cq_t, cq_f, if_true, if_false, Bool.true_and, Bool.and_true, Bool.or_true, Bool.true_or, gi_270_0, gi_270_10, gi_270_11, gi_270_12, gi_270_13, gi_270_14, gi_270_15, gi_270_21, gi_270_22, gi_270_23, gi_270_34, gi_270_35, gi_270_36, pi_270_0, pi_270_10, pi_270_11, pi_270_12, pi_270_13, pi_270_14, pi_270_15, pi_270_21, pi_270_22, pi_270_23, pi_270_34, pi_270_35, pi_270_36, gr_270_1, gr_270_2, gr_270_3, gr_270_4, gr_270_5, gr_270_6, gr_270_7, gr_270_8, gr_270_9, gr_270_16, gr_270_17, gr_270_18, gr_270_19, gr_270_20, gr_270_24, gr_270_25, gr_270_26, gr_270_27, gr_270_28, gr_270_29, gr_270_30, gr_270_31, gr_270_32, gr_270_33, ld_271, ld_272, ld_273, ld_274, ld_275, ld_276, ld_277, ld_278, ld_279, ld_280, ld_281, ld_282, ld_283, ld_284, ld_285, ld_286, ld_287, ld_288, ld_289, ld_290, ld_291, ld_292, ld_293, ld_294, sv_271, sv_272, sv_273, sv_274, sv_275, sv_276, sv_277, sv_278, sv_279, sv_280, sv_281, sv_282, sv_283, sv_284, sv_285, sv_286, sv_287, sv_288, sv_289, sv_290, sv_291, sv_292, sv_293, sv_294, is_270, o4]
          · rw [if_neg h3, if_neg h3, sg_X7_planned_92]
theorem mq_planned (W : Wf P) (H : MN P A T w e n j σ) (x y : Int32) : ∃ τ sum k os ob, dX tb (d + 8) 116 0 [.ref 270, .int x, .int y] [] (c, t, hp g (SH fl tg) σ) = some (some (.int (ansPd P A k os ob x y)), (c, t, hp g (SH fl tg) τ)) ∧ (∀ a, a < 270 ∨ 295 ≤ a → τ a = σ a) ∧ IsPl P A sum k os ob ∧ MN P A T w e n j τ := by
  have H0 : MN P A T w e n j (up2 σ 270 0 0) := MN_congr (fun a a1 _ => up2_row _ _ (by omega)) (fun k hk => up2_n _ _ (by omega)) H
  have h23 := H.2.2.1
  obtain ⟨τ, sum, k, os, ob, y1, y2, y3, y4, y5, y6⟩ := mq_plans (tb := tb) (d := d) (c := c) (t := t) (g := g) (fl := fl) (tg := tg) W H0
  refine ⟨τ, sum, k, os, ob, ?_, fun a ha => by rw [y2.1 a (by omega), up2_row _ _ (by omega)], y3, MN_FrP y2 H0⟩
  rw [sg_X7_planned_0, pi_270_0, bq_s, gi_270_23, bq_s, up2_n _ _ (by omega), h23, if_pos rfl, is_270, cq_t, y1, aq_I]
  cases q : sum.isSome
  · rw [if_pos (by decide), (IsPl_none y3 q).2]
    unfold ansPd
    have : inR 0 x = false := by
      cases z : inR 0 x
      · rfl
      · obtain ⟨s, hs, -⟩ := inR_ex (by omega) z; omega
    rw [this]; rfl
  · rw [if_neg (by decide)]
    exact mq_pdT (P := P) (A := A) y5 (y4 q).2.1 (y4 q).2.2 x y
end PLN
