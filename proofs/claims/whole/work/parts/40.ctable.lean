/-! THE CLASS'S PLAN, fifth part: the whole table -/
section CTB
variable {tb : dT} {d c t : Nat} {g : Nat → Option dE} {fl : Nat → Bool} {tg : Nat} {σ : dSg} {P : dP} {A : dA} {all set : Nat} {R : dTab}
theorem dn_all (h : set = all) (ha : all < 256) : set ||| nlm all = 255 := by
  subst h
  refine Nat.eq_of_testBit_eq fun q => ?_
  by_cases hq : q < 8
  · rw [dn_tb hq, show (255 : Nat) = 2 ^ 8 - 1 from rfl, Nat.testBit_two_pow_sub_one, decide_eq_true hq]
    cases set.testBit q <;> rfl
  · have h8 : 256 ≤ 2 ^ q := Nat.le_trans (by decide : 256 ≤ 2 ^ 8) (Nat.pow_le_pow_right (by decide) (by omega))
    rw [Nat.testBit_lt_two_pow (Nat.lt_of_lt_of_le (dn_lt ha ha) h8), Nat.testBit_lt_two_pow (by omega)]
theorem kc_tg67 (ht : 296 ≤ tg) (C0 : ShC P fl σ) (W : Wf P) (hall : ∀ s, all.testBit s = true → s < pM P ∧ 2 ≤ pN P s) (ha : all < 256) (hS : set < 256) (hsub : sub set all) (hin : inO P all set) (hx : A.1 ≤ 500) (hy : A.2.1 ≤ 500) {cc : Nat} {ch ct : Nat → Nat} (hR : ∀ s b, cand P all set s → b < bgn P s → bnd (set ||| 2 ^ s) (R (set ||| 2 ^ s) (11 * s + b))) (G : Gat P all R set 88 σ cc ch ct) (h8 : σ 46 8 = Int32.ofNat cc) (hB : SlI P A all tg σ 88) {s : Nat} (hst : set.testBit s = true) : ∀ q b (τ : dSg) (R2 : dTab) (l6 : Value), b + q = bgn P s → (∀ a, a ≠ tg → τ a = σ a) → (∀ x y, x ≠ set → R2 x y = R x y) → InvC P A all R2 τ tg (set ||| nlm all) set (11 * s + b) → ∃ τ' R' l6', dX tb (d + 1) 20 67 [.ref 46, .int (Int32.ofNat (set ||| nlm all)), .int (bI (decide (set = all))), .int (Int32.ofNat s), .int (Int32.ofNat (bgn P s)), .int (Int32.ofNat b), l6] [] (c, t, hp g (SH fl tg) τ) = dX tb (d + 1) 20 20 [.ref 46, .int (Int32.ofNat (set ||| nlm all)), .int (bI (decide (set = all))), .int (Int32.ofNat (s + 1)), .int (Int32.ofNat (bgn P s)), .int (Int32.ofNat (bgn P s)), l6'] [] (c, t, hp g (SH fl tg) (τ')) ∧ (∀ a, a ≠ tg → τ' a = σ a) ∧ (∀ x y, x ≠ set → R' x y = R x y) ∧ InvC P A all R' τ' tg (set ||| nlm all) set (11 * (s + 1)) := by
  have hm := W.1
  have hdn := dn_lt hS ha
  obtain ⟨hs, h2⟩ := hall s (hsub s hst)
  have h11 := bgn_11 W hs
  intro q
  induction q with
  | zero =>
    intro b τ R2 l6 hb hF hRe hI
    have h1 : bgn P s ≤ b := by omega
    refine ⟨τ, R2, l6, ?_, hF, hRe, fun set' s' b' a1 a2 a3 a4 a5 a6 => hI set' s' b' ?_ a2 a3 a4 a5 a6⟩
    · rw [sg_X2_tellToGoFrom_67]
      simp (disch := omega) only [Option.bind_some, as_I, as_R, as_V, ct_t, ct_f, if_true, if_false, Bool.true_and, Bool.and_true, Bool.or_true, Bool.true_or, ia_0, ia_1, is_m0, is_m1, im_8, ml_8, im_11, ml_11, im_12, ml_12, im_88, ml_88, im_89, ml_89, j_lt_0, j_gt_0, j_le_0, j_ge_0, j_eq_0, j_lt_1, j_gt_1, j_le_1, j_ge_1, j_eq_1, j_lt_2, j_gt_2, j_le_2, j_ge_2, j_eq_2, j_lt_3, j_gt_3, j_le_3, j_ge_3, j_eq_3, j_lt_4, j_gt_4, j_le_4, j_ge_4, j_eq_4, j_lt_5, j_gt_5, j_le_5, j_ge_5, j_eq_5, j_lt_6, j_gt_6, j_le_6, j_ge_6, j_eq_6, j_lt_8, j_gt_8, j_le_8, j_ge_8, j_eq_8, j_lt_12, j_gt_12, j_le_12, j_ge_12, j_eq_12, j_lt_209, j_gt_209, j_le_209, j_ge_209, j_eq_209, j_lt_255, j_gt_255, j_le_255, j_ge_255, j_eq_255, j_lt_1000000000, j_gt_1000000000, j_le_1000000000, j_ge_1000000000, j_eq_1000000000, i_le, h1]
      rw [show b = bgn P s by omega]
    · rcases a1 with a1 | ⟨rfl, a1⟩
      · exact Or.inl a1
      · have := bgn_11 W (hall s' (a3 s' a5)).1
        refine Or.inr ⟨rfl, ?_⟩
        by_cases e : s' = s
        · subst e; omega
        · omega
  | succ q ih =>
    intro b τ R2 l6 hb hF hRe hI
    have h1 : ¬ bgn P s ≤ b := by omega
    have hb1 : b < bgn P s := by omega
    have C : ShC P fl τ := ShC_congr W C0 fun a ha => hF a (by omega)
    have fin : ∀ (v : Option Nat) (l6 : Value), IsB P A all R set (11 * s + b) v → bnd set v → ∃ τ' R' l6', dX tb (d + 1) 20 67 [.ref 46, .int (Int32.ofNat (set ||| nlm all)), .int (bI (decide (set = all))), .int (Int32.ofNat s), .int (Int32.ofNat (bgn P s)), .int (Int32.ofNat (b + 1)), l6] [] (c, t, hp g (SH fl tg) (up2 τ tg ((set ||| nlm all) * 88 + (11 * s + b)) (encC v))) = dX tb (d + 1) 20 20 [.ref 46, .int (Int32.ofNat (set ||| nlm all)), .int (bI (decide (set = all))), .int (Int32.ofNat (s + 1)), .int (Int32.ofNat (bgn P s)), .int (Int32.ofNat (bgn P s)), l6'] [] (c, t, hp g (SH fl tg) (τ')) ∧ (∀ a, a ≠ tg → τ' a = σ a) ∧ (∀ x y, x ≠ set → R' x y = R x y) ∧ InvC P A all R' τ' tg (set ||| nlm all) set (11 * (s + 1)) := by
      intro v l6 v1 v2
      refine ih (b + 1) _ (fun x y => if x = set ∧ y = 11 * s + b then v else R2 x y) l6 (by omega) (fun a ha => by rw [up2_row _ _ ha]; exact hF a ha) (fun x y hx => (if_neg (by omega)).trans (hRe x y hx)) (InvC_put W hall hS hsub hst hb1 hI (IsB_congr v1 fun s2 b2 hc _ => (hRe _ _ (by have := or_gt hc.2.2.1; omega)).symm) v2)
    rw [sg_X2_tellToGoFrom_67]
    simp (disch := omega) only [Option.bind_some, as_I, as_R, as_V, ct_t, ct_f, if_true, if_false, Bool.true_and, Bool.and_true, Bool.or_true, Bool.true_or, gi_1_3, gi_s, pi_1_3, pi_s, gr_0_0, gr_0_1, gr_0_2, gr_0_3, gr_1_0, gr_1_1, gr_1_2, gr_s_7, gr_s_8, gr_s_9, gr_s_10, ld_3, ld_4, ld_x, ld_y, ld_u, ld_v, sv_3, sv_4, sv_x, sv_y, sv_u, sv_v, is_0, is_1, is_s, lr_2, gi_45_0, gi_45_1, gi_45_2, gi_45_3, gi_47_0, gi_47_1, gi_47_2, gi_47_3, gi_46_8, gi_46_9, gi_46_10, gi_46_15, gi_46_16, pi_45_0, pi_45_1, pi_45_2, pi_45_3, pi_47_0, pi_47_1, pi_47_2, pi_47_3, pi_46_8, pi_46_9, pi_46_10, pi_46_15, pi_46_16, gr_46_0, gr_46_1, gr_46_2, gr_46_3, gr_46_4, gr_46_5, gr_46_6, gr_46_7, gr_46_11, gr_46_12, gr_46_13, gr_46_14, ld_50, ld_51, ld_52, ld_53, ld_54, ld_55, ld_56, ld_t, ld_b, sv_50, sv_51, sv_52, sv_53, sv_54, sv_55, sv_56, sv_t, sv_b, is_45, is_47, is_46, ia_0, ia_1, is_m0, is_m1, im_8, ml_8, im_11, ml_11, im_12, ml_12, im_88, ml_88, im_89, ml_89, j_lt_0, j_gt_0, j_le_0, j_ge_0, j_eq_0, j_lt_1, j_gt_1, j_le_1, j_ge_1, j_eq_1, j_lt_2, j_gt_2, j_le_2, j_ge_2, j_eq_2, j_lt_3, j_gt_3, j_le_3, j_ge_3, j_eq_3, j_lt_4, j_gt_4, j_le_4, j_ge_4, j_eq_4, j_lt_5, j_gt_5, j_le_5, j_ge_5, j_eq_5, j_lt_6, j_gt_6, j_le_6, j_ge_6, j_eq_6, j_lt_8, j_gt_8, j_le_8, j_ge_8, j_eq_8, j_lt_12, j_gt_12, j_le_12, j_ge_12, j_eq_12, j_lt_209, j_gt_209, j_le_209, j_ge_209, j_eq_209, j_lt_255, j_gt_255, j_le_255, j_ge_255, j_eq_255, j_lt_1000000000, j_gt_1000000000, j_le_1000000000, j_ge_1000000000, j_eq_1000000000, lp_0, lp_1, lp_2, lp_3, lp_4, lq_0, lq_1, lq_2, lq_3, lq_4, lx_0, ly_0, i_le, h1, bI_0, i_mul, i_add]
    rw [show s * 11 + b = 11 * s + b by omega]
    by_cases hq : set = all
    · rw [decide_eq_true hq, if_neg (by decide)]
      have c2 := C.2.1 2 (by decide)
      rw [c2]
      have := fin (some (pPr P 2)) (.int (Int32.ofNat (11 * s + b))) ⟨fun _ => by rw [if_neg (by omega)], fun z => absurd hq z⟩ (fun w hw => by injection hw with hw; have := W.2.2.2.2.1; omega)
      rw [decide_eq_true hq] at this
      exact this
    · rw [decide_eq_false hq, if_pos rfl]
      have hBr := (hB.2 s b (hsub s hst) hb1 (by omega)).2
      have G' : Gat P all R set 88 τ cc ch ct := by
        unfold Gat
        rw [hF 51 (by omega), hF 52 (by omega)]
        exact G
      have h8' : τ 46 8 = Int32.ofNat cc := by rw [hF 46 (by omega)]; exact h8
      rcases kc_pick (tb := tb) (d := d) (c := c) (t := t) (g := g) (fl := fl) (f := 11 * s + b) ht W hall hS (by omega) hx hy (frm_slot W hs hb1 h2) hR G' h8' (fun s' b' a1 a2 => by rw [hF (tg + 1) (by omega)]; exact hBr s' b' a1 a2) hq with ⟨p1, p2⟩ | ⟨k, s1, b1, r, p1, p2, p3, p4, p5, p6, p7, p8⟩
      · simp only [Option.bind_some, as_I, as_R, as_V, ct_t, ct_f, if_true, if_false, Bool.true_and, Bool.and_true, Bool.or_true, Bool.true_or, gi_45_0, gi_45_1, gi_45_2, gi_45_3, gi_47_0, gi_47_1, gi_47_2, gi_47_3, gi_46_8, gi_46_9, gi_46_10, gi_46_15, gi_46_16, pi_45_0, pi_45_1, pi_45_2, pi_45_3, pi_47_0, pi_47_1, pi_47_2, pi_47_3, pi_46_8, pi_46_9, pi_46_10, pi_46_15, pi_46_16, gr_46_0, gr_46_1, gr_46_2, gr_46_3, gr_46_4, gr_46_5, gr_46_6, gr_46_7, gr_46_11, gr_46_12, gr_46_13, gr_46_14, ld_50, ld_51, ld_52, ld_53, ld_54, ld_55, ld_56, ld_t, ld_b, sv_50, sv_51, sv_52, sv_53, sv_54, sv_55, sv_56, sv_t, sv_b, is_45, is_47, is_46, p1, kc_sum0]
        rw [sv_t ht (by omega), Option.bind_some]
        have := fin none (.int (Int32.ofNat (11 * s + b))) p2 (fun w hw => by cases hw)
        rw [decide_eq_false hq] at this
        exact this
      · simp only [Option.bind_some, as_I, as_R, as_V, ct_t, ct_f, if_true, if_false, Bool.true_and, Bool.and_true, Bool.or_true, Bool.true_or, gi_45_0, gi_45_1, gi_45_2, gi_45_3, gi_47_0, gi_47_1, gi_47_2, gi_47_3, gi_46_8, gi_46_9, gi_46_10, gi_46_15, gi_46_16, pi_45_0, pi_45_1, pi_45_2, pi_45_3, pi_47_0, pi_47_1, pi_47_2, pi_47_3, pi_46_8, pi_46_9, pi_46_10, pi_46_15, pi_46_16, gr_46_0, gr_46_1, gr_46_2, gr_46_3, gr_46_4, gr_46_5, gr_46_6, gr_46_7, gr_46_11, gr_46_12, gr_46_13, gr_46_14, ld_50, ld_51, ld_52, ld_53, ld_54, ld_55, ld_56, ld_t, ld_b, sv_50, sv_51, sv_52, sv_53, sv_54, sv_55, sv_56, sv_t, sv_b, is_45, is_47, is_46, p1, p2]
        rw [sv_t ht (by omega), Option.bind_some]
        have := fin (some (tbF P A (11 * s + b) s1 b1 + tkN P s1 b1 + r)) (.int (Int32.ofNat (11 * s + b))) p7 (fun w hw => by injection hw with hw; omega)
        rw [decide_eq_false hq] at this
        exact this
theorem kc_tg20 (ht : 296 ≤ tg) (C0 : ShC P fl σ) (W : Wf P) (hall : ∀ s, all.testBit s = true → s < pM P ∧ 2 ≤ pN P s) (ha : all < 256) (h9 : σ 46 9 = Int32.ofNat all) (hS : set < 256) (hsub : sub set all) (hin : inO P all set) (hx : A.1 ≤ 500) (hy : A.2.1 ≤ 500) {cc : Nat} {ch ct : Nat → Nat} (hR : ∀ s b, cand P all set s → b < bgn P s → bnd (set ||| 2 ^ s) (R (set ||| 2 ^ s) (11 * s + b))) (G : Gat P all R set 88 σ cc ch ct) (h8 : σ 46 8 = Int32.ofNat cc) (hB : SlI P A all tg σ 88) : ∀ q s (τ : dSg) (R2 : dTab) (l4 l5 l6 : Value), s + q = pM P → (∀ a, a ≠ tg → τ a = σ a) → (∀ x y, x ≠ set → R2 x y = R x y) → InvC P A all R2 τ tg (set ||| nlm all) set (11 * s) → ∃ τ' R', dX tb (d + 1) 20 20 [.ref 46, .int (Int32.ofNat (set ||| nlm all)), .int (bI (decide (set = all))), .int (Int32.ofNat s), l4, l5, l6] [] (c, t, hp g (SH fl tg) τ) = some (none, (c, t, hp g (SH fl tg) (τ'))) ∧ (∀ a, a ≠ tg → τ' a = σ a) ∧ InvC P A all R' τ' tg (set ||| nlm all) set 88 := by
  have hm := W.1
  have hdn := dn_lt hS ha
  intro q
  induction q with
  | zero =>
    intro s τ R2 l4 l5 l6 h hF hRe hI
    have h1 : pM P ≤ s := by omega
    have C : ShC P fl τ := ShC_congr W C0 fun a ha => hF a (by omega)
    refine ⟨τ, R2, ?_, hF, fun set' s' b' a1 a2 a3 a4 a5 a6 => hI set' s' b' ?_ a2 a3 a4 a5 a6⟩
    · rw [sg_X2_tellToGoFrom_20]
      simp (disch := omega) only [Option.bind_some, as_I, as_R, as_V, ct_t, ct_f, if_true, if_false, Bool.true_and, Bool.and_true, Bool.or_true, Bool.true_or, gi_1_3, gi_s, pi_1_3, pi_s, gr_0_0, gr_0_1, gr_0_2, gr_0_3, gr_1_0, gr_1_1, gr_1_2, gr_s_7, gr_s_8, gr_s_9, gr_s_10, ld_3, ld_4, ld_x, ld_y, ld_u, ld_v, sv_3, sv_4, sv_x, sv_y, sv_u, sv_v, is_0, is_1, is_s, lr_2, gi_45_0, gi_45_1, gi_45_2, gi_45_3, gi_47_0, gi_47_1, gi_47_2, gi_47_3, gi_46_8, gi_46_9, gi_46_10, gi_46_15, gi_46_16, pi_45_0, pi_45_1, pi_45_2, pi_45_3, pi_47_0, pi_47_1, pi_47_2, pi_47_3, pi_46_8, pi_46_9, pi_46_10, pi_46_15, pi_46_16, gr_46_0, gr_46_1, gr_46_2, gr_46_3, gr_46_4, gr_46_5, gr_46_6, gr_46_7, gr_46_11, gr_46_12, gr_46_13, gr_46_14, ld_50, ld_51, ld_52, ld_53, ld_54, ld_55, ld_56, ld_t, ld_b, sv_50, sv_51, sv_52, sv_53, sv_54, sv_55, sv_56, sv_t, sv_b, is_45, is_47, is_46, ia_0, ia_1, is_m0, is_m1, im_8, ml_8, im_11, ml_11, im_12, ml_12, im_88, ml_88, im_89, ml_89, j_lt_0, j_gt_0, j_le_0, j_ge_0, j_eq_0, j_lt_1, j_gt_1, j_le_1, j_ge_1, j_eq_1, j_lt_2, j_gt_2, j_le_2, j_ge_2, j_eq_2, j_lt_3, j_gt_3, j_le_3, j_ge_3, j_eq_3, j_lt_4, j_gt_4, j_le_4, j_ge_4, j_eq_4, j_lt_5, j_gt_5, j_le_5, j_ge_5, j_eq_5, j_lt_6, j_gt_6, j_le_6, j_ge_6, j_eq_6, j_lt_8, j_gt_8, j_le_8, j_ge_8, j_eq_8, j_lt_12, j_gt_12, j_le_12, j_ge_12, j_eq_12, j_lt_209, j_gt_209, j_le_209, j_ge_209, j_eq_209, j_lt_255, j_gt_255, j_le_255, j_ge_255, j_eq_255, j_lt_1000000000, j_gt_1000000000, j_le_1000000000, j_ge_1000000000, j_eq_1000000000, C.1, i_le, h1]
    · have h3 := (hall s' (a3 s' a5)).1
      have := bgn_11 W h3
      rcases a1 with a1 | ⟨a1, a7⟩
      · exact Or.inl a1
      · exact Or.inr ⟨a1, by omega⟩
  | succ q ih =>
    intro s τ R2 l4 l5 l6 h hF hRe hI
    have h1 : ¬ pM P ≤ s := by omega
    have hs : s < pM P := by omega
    have C : ShC P fl τ := ShC_congr W C0 fun a ha => hF a (by omega)
    have h9' : τ 46 9 = Int32.ofNat all := by rw [hF 46 (by omega)]; exact h9
    have skp : set.testBit s = false → ∃ τ' R', dX tb (d + 1) 20 20 [.ref 46, .int (Int32.ofNat (set ||| nlm all)), .int (bI (decide (set = all))), .int (Int32.ofNat (s + 1)), l4, l5, l6] [] (c, t, hp g (SH fl tg) τ) = some (none, (c, t, hp g (SH fl tg) (τ'))) ∧ (∀ a, a ≠ tg → τ' a = σ a) ∧ InvC P A all R' τ' tg (set ||| nlm all) set 88 := fun hk =>
      ih (s + 1) τ R2 l4 l5 l6 (by omega) hF hRe fun set' s' b' a1 a2 a3 a4 a5 a6 => hI set' s' b' (by
        have := bgn_11 W (hall s' (a3 s' a5)).1
        rcases a1 with a1 | ⟨rfl, a1⟩
        · exact Or.inl a1
        · refine Or.inr ⟨rfl, ?_⟩
          by_cases e : s' = s
          · subst e; rw [hk] at a5; exact absurd a5 (by decide)
          · omega) a2 a3 a4 a5 a6
    rw [sg_X2_tellToGoFrom_20]
    simp (disch := omega) only [Option.bind_some, as_I, as_R, as_V, ct_t, ct_f, if_true, if_false, Bool.true_and, Bool.and_true, Bool.or_true, Bool.true_or, gi_1_3, gi_s, pi_1_3, pi_s, gr_0_0, gr_0_1, gr_0_2, gr_0_3, gr_1_0, gr_1_1, gr_1_2, gr_s_7, gr_s_8, gr_s_9, gr_s_10, ld_3, ld_4, ld_x, ld_y, ld_u, ld_v, sv_3, sv_4, sv_x, sv_y, sv_u, sv_v, is_0, is_1, is_s, lr_2, gi_45_0, gi_45_1, gi_45_2, gi_45_3, gi_47_0, gi_47_1, gi_47_2, gi_47_3, gi_46_8, gi_46_9, gi_46_10, gi_46_15, gi_46_16, pi_45_0, pi_45_1, pi_45_2, pi_45_3, pi_47_0, pi_47_1, pi_47_2, pi_47_3, pi_46_8, pi_46_9, pi_46_10, pi_46_15, pi_46_16, gr_46_0, gr_46_1, gr_46_2, gr_46_3, gr_46_4, gr_46_5, gr_46_6, gr_46_7, gr_46_11, gr_46_12, gr_46_13, gr_46_14, ld_50, ld_51, ld_52, ld_53, ld_54, ld_55, ld_56, ld_t, ld_b, sv_50, sv_51, sv_52, sv_53, sv_54, sv_55, sv_56, sv_t, sv_b, is_45, is_47, is_46, ia_0, ia_1, is_m0, is_m1, im_8, ml_8, im_11, ml_11, im_12, ml_12, im_88, ml_88, im_89, ml_89, j_lt_0, j_gt_0, j_le_0, j_ge_0, j_eq_0, j_lt_1, j_gt_1, j_le_1, j_ge_1, j_eq_1, j_lt_2, j_gt_2, j_le_2, j_ge_2, j_eq_2, j_lt_3, j_gt_3, j_le_3, j_ge_3, j_eq_3, j_lt_4, j_gt_4, j_le_4, j_ge_4, j_eq_4, j_lt_5, j_gt_5, j_le_5, j_ge_5, j_eq_5, j_lt_6, j_gt_6, j_le_6, j_ge_6, j_eq_6, j_lt_8, j_gt_8, j_le_8, j_ge_8, j_eq_8, j_lt_12, j_gt_12, j_le_12, j_ge_12, j_eq_12, j_lt_209, j_gt_209, j_le_209, j_ge_209, j_eq_209, j_lt_255, j_gt_255, j_le_255, j_ge_255, j_eq_255, j_lt_1000000000, j_gt_1000000000, j_le_1000000000, j_ge_1000000000, j_eq_1000000000, C.1, i_le, h1, kc_isL ha h9', bI_0, b_tst]
    cases hq : all.testBit s
    · rw [if_pos rfl]
      refine skp ?_
      cases e : set.testBit s
      · rfl
      · rw [hsub s e] at hq; exact absurd hq (by decide)
    · rw [if_neg (by decide), dn_tbl (by omega) hq]
      obtain ⟨-, h2⟩ := hall s hq
      cases hst : set.testBit s
      · rw [if_pos rfl]
        exact skp hst
      · rw [if_neg (by decide)]
        simp (disch := omega) only [Option.bind_some, as_I, as_R, as_V, ct_t, ct_f, if_true, if_false, Bool.true_and, Bool.and_true, Bool.or_true, Bool.true_or, gi_1_3, gi_s, pi_1_3, pi_s, gr_0_0, gr_0_1, gr_0_2, gr_0_3, gr_1_0, gr_1_1, gr_1_2, gr_s_7, gr_s_8, gr_s_9, gr_s_10, ld_3, ld_4, ld_x, ld_y, ld_u, ld_v, sv_3, sv_4, sv_x, sv_y, sv_u, sv_v, is_0, is_1, is_s, lr_2, gi_45_0, gi_45_1, gi_45_2, gi_45_3, gi_47_0, gi_47_1, gi_47_2, gi_47_3, gi_46_8, gi_46_9, gi_46_10, gi_46_15, gi_46_16, pi_45_0, pi_45_1, pi_45_2, pi_45_3, pi_47_0, pi_47_1, pi_47_2, pi_47_3, pi_46_8, pi_46_9, pi_46_10, pi_46_15, pi_46_16, gr_46_0, gr_46_1, gr_46_2, gr_46_3, gr_46_4, gr_46_5, gr_46_6, gr_46_7, gr_46_11, gr_46_12, gr_46_13, gr_46_14, ld_50, ld_51, ld_52, ld_53, ld_54, ld_55, ld_56, ld_t, ld_b, sv_50, sv_51, sv_52, sv_53, sv_54, sv_55, sv_56, sv_t, sv_b, is_45, is_47, is_46, ia_0, ia_1, is_m0, is_m1, im_8, ml_8, im_11, ml_11, im_12, ml_12, im_88, ml_88, im_89, ml_89, j_lt_0, j_gt_0, j_le_0, j_ge_0, j_eq_0, j_lt_1, j_gt_1, j_le_1, j_ge_1, j_eq_1, j_lt_2, j_gt_2, j_le_2, j_ge_2, j_eq_2, j_lt_3, j_gt_3, j_le_3, j_ge_3, j_eq_3, j_lt_4, j_gt_4, j_le_4, j_ge_4, j_eq_4, j_lt_5, j_gt_5, j_le_5, j_ge_5, j_eq_5, j_lt_6, j_gt_6, j_le_6, j_ge_6, j_eq_6, j_lt_8, j_gt_8, j_le_8, j_ge_8, j_eq_8, j_lt_12, j_gt_12, j_le_12, j_ge_12, j_eq_12, j_lt_209, j_gt_209, j_le_209, j_ge_209, j_eq_209, j_lt_255, j_gt_255, j_le_255, j_ge_255, j_eq_255, j_lt_1000000000, j_gt_1000000000, j_le_1000000000, j_ge_1000000000, j_eq_1000000000, kc_begs C W hs]
        rw [if_pos h2]
        obtain ⟨τ1, R1, l6', e1, e2, e3, e4⟩ := kc_tg67 (tb := tb) (d := d) (c := c) (t := t) (g := g) (fl := fl) ht C0 W hall ha hS hsub hin hx hy hR G h8 hB hst (bgn P s) 0 τ R2 l6 (by omega) hF hRe hI
        obtain ⟨τ', R', f1, f2⟩ := ih (s + 1) τ1 R1 _ _ _ (by omega) e2 e3 e4
        exact ⟨τ', R', e1.trans f1, f2⟩
/-- what the telling of the table changes -/
def FrT (tg : Nat) (σ τ : dSg) : Prop := (∀ a, a ≠ 51 → a ≠ 52 → a ≠ 46 → a ≠ tg → τ a = σ a) ∧ ∀ j, j ≠ 8 → τ 46 j = σ 46 j
theorem FrT_refl (tg : Nat) (σ : dSg) : FrT tg σ σ := ⟨fun _ _ _ _ _ => rfl, fun _ _ => rfl⟩
theorem FrT_trans {σ τ υ : dSg} (h : FrT tg σ τ) (h2 : FrT tg τ υ) : FrT tg σ υ := ⟨fun a a1 a2 a3 a4 => (h2.1 a a1 a2 a3 a4).trans (h.1 a a1 a2 a3 a4), fun j hj => (h2.2 j hj).trans (h.2 j hj)⟩
theorem FrT_ShC (ht : 296 ≤ tg) (W : Wf P) {τ : dSg} (h : FrT tg σ τ) (C : ShC P fl σ) : ShC P fl τ := ShC_congr W C fun a ha => h.1 a (by omega) (by omega) (by omega) (by omega)
theorem FrT_SlI (ht : 296 ≤ tg) {τ : dSg} {lim : Nat} (h : FrT tg σ τ) (C : SlI P A all tg σ lim) : SlI P A all tg τ lim := by
  unfold SlI
  rw [h.1 50 (by omega) (by omega) (by omega) (by omega), h.1 (tg + 1) (by omega) (by omega) (by omega) (by omega)]
  exact C
theorem kc_tgF (ht : 296 ≤ tg) (C0 : ShC P fl σ) (W : Wf P) (hall : ∀ s, all.testBit s = true → s < pM P ∧ 2 ≤ pN P s) (ha : all < 256) (h9 : σ 46 9 = Int32.ofNat all) (hS : set < 256) (hsub : sub set all) (hin : inO P all set) (hx : A.1 ≤ 500) (hy : A.2.1 ≤ 500) (hB : SlI P A all tg σ 88) (hI : InvC P A all R σ tg (set ||| nlm all) set 0) : ∃ τ' R', dX tb (d + 2) 20 0 [.ref 46, .int (Int32.ofNat (set ||| nlm all)), .null, .null, .null, .null, .null] [] (c, t, hp g (SH fl tg) σ) = some (none, (c, t, hp g (SH fl tg) (τ'))) ∧ FrT tg σ τ' ∧ InvC P A all R' τ' tg (set ||| nlm all) set 88 := by
  have hm := W.1
  have hdn := dn_lt hS ha
  have T := InvC_Tb W hS hsub hin hI
  obtain ⟨τ1, cc, ch, ct, e1, e2, e3, e4⟩ := kc_gath (tb := tb) (d := d) (c := c) (t := t) (g := g) (fl := fl) ht C0 W ha h9 hall hS T (fun s b a1 a2 => (hB.2 s b a1 a2 (by have := bgn_11 W (hall s a1).1; have := (hall s a1).1; omega)).1)
  have C1 := FrG_ShC W e2 C0
  have hI1 : InvC P A all R τ1 tg (set ||| nlm all) set 0 := fun set' s' b' a1 a2 a3 a4 a5 a6 => by
    have := hI set' s' b' a1 a2 a3 a4 a5 a6
    unfold EnC at this ⊢
    rw [e2.1 tg (by omega) (by omega) (by omega)]
    exact this
  have hB1 : SlI P A all tg τ1 88 := by
    unfold SlI
    rw [e2.1 50 (by omega) (by omega) (by omega), e2.1 (tg + 1) (by omega) (by omega) (by omega)]
    exact hB
  obtain ⟨τ', R', f1, f2, f3⟩ := kc_tg20 (tb := tb) (d := d + 1) (c := c) (t := t) (g := g) (fl := fl) ht C1 W hall ha (by rw [e2.2 9 (by decide)]; exact h9) hS hsub hin hx hy (TbC_R T) e4 e3 hB1 (pM P) 0 τ1 R .null .null .null (by omega) (fun _ _ => rfl) (fun _ _ _ => rfl) hI1
  refine ⟨τ', R', ?_, ⟨fun a a1 a2 a3 a4 => by rw [f2 a a4]; exact e2.1 a a1 a2 a3, fun j hj => by rw [f2 46 (by omega)]; exact e2.2 j hj⟩, f3⟩
  rw [sg_X2_tellToGoFrom_0]
  simp only [Option.bind_some, as_I, as_R, as_V, ct_t, ct_f, if_true, if_false, Bool.true_and, Bool.and_true, Bool.or_true, Bool.true_or, gi_45_0, gi_45_1, gi_45_2, gi_45_3, gi_47_0, gi_47_1, gi_47_2, gi_47_3, gi_46_8, gi_46_9, gi_46_10, gi_46_15, gi_46_16, pi_45_0, pi_45_1, pi_45_2, pi_45_3, pi_47_0, pi_47_1, pi_47_2, pi_47_3, pi_46_8, pi_46_9, pi_46_10, pi_46_15, pi_46_16, gr_46_0, gr_46_1, gr_46_2, gr_46_3, gr_46_4, gr_46_5, gr_46_6, gr_46_7, gr_46_11, gr_46_12, gr_46_13, gr_46_14, ld_50, ld_51, ld_52, ld_53, ld_54, ld_55, ld_56, ld_t, ld_b, sv_50, sv_51, sv_52, sv_53, sv_54, sv_55, sv_56, sv_t, sv_b, is_45, is_47, is_46, e1]
  by_cases hq : set = all
  · rw [if_pos (by rw [dn_all hq ha]; rfl)]
    rw [decide_eq_true hq] at f1
    exact f1
  · rw [if_neg (by
      rw [j_eq_255 (by omega)]
      intro z
      rw [← dn_all (set := all) rfl ha] at z
      exact hq (dn_inj hS ha hsub (fun _ h => h) z))]
    rw [decide_eq_false hq] at f1
    exact f1
theorem kc_ordL (C : ShC P fl σ) (W : Wf P) (ha : all < 256) (h9 : σ 46 9 = Int32.ofNat all) (hS : set < 256) : ∀ q s, s + q = pM P → dX tb (d + 1) 18 2 [.ref 46, .int (Int32.ofNat (set ||| nlm all)), .int (Int32.ofNat s)] [] (c, t, hp g (SH fl tg) σ) = some (some (.int (bI (dcd (∀ s', s ≤ s' → s' < pM P → all.testBit s' = true → set.testBit s' = true → ∀ o, o < pM P → pOv P s' o = true → all.testBit o = true → set.testBit o = true)))), (c, t, hp g (SH fl tg) σ)) := by
  have hm := W.1
  have hdn := dn_lt hS ha
  intro q
  induction q with
  | zero =>
    intro s h
    have h1 : pM P ≤ s := by omega
    rw [sg_X2_isInOrder_2]
    simp (disch := omega) only [Option.bind_some, as_I, as_R, as_V, ct_t, ct_f, if_true, if_false, Bool.true_and, Bool.and_true, Bool.or_true, Bool.true_or, gi_1_3, gi_s, pi_1_3, pi_s, gr_0_0, gr_0_1, gr_0_2, gr_0_3, gr_1_0, gr_1_1, gr_1_2, gr_s_7, gr_s_8, gr_s_9, gr_s_10, ld_3, ld_4, ld_x, ld_y, ld_u, ld_v, sv_3, sv_4, sv_x, sv_y, sv_u, sv_v, is_0, is_1, is_s, lr_2, gi_45_0, gi_45_1, gi_45_2, gi_45_3, gi_47_0, gi_47_1, gi_47_2, gi_47_3, gi_46_8, gi_46_9, gi_46_10, gi_46_15, gi_46_16, pi_45_0, pi_45_1, pi_45_2, pi_45_3, pi_47_0, pi_47_1, pi_47_2, pi_47_3, pi_46_8, pi_46_9, pi_46_10, pi_46_15, pi_46_16, gr_46_0, gr_46_1, gr_46_2, gr_46_3, gr_46_4, gr_46_5, gr_46_6, gr_46_7, gr_46_11, gr_46_12, gr_46_13, gr_46_14, ld_50, ld_51, ld_52, ld_53, ld_54, ld_55, ld_56, ld_t, ld_b, sv_50, sv_51, sv_52, sv_53, sv_54, sv_55, sv_56, sv_t, sv_b, is_45, is_47, is_46, ia_0, ia_1, is_m0, is_m1, im_8, ml_8, im_11, ml_11, im_12, ml_12, im_88, ml_88, im_89, ml_89, j_lt_0, j_gt_0, j_le_0, j_ge_0, j_eq_0, j_lt_1, j_gt_1, j_le_1, j_ge_1, j_eq_1, j_lt_2, j_gt_2, j_le_2, j_ge_2, j_eq_2, j_lt_3, j_gt_3, j_le_3, j_ge_3, j_eq_3, j_lt_4, j_gt_4, j_le_4, j_ge_4, j_eq_4, j_lt_5, j_gt_5, j_le_5, j_ge_5, j_eq_5, j_lt_6, j_gt_6, j_le_6, j_ge_6, j_eq_6, j_lt_8, j_gt_8, j_le_8, j_ge_8, j_eq_8, j_lt_12, j_gt_12, j_le_12, j_ge_12, j_eq_12, j_lt_209, j_gt_209, j_le_209, j_ge_209, j_eq_209, j_lt_255, j_gt_255, j_le_255, j_ge_255, j_eq_255, j_lt_1000000000, j_gt_1000000000, j_le_1000000000, j_ge_1000000000, j_eq_1000000000, C.1, i_le, h1]
    rw [dcd_t (fun s' a b => by omega)]; rfl
  | succ q ih =>
    intro s h
    have h1 : ¬ pM P ≤ s := by omega
    have hs : s < pM P := by omega
    have nx := ih (s + 1) (by omega)
    have sk : (all.testBit s = true → set.testBit s = true → ∀ o, o < pM P → pOv P s o = true → all.testBit o = true → set.testBit o = true) → ((∀ s', s ≤ s' → s' < pM P → all.testBit s' = true → set.testBit s' = true → ∀ o, o < pM P → pOv P s' o = true → all.testBit o = true → set.testBit o = true) ↔ (∀ s', s + 1 ≤ s' → s' < pM P → all.testBit s' = true → set.testBit s' = true → ∀ o, o < pM P → pOv P s' o = true → all.testBit o = true → set.testBit o = true)) := fun hk => ⟨fun z s' a => z s' (by omega), fun z s' a => by
      by_cases e : s' = s
      · subst e; exact fun _ => hk
      · exact z s' (by omega)⟩
    rw [sg_X2_isInOrder_2]
    simp (disch := omega) only [Option.bind_some, as_I, as_R, as_V, ct_t, ct_f, if_true, if_false, Bool.true_and, Bool.and_true, Bool.or_true, Bool.true_or, gi_1_3, gi_s, pi_1_3, pi_s, gr_0_0, gr_0_1, gr_0_2, gr_0_3, gr_1_0, gr_1_1, gr_1_2, gr_s_7, gr_s_8, gr_s_9, gr_s_10, ld_3, ld_4, ld_x, ld_y, ld_u, ld_v, sv_3, sv_4, sv_x, sv_y, sv_u, sv_v, is_0, is_1, is_s, lr_2, gi_45_0, gi_45_1, gi_45_2, gi_45_3, gi_47_0, gi_47_1, gi_47_2, gi_47_3, gi_46_8, gi_46_9, gi_46_10, gi_46_15, gi_46_16, pi_45_0, pi_45_1, pi_45_2, pi_45_3, pi_47_0, pi_47_1, pi_47_2, pi_47_3, pi_46_8, pi_46_9, pi_46_10, pi_46_15, pi_46_16, gr_46_0, gr_46_1, gr_46_2, gr_46_3, gr_46_4, gr_46_5, gr_46_6, gr_46_7, gr_46_11, gr_46_12, gr_46_13, gr_46_14, ld_50, ld_51, ld_52, ld_53, ld_54, ld_55, ld_56, ld_t, ld_b, sv_50, sv_51, sv_52, sv_53, sv_54, sv_55, sv_56, sv_t, sv_b, is_45, is_47, is_46, ia_0, ia_1, is_m0, is_m1, im_8, ml_8, im_11, ml_11, im_12, ml_12, im_88, ml_88, im_89, ml_89, j_lt_0, j_gt_0, j_le_0, j_ge_0, j_eq_0, j_lt_1, j_gt_1, j_le_1, j_ge_1, j_eq_1, j_lt_2, j_gt_2, j_le_2, j_ge_2, j_eq_2, j_lt_3, j_gt_3, j_le_3, j_ge_3, j_eq_3, j_lt_4, j_gt_4, j_le_4, j_ge_4, j_eq_4, j_lt_5, j_gt_5, j_le_5, j_ge_5, j_eq_5, j_lt_6, j_gt_6, j_le_6, j_ge_6, j_eq_6, j_lt_8, j_gt_8, j_le_8, j_ge_8, j_eq_8, j_lt_12, j_gt_12, j_le_12, j_ge_12, j_eq_12, j_lt_209, j_gt_209, j_le_209, j_ge_209, j_eq_209, j_lt_255, j_gt_255, j_le_255, j_ge_255, j_eq_255, j_lt_1000000000, j_gt_1000000000, j_le_1000000000, j_ge_1000000000, j_eq_1000000000, C.1, i_le, h1, kc_isL ha h9, bI_0, b_tst, kc_free C W]
    cases hq : all.testBit s
    · rw [if_pos rfl, dcd_c (sk (fun z => by rw [hq] at z; exact absurd z (by decide)))]
      exact nx
    · rw [if_neg (by decide), dn_tbl (by omega) hq]
      cases hst : set.testBit s
      · rw [if_pos rfl, dcd_c (sk (fun _ z => by rw [hst] at z; exact absurd z (by decide)))]
        exact nx
      · rw [if_neg (by decide), dcd_c (dn_free W)]
        by_cases hfr : ∀ o, o < pM P → pOv P s o = true → all.testBit o = true → set.testBit o = true
        · rw [dcd_t hfr, if_neg (by decide), dcd_c (sk (fun _ _ => hfr))]
          exact nx
        · rw [dcd_f hfr, if_pos rfl, dcd_f (fun z => hfr (z s (Nat.le_refl _) hs hq hst))]; rfl
theorem kc_ord (C : ShC P fl σ) (W : Wf P) (ha : all < 256) (hall : ∀ s, all.testBit s = true → s < pM P ∧ 2 ≤ pN P s) (h9 : σ 46 9 = Int32.ofNat all) (hS : set < 256) (hsub : sub set all) : dX tb (d + 1) 18 0 [.ref 46, .int (Int32.ofNat (set ||| nlm all)), .null] [] (c, t, hp g (SH fl tg) σ) = some (some (.int (bI (dcd (inO P all set)))), (c, t, hp g (SH fl tg) σ)) := by
  rw [sg_X2_isInOrder_0, dcd_c (show inO P all set ↔ (∀ s', 0 ≤ s' → s' < pM P → all.testBit s' = true → set.testBit s' = true → ∀ o, o < pM P → pOv P s' o = true → all.testBit o = true → set.testBit o = true) from ⟨fun z s' _ _ _ b => z s' b, fun z s hs => z s (by omega) (hall s (hsub s hs)).1 (hsub s hs) hs⟩)]
  exact kc_ordL C W ha h9 hS (pM P) 0 (by omega)
theorem b_orI {a b : Nat} : Int32.ofNat a ||| Int32.ofNat b = Int32.ofNat (a ||| b) := by
  refine Int32.toBitVec_inj.mp ?_
  rw [Int32.toBitVec_or]
  exact (BitVec.ofNat_or).symm
theorem dn_ex {D : Nat} (hD : D < 256) (ha : all < 256) (h : D ||| all = 255) : ∃ set, set < 256 ∧ sub set all ∧ D = set ||| nlm all := by
  refine ⟨D &&& all, Nat.lt_of_le_of_lt Nat.and_le_left hD, fun s hs => by rw [Nat.testBit_and, Bool.and_eq_true] at hs; exact hs.2, Nat.eq_of_testBit_eq fun q => ?_⟩
  by_cases hq : q < 8
  · have := congrArg (fun n => n.testBit q) h
    try dsimp only at this
    rw [Nat.testBit_or, show (255 : Nat) = 2 ^ 8 - 1 from rfl, Nat.testBit_two_pow_sub_one, decide_eq_true hq] at this
    rw [dn_tb hq, Nat.testBit_and]
    revert this
    cases D.testBit q <;> cases all.testBit q <;> decide
  · have h8 : 256 ≤ 2 ^ q := Nat.le_trans (by decide : 256 ≤ 2 ^ 8) (Nat.pow_le_pow_right (by decide) (by omega))
    rw [Nat.testBit_lt_two_pow (by omega), Nat.testBit_lt_two_pow (Nat.lt_of_lt_of_le (dn_lt (Nat.lt_of_le_of_lt Nat.and_le_left hD) ha) h8)]
theorem dn_or_all (hsub : sub set all) (ha : all < 256) (hS : set < 256) : (set ||| nlm all) ||| all = 255 := by
  refine Nat.eq_of_testBit_eq fun q => ?_
  by_cases hq : q < 8
  · rw [Nat.testBit_or, dn_tb hq, show (255 : Nat) = 2 ^ 8 - 1 from rfl, Nat.testBit_two_pow_sub_one, decide_eq_true hq]
    cases set.testBit q <;> cases all.testBit q <;> rfl
  · have h8 : 256 ≤ 2 ^ q := Nat.le_trans (by decide : 256 ≤ 2 ^ 8) (Nat.pow_le_pow_right (by decide) (by omega))
    rw [Nat.testBit_lt_two_pow (Nat.lt_of_lt_of_le (Nat.or_lt_two_pow (n := 8) (dn_lt hS ha) ha) h8), Nat.testBit_lt_two_pow (by omega)]
/-- the table from a done set on -/
def InvD (P : dP) (A : dA) (all : Nat) (R : dTab) (σ : dSg) (tg D : Nat) : Prop := ∀ set s b, D ≤ (set ||| nlm all) → set < 256 → sub set all → inO P all set → set.testBit s = true → b < bgn P s → EnC P A all R σ tg set s b
theorem kc_toGoL (ht : 296 ≤ tg) (C0 : ShC P fl σ) (W : Wf P) (hall : ∀ s, all.testBit s = true → s < pM P ∧ 2 ≤ pN P s) (ha : all < 256) (h9 : σ 46 9 = Int32.ofNat all) (hx : A.1 ≤ 500) (hy : A.2.1 ≤ 500) (hB : SlI P A all tg σ 88) : ∀ D (τ : dSg) (R : dTab), D ≤ 256 → FrT tg σ τ → InvD P A all R τ tg D → ∃ τ' R', dX tb (d + 3) 17 4 [.ref 46, .int (Int32.ofNat D + Int32.ofInt (-1))] [] (c, t, hp g (SH fl tg) τ) = some (none, (c, t, hp g (SH fl tg) (τ'))) ∧ FrT tg σ τ' ∧ InvD P A all R' τ' tg 0 := by
  intro D
  induction D with
  | zero =>
    intro τ R hD hF hI
    refine ⟨τ, R, ?_, hF, hI⟩
    rw [show Int32.ofNat 0 + Int32.ofInt (-1) = -1 from rfl, sg_X2_tellToGo_4, if_pos (by decide)]
  | succ D ih =>
    intro τ R hD hF hI
    have C := FrT_ShC ht W hF C0
    have h9' : τ 46 9 = Int32.ofNat all := by rw [hF.2 9 (by decide)]; exact h9
    have hB' := FrT_SlI ht hF hB
    have hn0 : ¬ D < 0 := by omega
    have skp : (∀ set, set < 256 → sub set all → inO P all set → (set ||| nlm all) = D → False) → ∃ τ' R', dX tb (d + 3) 17 4 [.ref 46, .int (Int32.ofNat D + Int32.ofInt (-1))] [] (c, t, hp g (SH fl tg) τ) = some (none, (c, t, hp g (SH fl tg) (τ'))) ∧ FrT tg σ τ' ∧ InvD P A all R' τ' tg 0 := fun hk =>
      ih τ R (by omega) hF fun set s b a1 a2 a3 a4 a5 a6 => hI set s b (by
        by_cases e : (set ||| nlm all) = D
        · exact (hk set a2 a3 a4 e).elim
        · omega) a2 a3 a4 a5 a6
    rw [i_dec (by omega), Nat.add_sub_cancel, sg_X2_tellToGo_4]
    simp (disch := omega) only [Option.bind_some, as_I, as_R, as_V, ct_t, ct_f, if_true, if_false, Bool.true_and, Bool.and_true, Bool.or_true, Bool.true_or, gi_1_3, gi_s, pi_1_3, pi_s, gr_0_0, gr_0_1, gr_0_2, gr_0_3, gr_1_0, gr_1_1, gr_1_2, gr_s_7, gr_s_8, gr_s_9, gr_s_10, ld_3, ld_4, ld_x, ld_y, ld_u, ld_v, sv_3, sv_4, sv_x, sv_y, sv_u, sv_v, is_0, is_1, is_s, lr_2, gi_45_0, gi_45_1, gi_45_2, gi_45_3, gi_47_0, gi_47_1, gi_47_2, gi_47_3, gi_46_8, gi_46_9, gi_46_10, gi_46_15, gi_46_16, pi_45_0, pi_45_1, pi_45_2, pi_45_3, pi_47_0, pi_47_1, pi_47_2, pi_47_3, pi_46_8, pi_46_9, pi_46_10, pi_46_15, pi_46_16, gr_46_0, gr_46_1, gr_46_2, gr_46_3, gr_46_4, gr_46_5, gr_46_6, gr_46_7, gr_46_11, gr_46_12, gr_46_13, gr_46_14, ld_50, ld_51, ld_52, ld_53, ld_54, ld_55, ld_56, ld_t, ld_b, sv_50, sv_51, sv_52, sv_53, sv_54, sv_55, sv_56, sv_t, sv_b, is_45, is_47, is_46, ia_0, ia_1, is_m0, is_m1, im_8, ml_8, im_11, ml_11, im_12, ml_12, im_88, ml_88, im_89, ml_89, j_lt_0, j_gt_0, j_le_0, j_ge_0, j_eq_0, j_lt_1, j_gt_1, j_le_1, j_ge_1, j_eq_1, j_lt_2, j_gt_2, j_le_2, j_ge_2, j_eq_2, j_lt_3, j_gt_3, j_le_3, j_ge_3, j_eq_3, j_lt_4, j_gt_4, j_le_4, j_ge_4, j_eq_4, j_lt_5, j_gt_5, j_le_5, j_ge_5, j_eq_5, j_lt_6, j_gt_6, j_le_6, j_ge_6, j_eq_6, j_lt_8, j_gt_8, j_le_8, j_ge_8, j_eq_8, j_lt_12, j_gt_12, j_le_12, j_ge_12, j_eq_12, j_lt_209, j_gt_209, j_le_209, j_ge_209, j_eq_209, j_lt_255, j_gt_255, j_le_255, j_ge_255, j_eq_255, j_lt_1000000000, j_gt_1000000000, j_le_1000000000, j_ge_1000000000, j_eq_1000000000, hn0, h9', b_orI, Nat.or_lt_two_pow]
    by_cases hq : D ||| all = 255
    · rw [if_pos (by rw [hq]; rfl)]
      obtain ⟨set, q1, q2, q3⟩ := dn_ex (show D < 256 by omega) ha hq
      subst q3
      rw [kc_ord C W ha hall h9' q1 q2]
      simp only [Option.bind_some, as_I, as_R, as_V, ct_t, ct_f, if_true, if_false, Bool.true_and, Bool.and_true, Bool.or_true, Bool.true_or, gi_1_3, gi_s, pi_1_3, pi_s, gr_0_0, gr_0_1, gr_0_2, gr_0_3, gr_1_0, gr_1_1, gr_1_2, gr_s_7, gr_s_8, gr_s_9, gr_s_10, ld_3, ld_4, ld_x, ld_y, ld_u, ld_v, sv_3, sv_4, sv_x, sv_y, sv_u, sv_v, is_0, is_1, is_s, lr_2, gi_45_0, gi_45_1, gi_45_2, gi_45_3, gi_47_0, gi_47_1, gi_47_2, gi_47_3, gi_46_8, gi_46_9, gi_46_10, gi_46_15, gi_46_16, pi_45_0, pi_45_1, pi_45_2, pi_45_3, pi_47_0, pi_47_1, pi_47_2, pi_47_3, pi_46_8, pi_46_9, pi_46_10, pi_46_15, pi_46_16, gr_46_0, gr_46_1, gr_46_2, gr_46_3, gr_46_4, gr_46_5, gr_46_6, gr_46_7, gr_46_11, gr_46_12, gr_46_13, gr_46_14, ld_50, ld_51, ld_52, ld_53, ld_54, ld_55, ld_56, ld_t, ld_b, sv_50, sv_51, sv_52, sv_53, sv_54, sv_55, sv_56, sv_t, sv_b, is_45, is_47, is_46, bI_0]
      by_cases ho : inO P all set
      · rw [dcd_t ho, if_neg (by decide)]
        obtain ⟨τ1, R1, f1, f2, f3⟩ := kc_tgF (tb := tb) (d := d) (c := c) (t := t) (g := g) (fl := fl) (R := R) ht C W hall ha h9' q1 q2 ho hx hy hB' (fun set' s b a1 a2 a3 a4 a5 a6 => hI set' s b (by rcases a1 with a1 | a1 <;> omega) a2 a3 a4 a5 a6)
        simp only [Option.bind_some, as_I, as_R, as_V, ct_t, ct_f, if_true, if_false, Bool.true_and, Bool.and_true, Bool.or_true, Bool.true_or, gi_1_3, gi_s, pi_1_3, pi_s, gr_0_0, gr_0_1, gr_0_2, gr_0_3, gr_1_0, gr_1_1, gr_1_2, gr_s_7, gr_s_8, gr_s_9, gr_s_10, ld_3, ld_4, ld_x, ld_y, ld_u, ld_v, sv_3, sv_4, sv_x, sv_y, sv_u, sv_v, is_0, is_1, is_s, lr_2, gi_45_0, gi_45_1, gi_45_2, gi_45_3, gi_47_0, gi_47_1, gi_47_2, gi_47_3, gi_46_8, gi_46_9, gi_46_10, gi_46_15, gi_46_16, pi_45_0, pi_45_1, pi_45_2, pi_45_3, pi_47_0, pi_47_1, pi_47_2, pi_47_3, pi_46_8, pi_46_9, pi_46_10, pi_46_15, pi_46_16, gr_46_0, gr_46_1, gr_46_2, gr_46_3, gr_46_4, gr_46_5, gr_46_6, gr_46_7, gr_46_11, gr_46_12, gr_46_13, gr_46_14, ld_50, ld_51, ld_52, ld_53, ld_54, ld_55, ld_56, ld_t, ld_b, sv_50, sv_51, sv_52, sv_53, sv_54, sv_55, sv_56, sv_t, sv_b, is_45, is_47, is_46, f1]
        exact ih τ1 R1 (by omega) (FrT_trans hF f2) fun set' s b a1 a2 a3 a4 a5 a6 => f3 set' s b (by
          by_cases e : (set' ||| nlm all) = (set ||| nlm all)
          · have h3 := (hall s (a3 s a5)).1
            have := bgn_11 W h3
            have := W.1
            exact Or.inr ⟨dn_inj a2 q1 a3 q2 e, by omega⟩
          · exact Or.inl (by omega)) a2 a3 a4 a5 a6
      · rw [dcd_f ho, if_pos rfl]
        exact skp fun set' a2 a3 a4 e => ho (dn_inj a2 q1 a3 q2 e ▸ a4)
    · rw [if_neg (by rw [j_eq_255 (Nat.lt_of_lt_of_le (Nat.or_lt_two_pow (n := 8) (show D < 2 ^ 8 by omega) ha) (by decide))]; exact hq)]
      exact skp fun set' a2 a3 _ e => hq (e ▸ dn_or_all a3 ha a2)
theorem kc_toGo (ht : 296 ≤ tg) (C0 : ShC P fl σ) (W : Wf P) (hall : ∀ s, all.testBit s = true → s < pM P ∧ 2 ≤ pN P s) (ha : all < 256) (h9 : σ 46 9 = Int32.ofNat all) (hx : A.1 ≤ 500) (hy : A.2.1 ≤ 500) (hB : SlI P A all tg σ 88) : ∃ τ' R', dX tb (d + 3) 17 0 [.ref 46, .null] [] (c, t, hp g (SH fl tg) σ) = some (none, (c, t, hp g (SH fl tg) (τ'))) ∧ FrT tg σ τ' ∧ InvD P A all R' τ' tg 0 := by
  rw [sg_X2_tellToGo_0]
  obtain ⟨τ', R', e1, e2⟩ := kc_toGoL (tb := tb) (d := d) (c := c) (t := t) (g := g) (fl := fl) ht C0 W hall ha h9 hx hy hB 256 σ (fun _ _ => none) (by omega) (FrT_refl tg σ) (fun set s b a1 a2 a3 a4 a5 a6 => by have := dn_lt (all := all) a2 ha; omega)
  exact ⟨τ', R', e1, e2⟩
end CTB
