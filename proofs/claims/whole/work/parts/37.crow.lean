/-! THE CLASS'S PLAN, second part: rows of ticks between slots -/
section CRW
def vRow (P : dP) (x y : Nat) (pen : Int32) (dwn : Bool) (s b : Nat) : Nat := tbW P dwn (decide (pen = Int32.ofNat (pPen P s))) (wayN x y (dXn P s b 0) (dYn P s b 0))
variable {tb : dT} {d c t : Nat} {g : Nat → Option dE} {fl : Nat → Bool} {tg : Nat} {σ : dSg} {P : dP} {A : dA} {all : Nat}
theorem kc_row43 (ht : 296 ≤ tg) (C0 : ShC P fl σ) (W : Wf P) {x y f : Nat} {pen : Int32} {dwn : Bool} (H0 : HdC 47 σ x y pen dwn) (hx : x ≤ 500) (hy : y ≤ 500) (hf : f ≤ 88) {s : Nat} (hs : s < pM P) (h2 : 2 ≤ pN P s) {r4 : Nat} (h4 : r4 = bgn P s) : ∀ q b (τ : dSg) (l6 l7 : Value), b + q = bgn P s → (∀ a, a ≠ tg + 1 → τ a = σ a) → ∃ τ' l6' l7', dX tb (d + 3) 16 43 [.ref 46, .int (Int32.ofNat f), .int (Int32.ofNat s), .ref (5 + 5 * s), .int (Int32.ofNat r4), .int (Int32.ofNat b), l6, l7] [] (c, t, hp g (SH fl tg) τ) = dX tb (d + 3) 16 2 [.ref 46, .int (Int32.ofNat f), .int (Int32.ofNat (s + 1)), .ref (5 + 5 * s), .int (Int32.ofNat r4), .int (Int32.ofNat (bgn P s)), l6', l7'] [] (c, t, hp g (SH fl tg) (τ')) ∧ (∀ a, a ≠ tg + 1 → τ' a = σ a) ∧ (∀ b', b ≤ b' → b' < bgn P s → τ' (tg + 1) (f * 88 + (11 * s + b')) = Int32.ofNat (vRow P x y pen dwn s b')) ∧ ∀ j, (j < f * 88 + (11 * s + b) ∨ f * 88 + 11 * (s + 1) ≤ j) → τ' (tg + 1) j = τ (tg + 1) j := by
  subst h4
  have hm := W.1
  have h11 := bgn_11 W hs
  have hn := (W.2.1 s hs).1
  have hp := (W.2.1 s hs).2.1
  intro q
  induction q with
  | zero =>
    intro b τ l6 l7 hb hF
    have h1 : bgn P s ≤ b := by omega
    refine ⟨τ, l6, l7, ?_, hF, fun b' a1 a2 => by omega, fun j _ => rfl⟩
    rw [sg_X2_tellRow_43]
    simp (disch := omega) only [Option.bind_some, as_I, as_R, as_V, ct_t, ct_f, if_true, if_false, Bool.true_and, Bool.and_true, Bool.or_true, Bool.true_or, ia_0, ia_1, is_m0, is_m1, im_8, ml_8, im_11, ml_11, im_12, ml_12, im_88, ml_88, im_89, ml_89, j_lt_0, j_gt_0, j_le_0, j_ge_0, j_eq_0, j_lt_1, j_gt_1, j_le_1, j_ge_1, j_eq_1, j_lt_2, j_gt_2, j_le_2, j_ge_2, j_eq_2, j_lt_3, j_gt_3, j_le_3, j_ge_3, j_eq_3, j_lt_4, j_gt_4, j_le_4, j_ge_4, j_eq_4, j_lt_5, j_gt_5, j_le_5, j_ge_5, j_eq_5, j_lt_6, j_gt_6, j_le_6, j_ge_6, j_eq_6, j_lt_8, j_gt_8, j_le_8, j_ge_8, j_eq_8, j_lt_12, j_gt_12, j_le_12, j_ge_12, j_eq_12, j_lt_209, j_gt_209, j_le_209, j_ge_209, j_eq_209, j_lt_255, j_gt_255, j_le_255, j_ge_255, j_eq_255, j_lt_1000000000, j_gt_1000000000, j_le_1000000000, j_ge_1000000000, j_eq_1000000000, i_le, h1]
    rw [show b = bgn P s by omega]
  | succ q ih =>
    intro b τ l6 l7 hb hF
    have h1 : ¬ bgn P s ≤ b := by omega
    have hb1 : b < bgn P s := by omega
    have C : ShC P fl τ := ShC_congr W C0 fun a ha => hF a (by omega)
    have H : HdC 47 τ x y pen dwn := by unfold HdC; rw [hF 47 (by omega)]; exact H0
    have e0 := (C.2.2.1 s hs).1
    have X0 := dXn_le (b := b) (k := 0) W hs (by omega)
    have Y0 := dYn_le (b := b) (k := 0) W hs (by omega)
    rw [sg_X2_tellRow_43]
    simp (disch := omega) only [Option.bind_some, as_I, as_R, as_V, ct_t, ct_f, if_true, if_false, Bool.true_and, Bool.and_true, Bool.or_true, Bool.true_or, gi_1_3, gi_s, pi_1_3, pi_s, gr_0_0, gr_0_1, gr_0_2, gr_0_3, gr_1_0, gr_1_1, gr_1_2, gr_s_7, gr_s_8, gr_s_9, gr_s_10, ld_3, ld_4, ld_x, ld_y, ld_u, ld_v, sv_3, sv_4, sv_x, sv_y, sv_u, sv_v, is_0, is_1, is_s, lr_2, gi_45_0, gi_45_1, gi_45_2, gi_45_3, gi_47_0, gi_47_1, gi_47_2, gi_47_3, gi_46_8, gi_46_9, gi_46_10, gi_46_15, gi_46_16, pi_45_0, pi_45_1, pi_45_2, pi_45_3, pi_47_0, pi_47_1, pi_47_2, pi_47_3, pi_46_8, pi_46_9, pi_46_10, pi_46_15, pi_46_16, gr_46_0, gr_46_1, gr_46_2, gr_46_3, gr_46_4, gr_46_5, gr_46_6, gr_46_7, gr_46_11, gr_46_12, gr_46_13, gr_46_14, ld_50, ld_51, ld_52, ld_53, ld_54, ld_55, ld_56, ld_t, ld_b, sv_50, sv_51, sv_52, sv_53, sv_54, sv_55, sv_56, sv_t, sv_b, is_45, is_47, is_46, ia_0, ia_1, is_m0, is_m1, im_8, ml_8, im_11, ml_11, im_12, ml_12, im_88, ml_88, im_89, ml_89, j_lt_0, j_gt_0, j_le_0, j_ge_0, j_eq_0, j_lt_1, j_gt_1, j_le_1, j_ge_1, j_eq_1, j_lt_2, j_gt_2, j_le_2, j_ge_2, j_eq_2, j_lt_3, j_gt_3, j_le_3, j_ge_3, j_eq_3, j_lt_4, j_gt_4, j_le_4, j_ge_4, j_eq_4, j_lt_5, j_gt_5, j_le_5, j_ge_5, j_eq_5, j_lt_6, j_gt_6, j_le_6, j_ge_6, j_eq_6, j_lt_8, j_gt_8, j_le_8, j_ge_8, j_eq_8, j_lt_12, j_gt_12, j_le_12, j_ge_12, j_eq_12, j_lt_209, j_gt_209, j_le_209, j_ge_209, j_eq_209, j_lt_255, j_gt_255, j_le_255, j_ge_255, j_eq_255, j_lt_1000000000, j_gt_1000000000, j_le_1000000000, j_ge_1000000000, j_eq_1000000000, i_le, h1, kc_dx0 C W hs hb1, kc_dy0 C W hs hb1, e0, kc_ttb C W H hx hy X0 Y0, i_mul, i_add]
    rw [show f * 88 + s * 11 + b = f * 88 + (11 * s + b) by omega]
    obtain ⟨τ', l6', l7', e1, e2, e3, e4⟩ := ih (b + 1) (up2 τ (tg + 1) (f * 88 + (11 * s + b)) (Int32.ofNat (tbW P dwn (decide (pen = Int32.ofNat (pPen P s))) (wayN x y (dXn P s b 0) (dYn P s b 0))))) (.int (Int32.ofNat (dXn P s b 0))) (.int (Int32.ofNat (dYn P s b 0))) (by omega) (fun a ha => by rw [up2_row _ _ ha]; exact hF a ha)
    refine ⟨τ', l6', l7', e1, e2, fun b' a1 a2 => ?_, fun j hj => ?_⟩
    · by_cases e : b' = b
      · subst e
        rw [e4 _ (Or.inl (by omega)), up2_s]; rfl
      · exact e3 b' (by omega) a2
    · rw [e4 j (by omega), up2_n _ _ (by omega)]
theorem kc_row2 (ht : 296 ≤ tg) (C0 : ShC P fl σ) (W : Wf P) (ha : all < 256) (h9 : σ 46 9 = Int32.ofNat all) (hall : ∀ s, all.testBit s = true → s < pM P ∧ 2 ≤ pN P s) {x y f : Nat} {pen : Int32} {dwn : Bool} (H0 : HdC 47 σ x y pen dwn) (hx : x ≤ 500) (hy : y ≤ 500) (hf : f ≤ 88) : ∀ q s (τ : dSg) (l3 l4 l5 l6 l7 : Value), s + q = pM P → (∀ a, a ≠ tg + 1 → τ a = σ a) → ∃ τ', dX tb (d + 3) 16 2 [.ref 46, .int (Int32.ofNat f), .int (Int32.ofNat s), l3, l4, l5, l6, l7] [] (c, t, hp g (SH fl tg) τ) = some (none, (c, t, hp g (SH fl tg) (τ'))) ∧ (∀ a, a ≠ tg + 1 → τ' a = σ a) ∧ (∀ s' b', s ≤ s' → all.testBit s' = true → b' < bgn P s' → τ' (tg + 1) (f * 88 + (11 * s' + b')) = Int32.ofNat (vRow P x y pen dwn s' b')) ∧ ∀ j, (j < f * 88 + 11 * s ∨ f * 88 + 88 ≤ j) → τ' (tg + 1) j = τ (tg + 1) j := by
  have hm := W.1
  intro q
  induction q with
  | zero =>
    intro s τ l3 l4 l5 l6 l7 h hF
    have h1 : pM P ≤ s := by omega
    have C : ShC P fl τ := ShC_congr W C0 fun a ha => hF a (by omega)
    refine ⟨τ, ?_, hF, fun s' b' a1 a2 a3 => ?_, fun j _ => rfl⟩
    · rw [sg_X2_tellRow_2]
      simp (disch := omega) only [Option.bind_some, as_I, as_R, as_V, ct_t, ct_f, if_true, if_false, Bool.true_and, Bool.and_true, Bool.or_true, Bool.true_or, gi_1_3, gi_s, pi_1_3, pi_s, gr_0_0, gr_0_1, gr_0_2, gr_0_3, gr_1_0, gr_1_1, gr_1_2, gr_s_7, gr_s_8, gr_s_9, gr_s_10, ld_3, ld_4, ld_x, ld_y, ld_u, ld_v, sv_3, sv_4, sv_x, sv_y, sv_u, sv_v, is_0, is_1, is_s, lr_2, gi_45_0, gi_45_1, gi_45_2, gi_45_3, gi_47_0, gi_47_1, gi_47_2, gi_47_3, gi_46_8, gi_46_9, gi_46_10, gi_46_15, gi_46_16, pi_45_0, pi_45_1, pi_45_2, pi_45_3, pi_47_0, pi_47_1, pi_47_2, pi_47_3, pi_46_8, pi_46_9, pi_46_10, pi_46_15, pi_46_16, gr_46_0, gr_46_1, gr_46_2, gr_46_3, gr_46_4, gr_46_5, gr_46_6, gr_46_7, gr_46_11, gr_46_12, gr_46_13, gr_46_14, ld_50, ld_51, ld_52, ld_53, ld_54, ld_55, ld_56, ld_t, ld_b, sv_50, sv_51, sv_52, sv_53, sv_54, sv_55, sv_56, sv_t, sv_b, is_45, is_47, is_46, ia_0, ia_1, is_m0, is_m1, im_8, ml_8, im_11, ml_11, im_12, ml_12, im_88, ml_88, im_89, ml_89, j_lt_0, j_gt_0, j_le_0, j_ge_0, j_eq_0, j_lt_1, j_gt_1, j_le_1, j_ge_1, j_eq_1, j_lt_2, j_gt_2, j_le_2, j_ge_2, j_eq_2, j_lt_3, j_gt_3, j_le_3, j_ge_3, j_eq_3, j_lt_4, j_gt_4, j_le_4, j_ge_4, j_eq_4, j_lt_5, j_gt_5, j_le_5, j_ge_5, j_eq_5, j_lt_6, j_gt_6, j_le_6, j_ge_6, j_eq_6, j_lt_8, j_gt_8, j_le_8, j_ge_8, j_eq_8, j_lt_12, j_gt_12, j_le_12, j_ge_12, j_eq_12, j_lt_209, j_gt_209, j_le_209, j_ge_209, j_eq_209, j_lt_255, j_gt_255, j_le_255, j_ge_255, j_eq_255, j_lt_1000000000, j_gt_1000000000, j_le_1000000000, j_ge_1000000000, j_eq_1000000000, C.1, i_le, h1]
    · have := (hall s' a2).1; omega
  | succ q ih =>
    intro s τ l3 l4 l5 l6 l7 h hF
    have h1 : ¬ pM P ≤ s := by omega
    have hs : s < pM P := by omega
    have C : ShC P fl τ := ShC_congr W C0 fun a ha => hF a (by omega)
    have h9' : τ 46 9 = Int32.ofNat all := by rw [hF 46 (by omega)]; exact h9
    rw [sg_X2_tellRow_2]
    simp (disch := omega) only [Option.bind_some, as_I, as_R, as_V, ct_t, ct_f, if_true, if_false, Bool.true_and, Bool.and_true, Bool.or_true, Bool.true_or, gi_1_3, gi_s, pi_1_3, pi_s, gr_0_0, gr_0_1, gr_0_2, gr_0_3, gr_1_0, gr_1_1, gr_1_2, gr_s_7, gr_s_8, gr_s_9, gr_s_10, ld_3, ld_4, ld_x, ld_y, ld_u, ld_v, sv_3, sv_4, sv_x, sv_y, sv_u, sv_v, is_0, is_1, is_s, lr_2, gi_45_0, gi_45_1, gi_45_2, gi_45_3, gi_47_0, gi_47_1, gi_47_2, gi_47_3, gi_46_8, gi_46_9, gi_46_10, gi_46_15, gi_46_16, pi_45_0, pi_45_1, pi_45_2, pi_45_3, pi_47_0, pi_47_1, pi_47_2, pi_47_3, pi_46_8, pi_46_9, pi_46_10, pi_46_15, pi_46_16, gr_46_0, gr_46_1, gr_46_2, gr_46_3, gr_46_4, gr_46_5, gr_46_6, gr_46_7, gr_46_11, gr_46_12, gr_46_13, gr_46_14, ld_50, ld_51, ld_52, ld_53, ld_54, ld_55, ld_56, ld_t, ld_b, sv_50, sv_51, sv_52, sv_53, sv_54, sv_55, sv_56, sv_t, sv_b, is_45, is_47, is_46, ia_0, ia_1, is_m0, is_m1, im_8, ml_8, im_11, ml_11, im_12, ml_12, im_88, ml_88, im_89, ml_89, j_lt_0, j_gt_0, j_le_0, j_ge_0, j_eq_0, j_lt_1, j_gt_1, j_le_1, j_ge_1, j_eq_1, j_lt_2, j_gt_2, j_le_2, j_ge_2, j_eq_2, j_lt_3, j_gt_3, j_le_3, j_ge_3, j_eq_3, j_lt_4, j_gt_4, j_le_4, j_ge_4, j_eq_4, j_lt_5, j_gt_5, j_le_5, j_ge_5, j_eq_5, j_lt_6, j_gt_6, j_le_6, j_ge_6, j_eq_6, j_lt_8, j_gt_8, j_le_8, j_ge_8, j_eq_8, j_lt_12, j_gt_12, j_le_12, j_ge_12, j_eq_12, j_lt_209, j_gt_209, j_le_209, j_ge_209, j_eq_209, j_lt_255, j_gt_255, j_le_255, j_ge_255, j_eq_255, j_lt_1000000000, j_gt_1000000000, j_le_1000000000, j_ge_1000000000, j_eq_1000000000, C.1, i_le, h1, kc_isL ha h9', bI_0]
    cases hq : all.testBit s
    · rw [if_pos rfl]
      obtain ⟨τ', e1, e2, e3, e4⟩ := ih (s + 1) τ l3 l4 l5 l6 l7 (by omega) hF
      refine ⟨τ', e1, e2, fun s' b' a1 a2 a3 => ?_, fun j hj => e4 j (by omega)⟩
      by_cases e : s' = s
      · subst e; rw [hq] at a2; exact absurd a2 (by decide)
      · exact e3 s' b' (by omega) a2 a3
    · rw [if_neg (by decide)]
      obtain ⟨-, h2⟩ := hall s hq
      have h11 := bgn_11 W hs
      simp (disch := omega) only [Option.bind_some, as_I, as_R, as_V, ct_t, ct_f, if_true, if_false, Bool.true_and, Bool.and_true, Bool.or_true, Bool.true_or, gi_1_3, gi_s, pi_1_3, pi_s, gr_0_0, gr_0_1, gr_0_2, gr_0_3, gr_1_0, gr_1_1, gr_1_2, gr_s_7, gr_s_8, gr_s_9, gr_s_10, ld_3, ld_4, ld_x, ld_y, ld_u, ld_v, sv_3, sv_4, sv_x, sv_y, sv_u, sv_v, is_0, is_1, is_s, lr_2, gi_45_0, gi_45_1, gi_45_2, gi_45_3, gi_47_0, gi_47_1, gi_47_2, gi_47_3, gi_46_8, gi_46_9, gi_46_10, gi_46_15, gi_46_16, pi_45_0, pi_45_1, pi_45_2, pi_45_3, pi_47_0, pi_47_1, pi_47_2, pi_47_3, pi_46_8, pi_46_9, pi_46_10, pi_46_15, pi_46_16, gr_46_0, gr_46_1, gr_46_2, gr_46_3, gr_46_4, gr_46_5, gr_46_6, gr_46_7, gr_46_11, gr_46_12, gr_46_13, gr_46_14, ld_50, ld_51, ld_52, ld_53, ld_54, ld_55, ld_56, ld_t, ld_b, sv_50, sv_51, sv_52, sv_53, sv_54, sv_55, sv_56, sv_t, sv_b, is_45, is_47, is_46, ia_0, ia_1, is_m0, is_m1, im_8, ml_8, im_11, ml_11, im_12, ml_12, im_88, ml_88, im_89, ml_89, j_lt_0, j_gt_0, j_le_0, j_ge_0, j_eq_0, j_lt_1, j_gt_1, j_le_1, j_ge_1, j_eq_1, j_lt_2, j_gt_2, j_le_2, j_ge_2, j_eq_2, j_lt_3, j_gt_3, j_le_3, j_ge_3, j_eq_3, j_lt_4, j_gt_4, j_le_4, j_ge_4, j_eq_4, j_lt_5, j_gt_5, j_le_5, j_ge_5, j_eq_5, j_lt_6, j_gt_6, j_le_6, j_ge_6, j_eq_6, j_lt_8, j_gt_8, j_le_8, j_ge_8, j_eq_8, j_lt_12, j_gt_12, j_le_12, j_ge_12, j_eq_12, j_lt_209, j_gt_209, j_le_209, j_ge_209, j_eq_209, j_lt_255, j_gt_255, j_le_255, j_ge_255, j_eq_255, j_lt_1000000000, j_gt_1000000000, j_le_1000000000, j_ge_1000000000, j_eq_1000000000, kc_begs C W hs]
      rw [if_pos h2]
      obtain ⟨τ1, l6', l7', f1, f2, f3, f4⟩ := kc_row43 (tb := tb) (d := d) (c := c) (t := t) (g := g) (fl := fl) ht C0 W H0 hx hy hf hs h2 rfl (bgn P s) 0 τ l6 l7 (by omega) hF
      obtain ⟨τ', e1, e2, e3, e4⟩ := ih (s + 1) τ1 (.ref (5 + 5 * s)) (.int (Int32.ofNat (bgn P s))) (.int (Int32.ofNat (bgn P s))) l6' l7' (by omega) f2
      refine ⟨τ', f1.trans e1, e2, fun s' b' a1 a2 a3 => ?_, fun j hj => ?_⟩
      · by_cases e : s' = s
        · subst e
          rw [e4 _ (Or.inl (by omega))]
          exact f3 b' (by omega) a3
        · exact e3 s' b' (by omega) a2 a3
      · rw [e4 j (by omega)]
        exact f4 j (by omega)
theorem kc_row (ht : 296 ≤ tg) (C0 : ShC P fl σ) (W : Wf P) (ha : all < 256) (h9 : σ 46 9 = Int32.ofNat all) (hall : ∀ s, all.testBit s = true → s < pM P ∧ 2 ≤ pN P s) {x y f : Nat} {pen : Int32} {dwn : Bool} (H0 : HdC 47 σ x y pen dwn) (hx : x ≤ 500) (hy : y ≤ 500) (hf : f ≤ 88) : ∃ τ', dX tb (d + 3) 16 0 [.ref 46, .int (Int32.ofNat f), .null, .null, .null, .null, .null, .null] [] (c, t, hp g (SH fl tg) σ) = some (none, (c, t, hp g (SH fl tg) (τ'))) ∧ (∀ a, a ≠ tg + 1 → τ' a = σ a) ∧ (∀ s' b', all.testBit s' = true → b' < bgn P s' → τ' (tg + 1) (f * 88 + (11 * s' + b')) = Int32.ofNat (vRow P x y pen dwn s' b')) ∧ ∀ j, (j < f * 88 ∨ f * 88 + 88 ≤ j) → τ' (tg + 1) j = σ (tg + 1) j := by
  rw [sg_X2_tellRow_0]
  obtain ⟨τ', e1, e2, e3, e4⟩ := kc_row2 (tb := tb) (d := d) (c := c) (t := t) (g := g) (fl := fl) ht C0 W ha h9 hall H0 hx hy hf (pM P) 0 σ .null .null .null .null .null (by omega) (fun _ _ => rfl)
  exact ⟨τ', e1, e2, fun s' b' a1 a2 => e3 s' b' (by omega) a1 a2, fun j hj => e4 j (by omega)⟩
/-- the slots told so far -/
def SlI (P : dP) (A : dA) (all tg : Nat) (σ : dSg) (lim : Nat) : Prop := (∀ s b, all.testBit s = true → b < bgn P s → σ (tg + 1) (88 * 88 + (11 * s + b)) = Int32.ofNat (tbF P A 88 s b)) ∧ ∀ s b, all.testBit s = true → b < bgn P s → 11 * s + b < lim → σ 50 (11 * s + b) = Int32.ofNat (tkN P s b) ∧ ∀ s' b', all.testBit s' = true → b' < bgn P s' → σ (tg + 1) ((11 * s + b) * 88 + (11 * s' + b')) = Int32.ofNat (tbF P A (11 * s + b) s' b')
theorem kc_sl59 (ht : 296 ≤ tg) (C0 : ShC P fl σ) (W : Wf P) (ha : all < 256) (h9 : σ 46 9 = Int32.ofNat all) (hall : ∀ s, all.testBit s = true → s < pM P ∧ 2 ≤ pN P s) {s : Nat} (hq : all.testBit s = true) : ∀ q b (τ : dSg), b + q = bgn P s → (∀ a, a ≠ 47 → a ≠ 50 → a ≠ tg + 1 → τ a = σ a) → SlI P A all tg τ (11 * s + b) → ∃ τ', dX tb (d + 4) 15 59 [.ref 46, .int (Int32.ofNat s), .ref (5 + 5 * s), .int (Int32.ofNat (bgn P s)), .int (Int32.ofNat b)] [] (c, t, hp g (SH fl tg) τ) = dX tb (d + 4) 15 19 [.ref 46, .int (Int32.ofNat (s + 1)), .ref (5 + 5 * s), .int (Int32.ofNat (bgn P s)), .int (Int32.ofNat (bgn P s))] [] (c, t, hp g (SH fl tg) (τ')) ∧ (∀ a, a ≠ 47 → a ≠ 50 → a ≠ tg + 1 → τ' a = σ a) ∧ SlI P A all tg τ' (11 * (s + 1)) := by
  have hm := W.1
  obtain ⟨hs, h2⟩ := hall s hq
  have h11 := bgn_11 W hs
  have hn := (W.2.1 s hs).1
  intro q
  induction q with
  | zero =>
    intro b τ hb hF hI
    have h1 : bgn P s ≤ b := by omega
    refine ⟨τ, ?_, hF, hI.1, fun s' b' a1 a2 a3 => hI.2 s' b' a1 a2 ?_⟩
    · rw [sg_X2_tellSlots_59]
      simp (disch := omega) only [Option.bind_some, as_I, as_R, as_V, ct_t, ct_f, if_true, if_false, Bool.true_and, Bool.and_true, Bool.or_true, Bool.true_or, ia_0, ia_1, is_m0, is_m1, im_8, ml_8, im_11, ml_11, im_12, ml_12, im_88, ml_88, im_89, ml_89, j_lt_0, j_gt_0, j_le_0, j_ge_0, j_eq_0, j_lt_1, j_gt_1, j_le_1, j_ge_1, j_eq_1, j_lt_2, j_gt_2, j_le_2, j_ge_2, j_eq_2, j_lt_3, j_gt_3, j_le_3, j_ge_3, j_eq_3, j_lt_4, j_gt_4, j_le_4, j_ge_4, j_eq_4, j_lt_5, j_gt_5, j_le_5, j_ge_5, j_eq_5, j_lt_6, j_gt_6, j_le_6, j_ge_6, j_eq_6, j_lt_8, j_gt_8, j_le_8, j_ge_8, j_eq_8, j_lt_12, j_gt_12, j_le_12, j_ge_12, j_eq_12, j_lt_209, j_gt_209, j_le_209, j_ge_209, j_eq_209, j_lt_255, j_gt_255, j_le_255, j_ge_255, j_eq_255, j_lt_1000000000, j_gt_1000000000, j_le_1000000000, j_ge_1000000000, j_eq_1000000000, i_le, h1]
      rw [show b = bgn P s by omega]
    · have := bgn_11 W (hall s' a1).1
      by_cases e : s' = s
      · subst e; omega
      · omega
  | succ q ih =>
    intro b τ hb hF hI
    have h1 : ¬ bgn P s ≤ b := by omega
    have hb1 : b < bgn P s := by omega
    have C : ShC P fl τ := ShC_congr W C0 fun a ha => hF a (by omega) (by omega) (by omega)
    have C1 : ShC P fl (up2 τ 50 (s * 11 + b) (Int32.ofNat (tkN P s b))) := ShC_congr W C fun a ha => up2_row _ _ (by omega)
    obtain ⟨τ1, f1, f2, f3⟩ := kc_behind (tb := tb) (d := d + 1) (c := c) (t := t) (g := g) (fl := fl) (tg := tg) C1 W hs hb1 h2
    have C2 : ShC P fl τ1 := ShC_congr W C1 fun a ha => f3 a (by omega)
    have h92 : τ1 46 9 = Int32.ofNat all := by rw [f3 46 (by omega), up2_row _ _ (by omega), hF 46 (by omega) (by omega) (by omega)]; exact h9
    obtain ⟨τ2, g1, g2, g3, g4⟩ := kc_row (tb := tb) (d := d) (c := c) (t := t) (g := g) (fl := fl) (f := s * 11 + b) ht C2 W ha h92 hall f2 (dXn_le W hs (by omega)) (dYn_le W hs (by omega)) (by omega)
    rw [sg_X2_tellSlots_59]
    simp (disch := omega) only [Option.bind_some, as_I, as_R, as_V, ct_t, ct_f, if_true, if_false, Bool.true_and, Bool.and_true, Bool.or_true, Bool.true_or, gi_1_3, gi_s, pi_1_3, pi_s, gr_0_0, gr_0_1, gr_0_2, gr_0_3, gr_1_0, gr_1_1, gr_1_2, gr_s_7, gr_s_8, gr_s_9, gr_s_10, ld_3, ld_4, ld_x, ld_y, ld_u, ld_v, sv_3, sv_4, sv_x, sv_y, sv_u, sv_v, is_0, is_1, is_s, lr_2, gi_45_0, gi_45_1, gi_45_2, gi_45_3, gi_47_0, gi_47_1, gi_47_2, gi_47_3, gi_46_8, gi_46_9, gi_46_10, gi_46_15, gi_46_16, pi_45_0, pi_45_1, pi_45_2, pi_45_3, pi_47_0, pi_47_1, pi_47_2, pi_47_3, pi_46_8, pi_46_9, pi_46_10, pi_46_15, pi_46_16, gr_46_0, gr_46_1, gr_46_2, gr_46_3, gr_46_4, gr_46_5, gr_46_6, gr_46_7, gr_46_11, gr_46_12, gr_46_13, gr_46_14, ld_50, ld_51, ld_52, ld_53, ld_54, ld_55, ld_56, ld_t, ld_b, sv_50, sv_51, sv_52, sv_53, sv_54, sv_55, sv_56, sv_t, sv_b, is_45, is_47, is_46, ia_0, ia_1, is_m0, is_m1, im_8, ml_8, im_11, ml_11, im_12, ml_12, im_88, ml_88, im_89, ml_89, j_lt_0, j_gt_0, j_le_0, j_ge_0, j_eq_0, j_lt_1, j_gt_1, j_le_1, j_ge_1, j_eq_1, j_lt_2, j_gt_2, j_le_2, j_ge_2, j_eq_2, j_lt_3, j_gt_3, j_le_3, j_ge_3, j_eq_3, j_lt_4, j_gt_4, j_le_4, j_ge_4, j_eq_4, j_lt_5, j_gt_5, j_le_5, j_ge_5, j_eq_5, j_lt_6, j_gt_6, j_le_6, j_ge_6, j_eq_6, j_lt_8, j_gt_8, j_le_8, j_ge_8, j_eq_8, j_lt_12, j_gt_12, j_le_12, j_ge_12, j_eq_12, j_lt_209, j_gt_209, j_le_209, j_ge_209, j_eq_209, j_lt_255, j_gt_255, j_le_255, j_ge_255, j_eq_255, j_lt_1000000000, j_gt_1000000000, j_le_1000000000, j_ge_1000000000, j_eq_1000000000, i_le, h1, kc_ticks C W hs hb1 h2, i_mul, i_add, f1, g1]
    refine ih (b + 1) τ2 (by omega) (fun a a1 a2 a3 => by rw [g2 a a3, f3 a a1, up2_row _ _ a2]; exact hF a a1 a2 a3) ⟨fun s' b' a1 a2 => ?_, fun s' b' a1 a2 a3 => ?_⟩
    · have := (hall s' a1).1
      have := bgn_11 W this
      rw [g4 _ (by omega), f3 _ (by omega), up2_row _ _ (by omega)]
      exact hI.1 s' b' a1 a2
    · have hs' := (hall s' a1).1
      have h11' := bgn_11 W hs'
      by_cases e : 11 * s' + b' = 11 * s + b
      · have e1 : s' = s := by omega
        have e2 : b' = b := by omega
        subst e1; subst e2
        refine ⟨?_, fun s2 b2 c1 c2 => ?_⟩
        · rw [g2 50 (by omega), f3 50 (by omega), show 11 * s' + b' = s' * 11 + b' by omega, up2_s]
        · rw [show (11 * s' + b') * 88 = (s' * 11 + b') * 88 by omega, g3 s2 b2 c1 c2]
          unfold tbF vRow
          rw [if_neg (by omega), show (11 * s' + b') / 11 = s' by omega, show (11 * s' + b') % 11 = b' by omega]
          congr 2
          refine decide_eq_decide.mpr ?_
          rw [i_eq (by have := (W.2.1 s' hs').2.1; omega) (by have := (W.2.1 s2 (hall s2 c1).1).2.1; omega)]
      · have old := hI.2 s' b' a1 a2 (by omega)
        refine ⟨?_, fun s2 b2 c1 c2 => ?_⟩
        · rw [g2 50 (by omega), f3 50 (by omega), up2_n _ _ (by omega)]; exact old.1
        · have := bgn_11 W (hall s2 c1).1
          have := (hall s2 c1).1
          rw [g4 _ (by omega), f3 _ (by omega), up2_row _ _ (by omega)]
          exact old.2 s2 b2 c1 c2
theorem kc_sl19 (ht : 296 ≤ tg) (C0 : ShC P fl σ) (W : Wf P) (ha : all < 256) (h9 : σ 46 9 = Int32.ofNat all) (hall : ∀ s, all.testBit s = true → s < pM P ∧ 2 ≤ pN P s) : ∀ q s (τ : dSg) (l2 l3 l4 : Value), s + q = pM P → (∀ a, a ≠ 47 → a ≠ 50 → a ≠ tg + 1 → τ a = σ a) → SlI P A all tg τ (11 * s) → ∃ τ', dX tb (d + 4) 15 19 [.ref 46, .int (Int32.ofNat s), l2, l3, l4] [] (c, t, hp g (SH fl tg) τ) = some (none, (c, t, hp g (SH fl tg) (τ'))) ∧ (∀ a, a ≠ 47 → a ≠ 50 → a ≠ tg + 1 → τ' a = σ a) ∧ SlI P A all tg τ' 88 := by
  have hm := W.1
  intro q
  induction q with
  | zero =>
    intro s τ l2 l3 l4 h hF hI
    have h1 : pM P ≤ s := by omega
    have C : ShC P fl τ := ShC_congr W C0 fun a ha => hF a (by omega) (by omega) (by omega)
    refine ⟨τ, ?_, hF, hI.1, fun s' b' a1 a2 a3 => hI.2 s' b' a1 a2 (by have h3 := (hall s' a1).1; have := bgn_11 W h3; omega)⟩
    rw [sg_X2_tellSlots_19]
    simp (disch := omega) only [Option.bind_some, as_I, as_R, as_V, ct_t, ct_f, if_true, if_false, Bool.true_and, Bool.and_true, Bool.or_true, Bool.true_or, gi_1_3, gi_s, pi_1_3, pi_s, gr_0_0, gr_0_1, gr_0_2, gr_0_3, gr_1_0, gr_1_1, gr_1_2, gr_s_7, gr_s_8, gr_s_9, gr_s_10, ld_3, ld_4, ld_x, ld_y, ld_u, ld_v, sv_3, sv_4, sv_x, sv_y, sv_u, sv_v, is_0, is_1, is_s, lr_2, gi_45_0, gi_45_1, gi_45_2, gi_45_3, gi_47_0, gi_47_1, gi_47_2, gi_47_3, gi_46_8, gi_46_9, gi_46_10, gi_46_15, gi_46_16, pi_45_0, pi_45_1, pi_45_2, pi_45_3, pi_47_0, pi_47_1, pi_47_2, pi_47_3, pi_46_8, pi_46_9, pi_46_10, pi_46_15, pi_46_16, gr_46_0, gr_46_1, gr_46_2, gr_46_3, gr_46_4, gr_46_5, gr_46_6, gr_46_7, gr_46_11, gr_46_12, gr_46_13, gr_46_14, ld_50, ld_51, ld_52, ld_53, ld_54, ld_55, ld_56, ld_t, ld_b, sv_50, sv_51, sv_52, sv_53, sv_54, sv_55, sv_56, sv_t, sv_b, is_45, is_47, is_46, ia_0, ia_1, is_m0, is_m1, im_8, ml_8, im_11, ml_11, im_12, ml_12, im_88, ml_88, im_89, ml_89, j_lt_0, j_gt_0, j_le_0, j_ge_0, j_eq_0, j_lt_1, j_gt_1, j_le_1, j_ge_1, j_eq_1, j_lt_2, j_gt_2, j_le_2, j_ge_2, j_eq_2, j_lt_3, j_gt_3, j_le_3, j_ge_3, j_eq_3, j_lt_4, j_gt_4, j_le_4, j_ge_4, j_eq_4, j_lt_5, j_gt_5, j_le_5, j_ge_5, j_eq_5, j_lt_6, j_gt_6, j_le_6, j_ge_6, j_eq_6, j_lt_8, j_gt_8, j_le_8, j_ge_8, j_eq_8, j_lt_12, j_gt_12, j_le_12, j_ge_12, j_eq_12, j_lt_209, j_gt_209, j_le_209, j_ge_209, j_eq_209, j_lt_255, j_gt_255, j_le_255, j_ge_255, j_eq_255, j_lt_1000000000, j_gt_1000000000, j_le_1000000000, j_ge_1000000000, j_eq_1000000000, C.1, i_le, h1]
  | succ q ih =>
    intro s τ l2 l3 l4 h hF hI
    have h1 : ¬ pM P ≤ s := by omega
    have hs : s < pM P := by omega
    have C : ShC P fl τ := ShC_congr W C0 fun a ha => hF a (by omega) (by omega) (by omega)
    have h9' : τ 46 9 = Int32.ofNat all := by rw [hF 46 (by omega) (by omega) (by omega)]; exact h9
    rw [sg_X2_tellSlots_19]
    simp (disch := omega) only [Option.bind_some, as_I, as_R, as_V, ct_t, ct_f, if_true, if_false, Bool.true_and, Bool.and_true, Bool.or_true, Bool.true_or, gi_1_3, gi_s, pi_1_3, pi_s, gr_0_0, gr_0_1, gr_0_2, gr_0_3, gr_1_0, gr_1_1, gr_1_2, gr_s_7, gr_s_8, gr_s_9, gr_s_10, ld_3, ld_4, ld_x, ld_y, ld_u, ld_v, sv_3, sv_4, sv_x, sv_y, sv_u, sv_v, is_0, is_1, is_s, lr_2, gi_45_0, gi_45_1, gi_45_2, gi_45_3, gi_47_0, gi_47_1, gi_47_2, gi_47_3, gi_46_8, gi_46_9, gi_46_10, gi_46_15, gi_46_16, pi_45_0, pi_45_1, pi_45_2, pi_45_3, pi_47_0, pi_47_1, pi_47_2, pi_47_3, pi_46_8, pi_46_9, pi_46_10, pi_46_15, pi_46_16, gr_46_0, gr_46_1, gr_46_2, gr_46_3, gr_46_4, gr_46_5, gr_46_6, gr_46_7, gr_46_11, gr_46_12, gr_46_13, gr_46_14, ld_50, ld_51, ld_52, ld_53, ld_54, ld_55, ld_56, ld_t, ld_b, sv_50, sv_51, sv_52, sv_53, sv_54, sv_55, sv_56, sv_t, sv_b, is_45, is_47, is_46, ia_0, ia_1, is_m0, is_m1, im_8, ml_8, im_11, ml_11, im_12, ml_12, im_88, ml_88, im_89, ml_89, j_lt_0, j_gt_0, j_le_0, j_ge_0, j_eq_0, j_lt_1, j_gt_1, j_le_1, j_ge_1, j_eq_1, j_lt_2, j_gt_2, j_le_2, j_ge_2, j_eq_2, j_lt_3, j_gt_3, j_le_3, j_ge_3, j_eq_3, j_lt_4, j_gt_4, j_le_4, j_ge_4, j_eq_4, j_lt_5, j_gt_5, j_le_5, j_ge_5, j_eq_5, j_lt_6, j_gt_6, j_le_6, j_ge_6, j_eq_6, j_lt_8, j_gt_8, j_le_8, j_ge_8, j_eq_8, j_lt_12, j_gt_12, j_le_12, j_ge_12, j_eq_12, j_lt_209, j_gt_209, j_le_209, j_ge_209, j_eq_209, j_lt_255, j_gt_255, j_le_255, j_ge_255, j_eq_255, j_lt_1000000000, j_gt_1000000000, j_le_1000000000, j_ge_1000000000, j_eq_1000000000, C.1, i_le, h1, kc_isL ha h9', bI_0]
    cases hq : all.testBit s
    · rw [if_pos rfl]
      refine ih (s + 1) τ l2 l3 l4 (by omega) hF ⟨hI.1, fun s' b' a1 a2 a3 => hI.2 s' b' a1 a2 ?_⟩
      have := bgn_11 W (hall s' a1).1
      by_cases e : s' = s
      · subst e; rw [hq] at a1; exact absurd a1 (by decide)
      · omega
    · rw [if_neg (by decide)]
      obtain ⟨-, h2⟩ := hall s hq
      simp (disch := omega) only [Option.bind_some, as_I, as_R, as_V, ct_t, ct_f, if_true, if_false, Bool.true_and, Bool.and_true, Bool.or_true, Bool.true_or, gi_1_3, gi_s, pi_1_3, pi_s, gr_0_0, gr_0_1, gr_0_2, gr_0_3, gr_1_0, gr_1_1, gr_1_2, gr_s_7, gr_s_8, gr_s_9, gr_s_10, ld_3, ld_4, ld_x, ld_y, ld_u, ld_v, sv_3, sv_4, sv_x, sv_y, sv_u, sv_v, is_0, is_1, is_s, lr_2, gi_45_0, gi_45_1, gi_45_2, gi_45_3, gi_47_0, gi_47_1, gi_47_2, gi_47_3, gi_46_8, gi_46_9, gi_46_10, gi_46_15, gi_46_16, pi_45_0, pi_45_1, pi_45_2, pi_45_3, pi_47_0, pi_47_1, pi_47_2, pi_47_3, pi_46_8, pi_46_9, pi_46_10, pi_46_15, pi_46_16, gr_46_0, gr_46_1, gr_46_2, gr_46_3, gr_46_4, gr_46_5, gr_46_6, gr_46_7, gr_46_11, gr_46_12, gr_46_13, gr_46_14, ld_50, ld_51, ld_52, ld_53, ld_54, ld_55, ld_56, ld_t, ld_b, sv_50, sv_51, sv_52, sv_53, sv_54, sv_55, sv_56, sv_t, sv_b, is_45, is_47, is_46, ia_0, ia_1, is_m0, is_m1, im_8, ml_8, im_11, ml_11, im_12, ml_12, im_88, ml_88, im_89, ml_89, j_lt_0, j_gt_0, j_le_0, j_ge_0, j_eq_0, j_lt_1, j_gt_1, j_le_1, j_ge_1, j_eq_1, j_lt_2, j_gt_2, j_le_2, j_ge_2, j_eq_2, j_lt_3, j_gt_3, j_le_3, j_ge_3, j_eq_3, j_lt_4, j_gt_4, j_le_4, j_ge_4, j_eq_4, j_lt_5, j_gt_5, j_le_5, j_ge_5, j_eq_5, j_lt_6, j_gt_6, j_le_6, j_ge_6, j_eq_6, j_lt_8, j_gt_8, j_le_8, j_ge_8, j_eq_8, j_lt_12, j_gt_12, j_le_12, j_ge_12, j_eq_12, j_lt_209, j_gt_209, j_le_209, j_ge_209, j_eq_209, j_lt_255, j_gt_255, j_le_255, j_ge_255, j_eq_255, j_lt_1000000000, j_gt_1000000000, j_le_1000000000, j_ge_1000000000, j_eq_1000000000, kc_begs C W hs]
      rw [if_pos h2]
      obtain ⟨τ1, f1, f2, f3⟩ := kc_sl59 (tb := tb) (d := d) (c := c) (t := t) (g := g) (fl := fl) ht C0 W ha h9 hall hq (bgn P s) 0 τ (by omega) hF hI
      obtain ⟨τ', e1, e2⟩ := ih (s + 1) τ1 _ _ _ (by omega) f2 f3
      exact ⟨τ', f1.trans e1, e2⟩
theorem kc_slots (ht : 296 ≤ tg) (C0 : ShC P fl σ) (W : Wf P) (ha : all < 256) (h9 : σ 46 9 = Int32.ofNat all) (hall : ∀ s, all.testBit s = true → s < pM P ∧ 2 ≤ pN P s) (H : HdC 45 σ A.1 A.2.1 A.2.2 false) (hx : A.1 ≤ 500) (hy : A.2.1 ≤ 500) : ∃ τ', dX tb (d + 4) 15 0 [.ref 46, .null, .null, .null, .null] [] (c, t, hp g (SH fl tg) σ) = some (none, (c, t, hp g (SH fl tg) (τ'))) ∧ (∀ a, a ≠ 47 → a ≠ 50 → a ≠ tg + 1 → τ' a = σ a) ∧ SlI P A all tg τ' 88 := by
  obtain ⟨τ1, f1, f2, f3⟩ := kc_like (tb := tb) (d := d + 3) (c := c) (t := t) (g := g) (fl := fl) (tg := tg) H
  have C1 : ShC P fl τ1 := ShC_congr W C0 fun a ha => f3 a (by omega)
  have h91 : τ1 46 9 = Int32.ofNat all := by rw [f3 46 (by omega)]; exact h9
  obtain ⟨τ2, g1, g2, g3, g4⟩ := kc_row (tb := tb) (d := d) (c := c) (t := t) (g := g) (fl := fl) (f := 88) ht C1 W ha h91 hall f2 hx hy (by omega)
  have g1' : dX tb (d + 3) 16 0 [.ref 46, .int 88, .null, .null, .null, .null, .null, .null] [] (c, t, hp g (SH fl tg) τ1) = some (none, (c, t, hp g (SH fl tg) τ2)) := g1
  rw [sg_X2_tellSlots_0]
  simp only [Option.bind_some, as_I, as_R, as_V, ct_t, ct_f, if_true, if_false, Bool.true_and, Bool.and_true, Bool.or_true, Bool.true_or, gi_1_3, gi_s, pi_1_3, pi_s, gr_0_0, gr_0_1, gr_0_2, gr_0_3, gr_1_0, gr_1_1, gr_1_2, gr_s_7, gr_s_8, gr_s_9, gr_s_10, ld_3, ld_4, ld_x, ld_y, ld_u, ld_v, sv_3, sv_4, sv_x, sv_y, sv_u, sv_v, is_0, is_1, is_s, lr_2, gi_45_0, gi_45_1, gi_45_2, gi_45_3, gi_47_0, gi_47_1, gi_47_2, gi_47_3, gi_46_8, gi_46_9, gi_46_10, gi_46_15, gi_46_16, pi_45_0, pi_45_1, pi_45_2, pi_45_3, pi_47_0, pi_47_1, pi_47_2, pi_47_3, pi_46_8, pi_46_9, pi_46_10, pi_46_15, pi_46_16, gr_46_0, gr_46_1, gr_46_2, gr_46_3, gr_46_4, gr_46_5, gr_46_6, gr_46_7, gr_46_11, gr_46_12, gr_46_13, gr_46_14, ld_50, ld_51, ld_52, ld_53, ld_54, ld_55, ld_56, ld_t, ld_b, sv_50, sv_51, sv_52, sv_53, sv_54, sv_55, sv_56, sv_t, sv_b, is_45, is_47, is_46, f1, g1']
  obtain ⟨τ', e1, e2⟩ := kc_sl19 (tb := tb) (d := d) (c := c) (t := t) (g := g) (fl := fl) (A := A) ht C0 W ha h9 hall (pM P) 0 τ2 .null .null .null (by omega) (fun a a1 a2 a3 => by rw [g2 a a3, f3 a a1]) ⟨fun s b a1 a2 => by
    rw [g3 s b a1 a2]
    unfold tbF vRow
    rw [if_pos rfl], fun s b a1 a2 a3 => by omega⟩
  exact ⟨τ', e1, e2⟩
end CRW
