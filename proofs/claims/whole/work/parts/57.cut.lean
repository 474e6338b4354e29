/-! A STROKE CUT: on both sides -/
section CUT
def cutP (P : dP) (s b j : Nat) : dP := (P.1, fun v => if v = s then pN P s - j else P.2.1 v, fun v k => if v = s then dXn P s b (j + k) else P.2.2.1 v k, fun v k => if v = s then dYn P s b (j + k) else P.2.2.2.1 v k, P.2.2.2.2.1, P.2.2.2.2.2.1, P.2.2.2.2.2.2.1, fun v => if v = s then true else P.2.2.2.2.2.2.2.1 v, P.2.2.2.2.2.2.2.2.1, P.2.2.2.2.2.2.2.2.2)
variable {tb : dT} {d c t : Nat} {g : Nat → Option dE} {fl : Nat → Bool} {tg : Nat} {σ : dSg} {P : dP} {A : dA}
theorem cutP_N {s b j : Nat} (v : Nat) : pN (cutP P s b j) v = if v = s then pN P s - j else pN P v := rfl
theorem cutP_X {s b j : Nat} (v k : Nat) : pX (cutP P s b j) v k = if v = s then dXn P s b (j + k) else pX P v k := rfl
theorem cutP_Y {s b j : Nat} (v k : Nat) : pY (cutP P s b j) v k = if v = s then dYn P s b (j + k) else pY P v k := rfl
theorem cutP_C {s b j : Nat} (v : Nat) : pCut (cutP P s b j) v = if v = s then true else pCut P v := rfl
theorem cutP_clo {s b j : Nat} (v : Nat) : clo (cutP P s b j) v = if v = s then false else clo P v := by
  unfold clo
  by_cases h : v = s
  · rw [if_pos h, cutP_C, if_pos h]; rfl
  · rw [if_neg h, cutP_C, if_neg h, cutP_N, if_neg h, cutP_X, if_neg h, cutP_X, if_neg h, cutP_Y, if_neg h, cutP_Y, if_neg h]
theorem cutP_Wf (W : Wf P) {s b j : Nat} (hs : s < pM P) (hb : b < bgn P s) (h2 : 2 ≤ pN P s) (hj : j < pN P s) : Wf (cutP P s b j) := by
  refine ⟨W.1, fun v hv => ?_, W.2.2⟩
  have hw := W.2.1 v hv
  refine ⟨?_, hw.2.1, hw.2.2.1, fun k hk => ?_, fun k hk => ?_⟩
  · rw [cutP_N]
    have := (W.2.1 s hs).1
    split
    · omega
    · exact hw.1
  · rw [cutP_N] at hk
    rw [cutP_X, cutP_Y]
    by_cases h : v = s
    · rw [if_pos h] at hk
      rw [if_pos h, if_pos h]
      exact ⟨dXn_le W hs (by omega), dYn_le W hs (by omega)⟩
    · rw [if_neg h] at hk
      rw [if_neg h, if_neg h]
      exact hw.2.2.2.1 k hk
  · rw [cutP_N] at hk
    rw [cutP_X, cutP_X, cutP_Y, cutP_Y]
    by_cases h : v = s
    · rw [if_pos h] at hk
      rw [if_pos h, if_pos h, if_pos h, if_pos h]
      have hd := (W.2.1 s hs).2.2.2.2
      have ek : j + (k + 1) = j + k + 1 := by omega
      rw [ek]
      unfold dXn dYn drw
      cases hc : clo P s
      · rw [cond_false, cond_false]
        by_cases h0 : b = 0
        · rw [if_pos h0, if_pos h0]; exact hd (j + k) (by omega)
        · rw [if_neg h0, if_neg h0]
          have := hd (pN P s - 1 - (j + k + 1)) (by omega)
          rw [show pN P s - 1 - (j + k + 1) + 1 = pN P s - 1 - (j + k) by omega] at this
          exact this.imp Ne.symm Ne.symm
      · rw [cond_true, cond_true]
        have h4 := clo_n hc
        have hb2 : b < pN P s - 1 := by unfold bgn at hb; rw [hc] at hb; exact hb
        by_cases q : b + (j + k) + 1 < pN P s - 1
        · rw [Nat.mod_eq_of_lt (by omega), Nat.mod_eq_of_lt (by omega)]
          have := hd (b + (j + k)) (by omega)
          rw [show b + (j + k + 1) = b + (j + k) + 1 by omega]
          exact this
        · by_cases q2 : b + (j + k) + 1 = pN P s - 1
          · rw [Nat.mod_eq_of_lt (show b + (j + k) < pN P s - 1 by omega), show b + (j + k + 1) = pN P s - 1 by omega, Nat.mod_self]
            have := hd (b + (j + k)) (by omega)
            rw [show b + (j + k) + 1 = pN P s - 1 by omega] at this
            unfold clo at hc
            simp only [Bool.and_eq_true, decide_eq_true_eq] at hc
            rw [hc.2.2.1, hc.2.2.2]
            exact this
          · rw [Nat.mod_eq_sub_mod (by omega), Nat.mod_eq_of_lt (by omega), Nat.mod_eq_sub_mod (show pN P s - 1 ≤ b + (j + k + 1) by omega), Nat.mod_eq_of_lt (by omega)]
            have := hd (b + (j + k) - (pN P s - 1)) (by omega)
            rw [show b + (j + k + 1) - (pN P s - 1) = b + (j + k) - (pN P s - 1) + 1 by omega]
            exact this
    · rw [if_neg h] at hk
      rw [if_neg h, if_neg h, if_neg h, if_neg h]
      exact hw.2.2.2.2 k hk
theorem uA_r (fl : Nat → Bool) (s : Nat) : (uA fl s = 6 + 5 * s ∧ xA fl s = 8 + 5 * s) ∨ (uA fl s = 8 + 5 * s ∧ xA fl s = 6 + 5 * s) := by unfold uA xA; cases fl s; exact Or.inr ⟨rfl, rfl⟩; exact Or.inl ⟨rfl, rfl⟩
theorem vA_r (fl : Nat → Bool) (s : Nat) : (vA fl s = 7 + 5 * s ∧ yA fl s = 9 + 5 * s) ∨ (vA fl s = 9 + 5 * s ∧ yA fl s = 7 + 5 * s) := by unfold vA yA; cases fl s; exact Or.inr ⟨rfl, rfl⟩; exact Or.inl ⟨rfl, rfl⟩
def flip1 (fl : Nat → Bool) (s : Nat) : Nat → Bool := fun v => if v = s then !fl v else fl v
theorem flip_x (s : Nat) : xA (flip1 fl s) s = uA fl s ∧ yA (flip1 fl s) s = vA fl s ∧ uA (flip1 fl s) s = xA fl s ∧ vA (flip1 fl s) s = yA fl s := by
  unfold xA yA uA vA flip1
  rw [if_pos rfl]
  cases fl s <;> exact ⟨rfl, rfl, rfl, rfl⟩
theorem flip_o {s v : Nat} (h : v ≠ s) : xA (flip1 fl s) v = xA fl v ∧ yA (flip1 fl s) v = yA fl v ∧ uA (flip1 fl s) v = uA fl v ∧ vA (flip1 fl s) v = vA fl v := by
  unfold xA yA uA vA flip1
  rw [if_neg h]
  exact ⟨rfl, rfl, rfl, rfl⟩
theorem va_again {α : Type} (f : Nat → Option α) (a : Nat) (x y : Option α) : va_up (va_up f a x) a y = va_up f a y := by
  funext b
  by_cases h : b = a
  · subst h; rw [va_up_self, va_up_self]
  · rw [va_up_ne _ _ h, va_up_ne _ _ h, va_up_ne _ _ h]
theorem SH_flip {s : Nat} (hs : s < 8) : va_up (SH fl tg) (5 + 5 * s) (some (.inr (.inl (5, [none, none, none, none, none, none, none, some (uA fl s), some (vA fl s), some (xA fl s), some (yA fl s)])))) = SH (flip1 fl s) tg := by
  funext a
  by_cases h : a = 5 + 5 * s
  · subst h
    obtain ⟨e1, e2, e3, e4⟩ := flip_x (fl := fl) s
    rw [va_up_self, SH_stroke hs, e1, e2, e3, e4]
  · rw [va_up_ne _ _ h]
    unfold SH
    by_cases q : a < 45 ∧ 5 ≤ a
    · rw [show Nat.blt a 5 = false from blt_f (by omega), show Nat.blt a 45 = true from Nat.blt_eq.mpr q.1]
      show some (sh_1 fl ((a - 5) / 5) ((a - 5) % 5)) = some (sh_1 (flip1 fl s) ((a - 5) / 5) ((a - 5) % 5))
      cases hr : (a - 5) % 5 with
      | zero =>
        have hne : (a - 5) / 5 ≠ s := by omega
        obtain ⟨e1, e2, e3, e4⟩ := flip_o (fl := fl) hne
        show some (Sum.inr (Sum.inl (5, _))) = some (Sum.inr (Sum.inl (5, _)))
        rw [e1, e2, e3, e4]
      | succ m => rfl
    · by_cases q2 : a < 5
      · rw [show Nat.blt a 5 = true from Nat.blt_eq.mpr q2]; rfl
      · rw [show Nat.blt a 5 = false from blt_f (by omega), show Nat.blt a 45 = false from blt_f (by omega)]; rfl
theorem kc_kfL (C : ShC P fl σ) (W : Wf P) {s b j : Nat} (hs : s < pM P) (hb : b < bgn P s) (h2 : 2 ≤ pN P s) {l5 : Value} {l2 : Int32} : ∀ q i (τ : dSg), j + i + q = pN P s → (∀ a, a ≠ uA fl s → a ≠ vA fl s → τ a = σ a) → (∀ k, k < i → τ (uA fl s) k = Int32.ofNat (dXn P s b (j + k)) ∧ τ (vA fl s) k = Int32.ofNat (dYn P s b (j + k))) → ∃ τ', dX tb (d + 2) 65 5 [.ref (5 + 5 * s), .int (Int32.ofNat b), .int l2, .int (Int32.ofNat i), .int (Int32.ofNat (j + i)), l5] [] (c, t, hp g (SH fl tg) τ) = dX tb (d + 2) 65 5 [.ref (5 + 5 * s), .int (Int32.ofNat b), .int l2, .int (Int32.ofNat (pN P s - j)), .int (Int32.ofNat (pN P s)), l5] [] (c, t, hp g (SH fl tg) (τ')) ∧ (∀ a, a ≠ uA fl s → a ≠ vA fl s → τ' a = σ a) ∧ ∀ k, k < pN P s - j → τ' (uA fl s) k = Int32.ofNat (dXn P s b (j + k)) ∧ τ' (vA fl s) k = Int32.ofNat (dYn P s b (j + k)) := by
  have hm := W.1
  have hn := (W.2.1 s hs).1
  have r1 := uA_r fl s
  have r2 := vA_r fl s
  intro q
  induction q with
  | zero =>
    intro i τ hq hF hk
    rw [show pN P s - j = i by omega, show pN P s = j + i by omega]
    exact ⟨τ, rfl, hF, hk⟩
  | succ q ih =>
    intro i τ hq hF hk
    have ne : ∀ a, a < 45 → a ≠ uA fl s → a ≠ vA fl s → τ a = σ a := fun a _ => hF a
    have cc : ∀ υ : dSg, (∀ a, a ≠ uA fl s → a ≠ vA fl s → υ a = σ a) → ShC P fl υ := by
      intro υ hυ
      refine ⟨by rw [hυ 1 (by omega) (by omega)]; exact C.1, fun k hk => by rw [hυ 4 (by omega) (by omega)]; exact C.2.1 k hk, fun v hv => ?_, fun v hv => by rw [hυ 3 (by omega) (by omega)]; exact C.2.2.2 v hv⟩
      have rx := uA_r fl v
      have ry := vA_r fl v
      obtain ⟨a0, a1, a2, a4, a5, a6⟩ := C.2.2.1 v hv
      have e5 := hυ (5 + 5 * v) (by omega) (by omega)
      have nx : xA fl v ≠ uA fl s ∧ xA fl v ≠ vA fl s ∧ yA fl v ≠ uA fl s ∧ yA fl v ≠ vA fl s := by
        by_cases e : v = s
        · subst e; omega
        · omega
      have ex := hυ (xA fl v) nx.1 nx.2.1
      have ey := hυ (yA fl v) nx.2.2.1 nx.2.2.2
      unfold StC
      rw [e5, ex, ey]
      exact ⟨a0, a1, a2, a4, a5, a6⟩
    have C1 := cc τ hF
    have C2 := cc (up2 τ (uA fl s) i (Int32.ofNat (dXn P s b (j + i)))) (fun a h1 h2 => by rw [up2_row _ _ h1]; exact hF a h1 h2)
    have e2 := (C1.2.2.1 s hs).2.2.1
    have h1 : ¬ pN P s ≤ j + i := by omega
    obtain ⟨τ', x1, x2, x3⟩ := ih (i + 1) (up2 (up2 τ (uA fl s) i (Int32.ofNat (dXn P s b (j + i)))) (vA fl s) i (Int32.ofNat (dYn P s b (j + i)))) (by omega) (fun a h1 h2 => by rw [up2_row _ _ h2, up2_row _ _ h1]; exact hF a h1 h2) (fun k hk2 => by
      by_cases e : k = i
      · subst e
        rw [up2_n _ _ (by omega), up2_s, up2_s]
        exact ⟨rfl, rfl⟩
      · rw [up2_n _ _ (by omega), up2_n _ _ (by omega), up2_n _ _ (by omega), up2_n _ _ (by omega)]
        exact hk k (by omega))
    refine ⟨τ', ?_, x2, x3⟩
    rw [sg_X5_keepFrom_5]
    simp (disch := omega) only [bq_s, aq_I, aq_R, aq_V, cq_t, cq_f, if_true, if_false, Bool.true_and, Bool.and_true, Bool.or_true, Bool.true_or, gi_1_3, gi_s, pi_1_3, pi_s, gr_0_0, gr_0_1, gr_0_2, gr_0_3, gr_1_0, gr_1_1, gr_1_2, gr_s_7, gr_s_8, gr_s_9, gr_s_10, ld_3, ld_4, ld_x, ld_y, ld_u, ld_v, sv_3, sv_4, sv_x, sv_y, sv_u, sv_v, is_0, is_1, is_s, lr_2, ia_0, ia_1, is_m0, is_m1, im_8, ml_8, im_11, ml_11, im_12, ml_12, im_88, ml_88, im_89, ml_89, j_lt_0, j_gt_0, j_le_0, j_ge_0, j_eq_0, j_lt_1, j_gt_1, j_le_1, j_ge_1, j_eq_1, j_lt_2, j_gt_2, j_le_2, j_ge_2, j_eq_2, j_lt_3, j_gt_3, j_le_3, j_ge_3, j_eq_3, j_lt_4, j_gt_4, j_le_4, j_ge_4, j_eq_4, j_lt_5, j_gt_5, j_le_5, j_ge_5, j_eq_5, j_lt_6, j_gt_6, j_le_6, j_ge_6, j_eq_6, j_lt_8, j_gt_8, j_le_8, j_ge_8, j_eq_8, j_lt_12, j_gt_12, j_le_12, j_ge_12, j_eq_12, j_lt_209, j_gt_209, j_le_209, j_ge_209, j_eq_209, j_lt_255, j_gt_255, j_le_255, j_ge_255, j_eq_255, j_lt_1000000000, j_gt_1000000000, j_le_1000000000, j_ge_1000000000, j_eq_1000000000, e2, i_le, h1, kc_dx C1 W hs hb, kc_dy C2 W hs hb]
    exact x1
theorem kc_kf (C : ShC P fl σ) (W : Wf P) {s b j : Nat} (hs : s < pM P) (hb : b < bgn P s) (h2 : 2 ≤ pN P s) (hj : j + 1 < pN P s) : ∃ τ, dX tb (d + 2) 65 0 [.ref (5 + 5 * s), .int (Int32.ofNat b), .int (Int32.ofNat j), .null, .null, .null] [] (c, t, hp g (SH fl tg) σ) = some (none, (c, t, hp g (SH (flip1 fl s) tg) τ)) ∧ ShC (cutP P s b j) (flip1 fl s) τ ∧ (∀ a, (a < 5 ∨ 45 ≤ a) → τ a = σ a) ∧ τ (5 + 5 * s) 3 = 1 ∧ τ (5 + 5 * s) 6 = σ (5 + 5 * s) 6 ∧ ∀ v, v < 8 → v ≠ s → τ (5 + 5 * v) = σ (5 + 5 * v) := by
  have hm := W.1
  have hn := (W.2.1 s hs).1
  have r1 := uA_r fl s
  have r2 := vA_r fl s
  obtain ⟨τ, a1, a2, a3⟩ := kc_kfL (tb := tb) (d := d) (c := c) (t := t) (g := g) (fl := fl) (tg := tg) C W hs hb h2 (j := j) (l5 := .null) (l2 := Int32.ofNat j) (pN P s - j) 0 σ (by omega) (fun _ _ _ => rfl) (fun k hk => absurd hk (Nat.not_lt_zero k))
  have e5 := a2 (5 + 5 * s) (by omega) (by omega)
  have e2 : τ (5 + 5 * s) 2 = Int32.ofNat (pN P s) := by rw [e5]; exact (C.2.2.1 s hs).2.2.1
  have s0 := SH_stroke (fl := fl) (tg := tg) (show s < 8 by omega)
  refine ⟨up2 (up2 (up2 (up2 τ (5 + 5 * s) 2 (Int32.ofNat (pN P s - j))) (5 + 5 * s) 4 1) (5 + 5 * s) 5 0) (5 + 5 * s) 3 1, ?_, ⟨?_, ?_, fun v hv => ?_, ?_⟩, ?_, up2_s _ _ _ _, ?_, ?_⟩
  · rw [sg_X5_keepFrom_0]
    refine a1.trans ?_
    rw [sg_X5_keepFrom_5, gi_s (show s < 8 by omega) (by decide), bq_s, e2, if_pos (by rw [i_le (by omega) (by omega)]; exact Nat.le_refl _), gr_s_7 (show s < 8 by omega), bq_s, gr_s_8 (show s < 8 by omega), bq_s, gr_s_9 (show s < 8 by omega), bq_s, hp_putR s0 rfl, bq_s, hp_getR (r := vA fl s) (va_up_self _ _ _) rfl, bq_s, hp_putR (va_up_self _ _ _) rfl, bq_s, hp_putR (va_up_self _ _ _) rfl, bq_s, hp_putR (va_up_self _ _ _) rfl, bq_s, va_again, va_again, va_again]
    rw [show ((((([none, none, none, none, none, none, none, some (xA fl s), some (yA fl s), some (uA fl s), some (vA fl s)] : List (Option Nat)).set 7 (some (uA fl s))).set 8 (some (vA fl s))).set 9 (some (xA fl s))).set 10 (some (yA fl s))) = [none, none, none, none, none, none, none, some (uA fl s), some (vA fl s), some (xA fl s), some (yA fl s)] from rfl, SH_flip (show s < 8 by omega)]
    rw [pi_s _ (show s < 8 by omega) (by decide), bq_s, pi_s _ (show s < 8 by omega) (by decide), bq_s, pi_s _ (show s < 8 by omega) (by decide), bq_s, gi_s (show s < 8 by omega) (by decide), bq_s]
    rw [show (up2 (up2 (up2 τ (5 + 5 * s) 2 (Int32.ofNat (pN P s - j))) (5 + 5 * s) 4 1) (5 + 5 * s) 5 0) (5 + 5 * s) 2 = Int32.ofNat (pN P s - j) by simp (disch := omega) only [up2_n, up2_s], if_neg (by rw [j_lt_2 (by omega)]; omega)]
    rw [pi_s _ (show s < 8 by omega) (by decide), bq_s]
  · simp (disch := omega) only [up2_row]; rw [a2 1 (by omega) (by omega)]; exact C.1
  · intro k hk; simp (disch := omega) only [up2_row]; rw [a2 4 (by omega) (by omega)]; exact C.2.1 k hk
  · by_cases h : v = s
    · subst h
      obtain ⟨f1, f2, f3, f4⟩ := flip_x (fl := fl) v
      obtain ⟨b0, b1, b2, b4, b5, b6⟩ := C.2.2.1 v hs
      rw [← e5] at b0 b1
      refine ⟨?_, ?_, ?_, ?_, ?_, fun k hk => ?_⟩
      · simp (disch := omega) only [up2_n]; exact b0
      · simp (disch := omega) only [up2_n]; exact b1
      · simp (disch := omega) only [up2_n, up2_s]; rw [cutP_N, if_pos rfl]
      · simp (disch := omega) only [up2_n, up2_s]; rw [cutP_C, if_pos rfl]; rfl
      · simp (disch := omega) only [up2_n, up2_s]; rw [cutP_clo, if_pos rfl]; rfl
      · rw [cutP_N, if_pos rfl] at hk
        rw [f1, f2, cutP_X, if_pos rfl, cutP_Y, if_pos rfl]
        simp (disch := omega) only [up2_row]
        exact a3 k hk
    · obtain ⟨f1, f2, f3, f4⟩ := flip_o (fl := fl) h
      have rx := uA_r fl v
      have ry := vA_r fl v
      have hv8 : v < 8 := Nat.lt_of_lt_of_le hv hm
      obtain ⟨b0, b1, b2, b4, b5, b6⟩ := C.2.2.1 v hv
      unfold StC
      rw [f1, f2]
      simp (disch := omega) only [up2_row]
      rw [a2 (5 + 5 * v) (by omega) (by omega), a2 (xA fl v) (by omega) (by omega), a2 (yA fl v) (by omega) (by omega), cutP_N, if_neg h, cutP_C, if_neg h, cutP_clo, if_neg h]
      refine ⟨b0, b1, b2, b4, b5, fun k hk => ?_⟩
      rw [cutP_X, if_neg h, cutP_Y, if_neg h]
      exact b6 k hk
  · intro v hv
    simp (disch := omega) only [up2_row]
    rw [a2 3 (by omega) (by omega), C.2.2.2 v hv]
    have : ∀ o, ovm P v o = ovm (cutP P s b j) v o := by
      intro o
      induction o with
      | zero => rfl
      | succ o ih =>
        show ovm P v o + _ = ovm (cutP P s b j) v o + _
        rw [ih]; rfl
    rw [this]
  · intro a ha
    simp (disch := omega) only [up2_row]
    exact a2 a (by omega) (by omega)
  · simp (disch := omega) only [up2_n]
    rw [e5]
  · intro v hv h
    simp (disch := omega) only [up2_row]
    exact a2 _ (by omega) (by omega)
end CUT
