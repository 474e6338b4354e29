/-! THE REFERENCE'S PLAN, second part: the least sum -/
section MLS
def encM (v : Option Nat) : Int32 := match v with
  | none => -1
  | some r => Int32.ofNat r
def frm (P : dP) (f : Nat) (fr fb : Int32) : Prop := (f = 88 ∧ fr = -1) ∨ (f < 88 ∧ fr = Int32.ofNat (f / 11) ∧ fb = Int32.ofNat (f % 11) ∧ f / 11 < pM P ∧ f % 11 < bgn P (f / 11) ∧ 2 ≤ pN P (f / 11))
def IsBp (P : dP) (A : dA) (all : Nat) (R : dTab) (set f lim : Nat) (v : Option Nat) : Prop :=
  (∀ w, v = some w → ∃ s b r, cand P all set s ∧ b < bgn P s ∧ 11 * s + b < lim ∧ R (set ||| 2 ^ s) (11 * s + b) = some r ∧ w = tbF P A f s b + tkN P s b + r) ∧
    ∀ s b r, cand P all set s → b < bgn P s → 11 * s + b < lim → R (set ||| 2 ^ s) (11 * s + b) = some r → ∃ w, v = some w ∧ w ≤ tbF P A f s b + tkN P s b + r
variable {tb : dT} {d c t : Nat} {g : Nat → Option dE} {fl : Nat → Bool} {tg : Nat} {σ : dSg} {P : dP} {A : dA} {all set f : Nat} {R : dTab}
theorem bgn_11 (W : Wf P) {s : Nat} (hs : s < pM P) : bgn P s ≤ 11 := by
  have := (W.2.1 s hs).1
  unfold bgn
  cases clo P s
  · show 2 ≤ 11; omega
  · show pN P s - 1 ≤ 11; omega
/-- nothing between two limits: the best so far is the best there too -/
theorem IsBp_skip {lim lim' : Nat} {v : Option Nat} (h : IsBp P A all R set f lim v) (h1 : lim ≤ lim') (h2 : ∀ s b r, cand P all set s → b < bgn P s → 11 * s + b < lim' → R (set ||| 2 ^ s) (11 * s + b) = some r → 11 * s + b < lim) : IsBp P A all R set f lim' v := by
  refine ⟨fun w hw => ?_, fun s b r a1 a2 a3 a4 => h.2 s b r a1 a2 (h2 s b r a1 a2 a3 a4) a4⟩
  obtain ⟨s, b, r, a1, a2, a3, a4⟩ := h.1 w hw
  exact ⟨s, b, r, a1, a2, by omega, a4⟩
theorem IsBp_step (W : Wf P) {s b r : Nat} {v : Option Nat} (h : IsBp P A all R set f (11 * s + b) v) (hc : cand P all set s) (hb : b < bgn P s) (hr : R (set ||| 2 ^ s) (11 * s + b) = some r) (w : Option Nat) (hw : w = match v with | none => some (tbF P A f s b + tkN P s b + r) | some x => if x ≤ tbF P A f s b + tkN P s b + r then some x else some (tbF P A f s b + tkN P s b + r)) : IsBp P A all R set f (11 * s + (b + 1)) w := by
  have h11 := bgn_11 W hc.1
  have old : ∀ s' b' r', cand P all set s' → b' < bgn P s' → 11 * s' + b' < 11 * s + (b + 1) → R (set ||| 2 ^ s') (11 * s' + b') = some r' → 11 * s' + b' < 11 * s + b ∨ (s' = s ∧ b' = b ∧ r' = r) := by
    intro s' b' r' a1 a2 a3 a4
    have := bgn_11 W a1.1
    by_cases q : 11 * s' + b' < 11 * s + b
    · exact Or.inl q
    · have e1 : s' = s := by omega
      have e2 : b' = b := by omega
      subst e1; subst e2
      rw [hr] at a4
      injection a4 with a4
      exact Or.inr ⟨rfl, rfl, a4.symm⟩
  cases v with
  | none =>
    subst hw
    refine ⟨fun x hx => ?_, fun s' b' r' a1 a2 a3 a4 => ?_⟩
    · injection hx with hx; subst hx
      exact ⟨s, b, r, hc, hb, by omega, hr, rfl⟩
    · rcases old s' b' r' a1 a2 a3 a4 with q | ⟨rfl, rfl, rfl⟩
      · obtain ⟨x, hx, -⟩ := h.2 s' b' r' a1 a2 q a4
        cases hx
      · exact ⟨_, rfl, Nat.le_refl _⟩
  | some x =>
    dsimp only at hw
    by_cases q : x ≤ tbF P A f s b + tkN P s b + r
    · rw [if_pos q] at hw
      subst hw
      refine ⟨fun y hy => ?_, fun s' b' r' a1 a2 a3 a4 => ?_⟩
      · obtain ⟨s', b', r', a1, a2, a3, a4⟩ := h.1 y hy
        exact ⟨s', b', r', a1, a2, by omega, a4⟩
      · rcases old s' b' r' a1 a2 a3 a4 with q2 | ⟨rfl, rfl, rfl⟩
        · exact h.2 s' b' r' a1 a2 q2 a4
        · exact ⟨x, rfl, q⟩
    · rw [if_neg q] at hw
      subst hw
      refine ⟨fun y hy => ?_, fun s' b' r' a1 a2 a3 a4 => ?_⟩
      · injection hy with hy; subst hy
        exact ⟨s, b, r, hc, hb, by omega, hr, rfl⟩
      · rcases old s' b' r' a1 a2 a3 a4 with q2 | ⟨rfl, rfl, rfl⟩
        · obtain ⟨y, hy, hle⟩ := h.2 s' b' r' a1 a2 q2 a4
          injection hy with hy; subst hy
          exact ⟨_, rfl, by omega⟩
        · exact ⟨_, rfl, Nat.le_refl _⟩
theorem tbF_le (W : Wf P) (hA : ArM A σ) {s b : Nat} {fr fb : Int32} (hf : frm P f fr fb) (hs : s < pM P) (h2 : 2 ≤ pN P s) : tbF P A f s b ≤ 5697 := by
  have x1 := dXn_le (b := b) (k := 0) W hs (by omega)
  have y1 := dYn_le (b := b) (k := 0) W hs (by omega)
  unfold tbF
  rcases hf with ⟨rfl, -⟩ | ⟨h1, -, -, h3, h4, h5⟩
  · rw [if_pos rfl]
    exact tbW_le W (way_le hA.2.2.2.1 hA.2.2.2.2 x1 y1)
  · rw [if_neg (by omega)]
    exact tbW_le W (way_le (dXn_le W h3 (by omega)) (dYn_le W h3 (by omega)) x1 y1)
theorem km_tb (C : ShM P σ) (W : Wf P) (hA : ArM A σ) {s b : Nat} {fr fb : Int32} (hf : frm P f fr fb) (hs : s < pM P) (hb : b < bgn P s) (h2 : 2 ≤ pN P s) : dX tb (d + 4) 109 0 [.ref 270, .int fr, .int fb, .int (Int32.ofNat s), .int (Int32.ofNat b), .null, .null, .null, .null, .null] [] (c, t, hp g (SH fl tg) σ) = some (some (.int (Int32.ofNat (tbF P A f s b))), (c, t, hp g (SH fl tg) σ)) := by
  rcases hf with ⟨rfl, rfl⟩ | ⟨h1, rfl, rfl, h3, h4, h5⟩
  · exact km_tbA C W hA hs hb h2 fb
  · exact km_tbS C W h1 h3 h4 h5 hs hb h2
/-- what the reference's table holds above a set -/
def TbM (P : dP) (all : Nat) (R : dTab) (σ : dSg) (set : Nat) : Prop := ∀ s b, cand P all set s → b < bgn P s → σ 280 (89 * (set ||| 2 ^ s) + (11 * s + b)) = encM (R (set ||| 2 ^ s) (11 * s + b)) ∧ ∀ r, R (set ||| 2 ^ s) (11 * s + b) = some r → r ≤ 60000 * (256 - (set ||| 2 ^ s))
def bnd (set : Nat) (v : Option Nat) : Prop := ∀ w, v = some w → w ≤ 60000 * (256 - set)
theorem enc_m1 {set : Nat} {v : Option Nat} (h : bnd set v) : (encM v = -1) = (v = none) := by
  cases v with
  | none => exact (eq_true rfl).trans (eq_true rfl).symm
  | some r => exact (n_m1 (by have := h r rfl; omega)).trans (eq_false (by intro z; cases z)).symm
theorem km_leastI (C : ShM P σ) (W : Wf P) (hA : ArM A σ) (hall : ∀ s, all.testBit s = true → s < pM P ∧ 2 ≤ pN P s) (hS : set < 256) {fr fb : Int32} (hf : frm P f fr fb) (T : TbM P all R σ set) {s : Nat} (hc : cand P all set s) : ∀ q b v (l8 l9 : Value), b + q = bgn P s → IsBp P A all R set f (11 * s + b) v → bnd set v → ∃ v' l8' l9', dX tb (d + 6) 113 55 [.ref 270, .int (Int32.ofNat set), .int fr, .int fb, .int (Int32.ofNat all), .int (encM v), .int (Int32.ofNat s), .int (Int32.ofNat b), l8, l9] [] (c, t, hp g (SH fl tg) σ) = dX tb (d + 6) 113 28 [.ref 270, .int (Int32.ofNat set), .int fr, .int fb, .int (Int32.ofNat all), .int (encM v'), .int (Int32.ofNat (s + 1)), .int (Int32.ofNat (bgn P s)), l8', l9'] [] (c, t, hp g (SH fl tg) σ) ∧ IsBp P A all R set f (11 * (s + 1)) v' ∧ bnd set v' := by
  have hm := W.1
  have hs := hc.1
  have h11 := bgn_11 W hs
  have h2 := (hall s hc.2.1).2
  have hsl := or_lt hS (show s < 8 by omega)
  have hsg := or_gt hc.2.2.1
  intro q
  induction q with
  | zero =>
    intro b v l8 l9 hb hB hv
    have h1 : bgn P s ≤ b := by omega
    refine ⟨v, l8, l9, ?_, ?_, hv⟩
    · rw [sg_X7_least_55]
      simp (disch := omega) only [Option.bind_some, as_I, as_R, as_V, ct_t, ct_f, if_true, if_false, Bool.true_and, Bool.and_true, Bool.or_true, Bool.true_or, gi_270_0, gi_270_10, gi_270_11, gi_270_12, gi_270_13, gi_270_14, gi_270_15, gi_270_21, gi_270_22, gi_270_23, gi_270_34, gi_270_35, gi_270_36, pi_270_0, pi_270_10, pi_270_11, pi_270_12, pi_270_13, pi_270_14, pi_270_15, pi_270_21, pi_270_22, pi_270_23, pi_270_34, pi_270_35, pi_270_36, gr_270_1, gr_270_2, gr_270_3, gr_270_4, gr_270_5, gr_270_6, gr_270_7, gr_270_8, gr_270_9, gr_270_16, gr_270_17, gr_270_18, gr_270_19, gr_270_20, gr_270_24, gr_270_25, gr_270_26, gr_270_27, gr_270_28, gr_270_29, gr_270_30, gr_270_31, gr_270_32, gr_270_33, ld_271, ld_272, ld_273, ld_274, ld_275, ld_276, ld_277, ld_278, ld_279, ld_280, ld_281, ld_282, ld_283, ld_284, ld_285, ld_286, ld_287, ld_288, ld_289, ld_290, ld_291, ld_292, ld_293, ld_294, sv_271, sv_272, sv_273, sv_274, sv_275, sv_276, sv_277, sv_278, sv_279, sv_280, sv_281, sv_282, sv_283, sv_284, sv_285, sv_286, sv_287, sv_288, sv_289, sv_290, sv_291, sv_292, sv_293, sv_294, is_270, ia_0, ia_1, is_m0, is_m1, im_8, ml_8, im_11, ml_11, im_12, ml_12, im_88, ml_88, im_89, ml_89, j_lt_0, j_gt_0, j_le_0, j_ge_0, j_eq_0, j_lt_1, j_gt_1, j_le_1, j_ge_1, j_eq_1, j_lt_2, j_gt_2, j_le_2, j_ge_2, j_eq_2, j_lt_3, j_gt_3, j_le_3, j_ge_3, j_eq_3, j_lt_4, j_gt_4, j_le_4, j_ge_4, j_eq_4, j_lt_5, j_gt_5, j_le_5, j_ge_5, j_eq_5, j_lt_6, j_gt_6, j_le_6, j_ge_6, j_eq_6, j_lt_8, j_gt_8, j_le_8, j_ge_8, j_eq_8, j_lt_12, j_gt_12, j_le_12, j_ge_12, j_eq_12, j_lt_209, j_gt_209, j_le_209, j_ge_209, j_eq_209, j_lt_255, j_gt_255, j_le_255, j_ge_255, j_eq_255, j_lt_1000000000, j_gt_1000000000, j_le_1000000000, j_ge_1000000000, j_eq_1000000000, km_begs C W hs, i_le, h1]
      rw [show b = bgn P s by omega]
    · refine IsBp_skip hB (by omega) fun s' b' r' a1 a2 a3 a4 => ?_
      have := bgn_11 W a1.1
      by_cases e : s' = s
      · subst e; omega
      · omega
  | succ q ih =>
    intro b v l8 l9 hb hB hv
    have h1 : ¬ bgn P s ≤ b := by omega
    have hb1 : b < bgn P s := by omega
    obtain ⟨t1, t2⟩ := T s b hc hb1
    rw [sg_X7_least_55]
    simp (disch := omega) only [Option.bind_some, as_I, as_R, as_V, ct_t, ct_f, if_true, if_false, Bool.true_and, Bool.and_true, Bool.or_true, Bool.true_or, gi_270_0, gi_270_10, gi_270_11, gi_270_12, gi_270_13, gi_270_14, gi_270_15, gi_270_21, gi_270_22, gi_270_23, gi_270_34, gi_270_35, gi_270_36, pi_270_0, pi_270_10, pi_270_11, pi_270_12, pi_270_13, pi_270_14, pi_270_15, pi_270_21, pi_270_22, pi_270_23, pi_270_34, pi_270_35, pi_270_36, gr_270_1, gr_270_2, gr_270_3, gr_270_4, gr_270_5, gr_270_6, gr_270_7, gr_270_8, gr_270_9, gr_270_16, gr_270_17, gr_270_18, gr_270_19, gr_270_20, gr_270_24, gr_270_25, gr_270_26, gr_270_27, gr_270_28, gr_270_29, gr_270_30, gr_270_31, gr_270_32, gr_270_33, ld_271, ld_272, ld_273, ld_274, ld_275, ld_276, ld_277, ld_278, ld_279, ld_280, ld_281, ld_282, ld_283, ld_284, ld_285, ld_286, ld_287, ld_288, ld_289, ld_290, ld_291, ld_292, ld_293, ld_294, sv_271, sv_272, sv_273, sv_274, sv_275, sv_276, sv_277, sv_278, sv_279, sv_280, sv_281, sv_282, sv_283, sv_284, sv_285, sv_286, sv_287, sv_288, sv_289, sv_290, sv_291, sv_292, sv_293, sv_294, is_270, ia_0, ia_1, is_m0, is_m1, im_8, ml_8, im_11, ml_11, im_12, ml_12, im_88, ml_88, im_89, ml_89, j_lt_0, j_gt_0, j_le_0, j_ge_0, j_eq_0, j_lt_1, j_gt_1, j_le_1, j_ge_1, j_eq_1, j_lt_2, j_gt_2, j_le_2, j_ge_2, j_eq_2, j_lt_3, j_gt_3, j_le_3, j_ge_3, j_eq_3, j_lt_4, j_gt_4, j_le_4, j_ge_4, j_eq_4, j_lt_5, j_gt_5, j_le_5, j_ge_5, j_eq_5, j_lt_6, j_gt_6, j_le_6, j_ge_6, j_eq_6, j_lt_8, j_gt_8, j_le_8, j_ge_8, j_eq_8, j_lt_12, j_gt_12, j_le_12, j_ge_12, j_eq_12, j_lt_209, j_gt_209, j_le_209, j_ge_209, j_eq_209, j_lt_255, j_gt_255, j_le_255, j_ge_255, j_eq_255, j_lt_1000000000, j_gt_1000000000, j_le_1000000000, j_ge_1000000000, j_eq_1000000000, km_begs C W hs, i_le, h1, b_or, sg_X7_place_0, n_m1, i_add, i_mul, t1]
    cases hr : R (set ||| 2 ^ s) (11 * s + b) with
    | none =>
      rw [if_pos (show encM none = -1 from rfl)]
      obtain ⟨v', l8', l9', e1, e2⟩ := ih (b + 1) v (.int (encM none)) l9 (by omega) (IsBp_skip hB (by omega) fun s' b' r' a1 a2 a3 a4 => by
        have := bgn_11 W a1.1
        by_cases e : 11 * s' + b' < 11 * s + b
        · exact e
        · have x1 : s' = s := by omega
          have x2 : b' = b := by omega
          subst x1; subst x2
          rw [hr] at a4; cases a4) hv
      exact ⟨v', l8', l9', e1, e2⟩
    | some r =>
      have hrb := t2 r hr
      have htb := tbF_le (b := b) W hA hf hs h2
      have htk := tkN_le (b := b) W hs (by omega)
      rw [if_neg (show ¬ encM (some r) = -1 by rw [show encM (some r) = Int32.ofNat r from rfl, n_m1 (by omega)]; exact id)]
      simp (disch := omega) only [Option.bind_some, as_I, as_R, as_V, ct_t, ct_f, if_true, if_false, Bool.true_and, Bool.and_true, Bool.or_true, Bool.true_or, gi_270_0, gi_270_10, gi_270_11, gi_270_12, gi_270_13, gi_270_14, gi_270_15, gi_270_21, gi_270_22, gi_270_23, gi_270_34, gi_270_35, gi_270_36, pi_270_0, pi_270_10, pi_270_11, pi_270_12, pi_270_13, pi_270_14, pi_270_15, pi_270_21, pi_270_22, pi_270_23, pi_270_34, pi_270_35, pi_270_36, gr_270_1, gr_270_2, gr_270_3, gr_270_4, gr_270_5, gr_270_6, gr_270_7, gr_270_8, gr_270_9, gr_270_16, gr_270_17, gr_270_18, gr_270_19, gr_270_20, gr_270_24, gr_270_25, gr_270_26, gr_270_27, gr_270_28, gr_270_29, gr_270_30, gr_270_31, gr_270_32, gr_270_33, ld_271, ld_272, ld_273, ld_274, ld_275, ld_276, ld_277, ld_278, ld_279, ld_280, ld_281, ld_282, ld_283, ld_284, ld_285, ld_286, ld_287, ld_288, ld_289, ld_290, ld_291, ld_292, ld_293, ld_294, sv_271, sv_272, sv_273, sv_274, sv_275, sv_276, sv_277, sv_278, sv_279, sv_280, sv_281, sv_282, sv_283, sv_284, sv_285, sv_286, sv_287, sv_288, sv_289, sv_290, sv_291, sv_292, sv_293, sv_294, is_270, ia_0, ia_1, is_m0, is_m1, im_8, ml_8, im_11, ml_11, im_12, ml_12, im_88, ml_88, im_89, ml_89, j_lt_0, j_gt_0, j_le_0, j_ge_0, j_eq_0, j_lt_1, j_gt_1, j_le_1, j_ge_1, j_eq_1, j_lt_2, j_gt_2, j_le_2, j_ge_2, j_eq_2, j_lt_3, j_gt_3, j_le_3, j_ge_3, j_eq_3, j_lt_4, j_gt_4, j_le_4, j_ge_4, j_eq_4, j_lt_5, j_gt_5, j_le_5, j_ge_5, j_eq_5, j_lt_6, j_gt_6, j_le_6, j_ge_6, j_eq_6, j_lt_8, j_gt_8, j_le_8, j_ge_8, j_eq_8, j_lt_12, j_gt_12, j_le_12, j_ge_12, j_eq_12, j_lt_209, j_gt_209, j_le_209, j_ge_209, j_eq_209, j_lt_255, j_gt_255, j_le_255, j_ge_255, j_eq_255, j_lt_1000000000, j_gt_1000000000, j_le_1000000000, j_ge_1000000000, j_eq_1000000000, km_tb C W hA hf hs hb1 h2, km_ticks C W hs hb1 h2, show encM (some r) = Int32.ofNat r from rfl, i_add]
      cases v with
      | none =>
        rw [if_pos (show encM none = -1 from rfl)]
        exact ih (b + 1) (some (tbF P A f s b + tkN P s b + r)) _ _ (by omega) (IsBp_step W hB hc hb1 hr _ rfl) (fun w hw => by injection hw with hw; omega)
      | some x =>
        have hx := hv x rfl
        rw [if_neg (show ¬ encM (some x) = -1 by rw [show encM (some x) = Int32.ofNat x from rfl, n_m1 (by omega)]; exact id)]
        simp (disch := omega) only [show encM (some x) = Int32.ofNat x from rfl, i_le]
        by_cases q2 : x ≤ tbF P A f s b + tkN P s b + r
        · rw [if_pos q2]
          exact ih (b + 1) (some x) _ _ (by omega) (IsBp_step W hB hc hb1 hr _ (by dsimp only; rw [if_pos q2])) hv
        · rw [if_neg q2]
          exact ih (b + 1) (some (tbF P A f s b + tkN P s b + r)) _ _ (by omega) (IsBp_step W hB hc hb1 hr _ (by dsimp only; rw [if_neg q2])) (fun w hw => by injection hw with hw; omega)
theorem km_leastO (C : ShM P σ) (W : Wf P) (hA : ArM A σ) (hall : ∀ s, all.testBit s = true → s < pM P ∧ 2 ≤ pN P s) (ha : all < 256) (hS : set < 256) {fr fb : Int32} (hf : frm P f fr fb) (T : TbM P all R σ set) : ∀ q s v (l7 l8 l9 : Value), s + q = pM P → IsBp P A all R set f (11 * s) v → bnd set v → ∃ v', dX tb (d + 6) 113 28 [.ref 270, .int (Int32.ofNat set), .int fr, .int fb, .int (Int32.ofNat all), .int (encM v), .int (Int32.ofNat s), l7, l8, l9] [] (c, t, hp g (SH fl tg) σ) = some (some (.int (encM v')), (c, t, hp g (SH fl tg) σ)) ∧ IsBp P A all R set f (11 * pM P) v' ∧ bnd set v' := by
  have hm := W.1
  intro q
  induction q with
  | zero =>
    intro s v l7 l8 l9 h hB hv
    have h1 : pM P ≤ s := by omega
    refine ⟨v, ?_, ?_, hv⟩
    · rw [sg_X7_least_28]
      simp (disch := omega) only [Option.bind_some, as_I, as_R, as_V, ct_t, ct_f, if_true, if_false, Bool.true_and, Bool.and_true, Bool.or_true, Bool.true_or, gi_270_0, gi_270_10, gi_270_11, gi_270_12, gi_270_13, gi_270_14, gi_270_15, gi_270_21, gi_270_22, gi_270_23, gi_270_34, gi_270_35, gi_270_36, pi_270_0, pi_270_10, pi_270_11, pi_270_12, pi_270_13, pi_270_14, pi_270_15, pi_270_21, pi_270_22, pi_270_23, pi_270_34, pi_270_35, pi_270_36, gr_270_1, gr_270_2, gr_270_3, gr_270_4, gr_270_5, gr_270_6, gr_270_7, gr_270_8, gr_270_9, gr_270_16, gr_270_17, gr_270_18, gr_270_19, gr_270_20, gr_270_24, gr_270_25, gr_270_26, gr_270_27, gr_270_28, gr_270_29, gr_270_30, gr_270_31, gr_270_32, gr_270_33, ld_271, ld_272, ld_273, ld_274, ld_275, ld_276, ld_277, ld_278, ld_279, ld_280, ld_281, ld_282, ld_283, ld_284, ld_285, ld_286, ld_287, ld_288, ld_289, ld_290, ld_291, ld_292, ld_293, ld_294, sv_271, sv_272, sv_273, sv_274, sv_275, sv_276, sv_277, sv_278, sv_279, sv_280, sv_281, sv_282, sv_283, sv_284, sv_285, sv_286, sv_287, sv_288, sv_289, sv_290, sv_291, sv_292, sv_293, sv_294, is_270, ia_0, ia_1, is_m0, is_m1, im_8, ml_8, im_11, ml_11, im_12, ml_12, im_88, ml_88, im_89, ml_89, j_lt_0, j_gt_0, j_le_0, j_ge_0, j_eq_0, j_lt_1, j_gt_1, j_le_1, j_ge_1, j_eq_1, j_lt_2, j_gt_2, j_le_2, j_ge_2, j_eq_2, j_lt_3, j_gt_3, j_le_3, j_ge_3, j_eq_3, j_lt_4, j_gt_4, j_le_4, j_ge_4, j_eq_4, j_lt_5, j_gt_5, j_le_5, j_ge_5, j_eq_5, j_lt_6, j_gt_6, j_le_6, j_ge_6, j_eq_6, j_lt_8, j_gt_8, j_le_8, j_ge_8, j_eq_8, j_lt_12, j_gt_12, j_le_12, j_ge_12, j_eq_12, j_lt_209, j_gt_209, j_le_209, j_ge_209, j_eq_209, j_lt_255, j_gt_255, j_le_255, j_ge_255, j_eq_255, j_lt_1000000000, j_gt_1000000000, j_le_1000000000, j_ge_1000000000, j_eq_1000000000, C.1, i_le, h1]
    · rw [show pM P = s by omega]; exact hB
  | succ q ih =>
    intro s v l7 l8 l9 h hB hv
    have h1 : ¬ pM P ≤ s := by omega
    have hs : s < pM P := by omega
    rw [sg_X7_least_28]
    simp (disch := omega) only [Option.bind_some, as_I, as_R, as_V, ct_t, ct_f, if_true, if_false, Bool.true_and, Bool.and_true, Bool.or_true, Bool.true_or, gi_270_0, gi_270_10, gi_270_11, gi_270_12, gi_270_13, gi_270_14, gi_270_15, gi_270_21, gi_270_22, gi_270_23, gi_270_34, gi_270_35, gi_270_36, pi_270_0, pi_270_10, pi_270_11, pi_270_12, pi_270_13, pi_270_14, pi_270_15, pi_270_21, pi_270_22, pi_270_23, pi_270_34, pi_270_35, pi_270_36, gr_270_1, gr_270_2, gr_270_3, gr_270_4, gr_270_5, gr_270_6, gr_270_7, gr_270_8, gr_270_9, gr_270_16, gr_270_17, gr_270_18, gr_270_19, gr_270_20, gr_270_24, gr_270_25, gr_270_26, gr_270_27, gr_270_28, gr_270_29, gr_270_30, gr_270_31, gr_270_32, gr_270_33, ld_271, ld_272, ld_273, ld_274, ld_275, ld_276, ld_277, ld_278, ld_279, ld_280, ld_281, ld_282, ld_283, ld_284, ld_285, ld_286, ld_287, ld_288, ld_289, ld_290, ld_291, ld_292, ld_293, ld_294, sv_271, sv_272, sv_273, sv_274, sv_275, sv_276, sv_277, sv_278, sv_279, sv_280, sv_281, sv_282, sv_283, sv_284, sv_285, sv_286, sv_287, sv_288, sv_289, sv_290, sv_291, sv_292, sv_293, sv_294, is_270, ia_0, ia_1, is_m0, is_m1, im_8, ml_8, im_11, ml_11, im_12, ml_12, im_88, ml_88, im_89, ml_89, j_lt_0, j_gt_0, j_le_0, j_ge_0, j_eq_0, j_lt_1, j_gt_1, j_le_1, j_ge_1, j_eq_1, j_lt_2, j_gt_2, j_le_2, j_ge_2, j_eq_2, j_lt_3, j_gt_3, j_le_3, j_ge_3, j_eq_3, j_lt_4, j_gt_4, j_le_4, j_ge_4, j_eq_4, j_lt_5, j_gt_5, j_le_5, j_ge_5, j_eq_5, j_lt_6, j_gt_6, j_le_6, j_ge_6, j_eq_6, j_lt_8, j_gt_8, j_le_8, j_ge_8, j_eq_8, j_lt_12, j_gt_12, j_le_12, j_ge_12, j_eq_12, j_lt_209, j_gt_209, j_le_209, j_ge_209, j_eq_209, j_lt_255, j_gt_255, j_le_255, j_ge_255, j_eq_255, j_lt_1000000000, j_gt_1000000000, j_le_1000000000, j_ge_1000000000, j_eq_1000000000, C.1, i_le, h1, km_may C W ha hS hs, bI_0]
    by_cases hc : cand P all set s
    · rw [dcd_t hc, if_neg (by decide)]
      obtain ⟨v', l8', l9', e1, e2, e3⟩ := km_leastI (tb := tb) (d := d) (c := c) (t := t) (g := g) (fl := fl) (tg := tg) C W hA hall hS hf T hc (bgn P s) 0 v l8 l9 (by omega) hB hv
      obtain ⟨v2, f1, f2⟩ := ih (s + 1) v' (.int (Int32.ofNat (bgn P s))) l8' l9' (by omega) e2 e3
      exact ⟨v2, e1.trans f1, f2⟩
    · rw [dcd_f hc, if_pos rfl]
      exact ih (s + 1) v l7 l8 l9 (by omega) (IsBp_skip hB (by omega) fun s' b' r' a1 a2 a3 a4 => by
        have := bgn_11 W a1.1
        by_cases e : s' = s
        · subst e; exact absurd a1 hc
        · omega) hv
theorem km_least (C : ShM P σ) (W : Wf P) (hA : ArM A σ) (hall : ∀ s, all.testBit s = true → s < pM P ∧ 2 ≤ pN P s) (ha : all < 256) (hS : set < 256) {fr fb : Int32} (hf : frm P f fr fb) (T : TbM P all R σ set) : ∃ v, dX tb (d + 6) 113 0 [.ref 270, .int (Int32.ofNat set), .int fr, .int fb, .int (Int32.ofNat all), .null, .null, .null, .null, .null] [] (c, t, hp g (SH fl tg) σ) = some (some (.int (encM v)), (c, t, hp g (SH fl tg) σ)) ∧ IsB P A all R set f v ∧ bnd set v := by
  have hm := W.1
  have c2 := C.2.1 2 (by decide)
  have w2 := W.2.2.2.2.1
  rw [sg_X7_least_0]
  by_cases q : set = all
  · simp (disch := omega) only [i_eq, q]
    rcases hf with ⟨rfl, rfl⟩ | ⟨h1, rfl, rfl, h3, h4, h5⟩
    · exact ⟨some 0, (by rw [if_pos trivial]; rfl), ⟨fun _ => rfl, fun z => absurd rfl z⟩, fun w hw => by injection hw with hw; omega⟩
    · refine ⟨some (pPr P 2), ?_, ⟨fun _ => by rw [if_neg (by omega)], fun z => absurd rfl z⟩, fun w hw => by injection hw with hw; omega⟩
      simp (disch := omega) only [Option.bind_some, as_I, as_R, as_V, ct_t, ct_f, if_true, if_false, Bool.true_and, Bool.and_true, Bool.or_true, Bool.true_or, gi_270_0, gi_270_10, gi_270_11, gi_270_12, gi_270_13, gi_270_14, gi_270_15, gi_270_21, gi_270_22, gi_270_23, gi_270_34, gi_270_35, gi_270_36, pi_270_0, pi_270_10, pi_270_11, pi_270_12, pi_270_13, pi_270_14, pi_270_15, pi_270_21, pi_270_22, pi_270_23, pi_270_34, pi_270_35, pi_270_36, gr_270_1, gr_270_2, gr_270_3, gr_270_4, gr_270_5, gr_270_6, gr_270_7, gr_270_8, gr_270_9, gr_270_16, gr_270_17, gr_270_18, gr_270_19, gr_270_20, gr_270_24, gr_270_25, gr_270_26, gr_270_27, gr_270_28, gr_270_29, gr_270_30, gr_270_31, gr_270_32, gr_270_33, ld_271, ld_272, ld_273, ld_274, ld_275, ld_276, ld_277, ld_278, ld_279, ld_280, ld_281, ld_282, ld_283, ld_284, ld_285, ld_286, ld_287, ld_288, ld_289, ld_290, ld_291, ld_292, ld_293, ld_294, sv_271, sv_272, sv_273, sv_274, sv_275, sv_276, sv_277, sv_278, sv_279, sv_280, sv_281, sv_282, sv_283, sv_284, sv_285, sv_286, sv_287, sv_288, sv_289, sv_290, sv_291, sv_292, sv_293, sv_294, is_270, lp_0, lp_1, lp_2, lp_3, lp_4, lq_0, lq_1, lq_2, lq_3, lq_4, lx_0, ly_0, n_m1, c2]
      rfl
  · simp (disch := omega) only [i_eq, q, if_false]
    obtain ⟨v, e1, e2, e3⟩ := km_leastO (tb := tb) (d := d) (c := c) (t := t) (g := g) (fl := fl) (tg := tg) C W hA hall ha hS hf T (pM P) 0 none .null .null .null (by omega) ⟨fun w hw => (by cases hw), fun s b r a1 a2 a3 => by omega⟩ (fun w hw => (by cases hw))
    refine ⟨v, e1, ⟨fun z => absurd z q, fun _ => ⟨fun w hw => ?_, fun s b r a1 a2 a3 => ?_⟩⟩, e3⟩
    · obtain ⟨s, b, r, a1, a2, a3, a4⟩ := e2.1 w hw
      exact ⟨s, b, r, a1, a2, a4⟩
    · have h11 := bgn_11 W a1.1
      have hsM := a1.1
      exact e2.2 s b r a1 a2 (by omega) a3
end MLS
