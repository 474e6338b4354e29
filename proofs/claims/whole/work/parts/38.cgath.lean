/-! THE CLASS'S PLAN, third part: choices gathered, the best of them -/
section CGA
def nlm (all : Nat) : Nat := 255 ^^^ all
def encC (v : Option Nat) : Int32 := match v with
  | none => 1000000000
  | some r => Int32.ofNat r
theorem nlm_tb {all q : Nat} (hq : q < 8) : (nlm all).testBit q = !all.testBit q := by
  unfold nlm
  rw [Nat.testBit_xor, show (255 : Nat) = 2 ^ 8 - 1 from rfl, Nat.testBit_two_pow_sub_one, decide_eq_true hq, Bool.true_xor]
theorem nlm_lt {all : Nat} (h : all < 256) : nlm all < 256 := Nat.xor_lt_two_pow (n := 8) (by decide) h
theorem dn_lt {set all : Nat} (hS : set < 256) (h : all < 256) : set ||| nlm all < 256 := Nat.or_lt_two_pow (n := 8) hS (nlm_lt h)
theorem dn_or (set m s : Nat) : (set ||| m) ||| 2 ^ s = (set ||| 2 ^ s) ||| m := by rw [Nat.or_assoc, Nat.or_comm m, ← Nat.or_assoc]
theorem dn_tb {set all q : Nat} (hq : q < 8) : (set ||| nlm all).testBit q = (set.testBit q || !all.testBit q) := by rw [Nat.testBit_or, nlm_tb hq]
theorem dn_tbl {set all s : Nat} (hs : s < 8) (h : all.testBit s = true) : (set ||| nlm all).testBit s = set.testBit s := by rw [dn_tb hs, h]; cases set.testBit s <;> rfl
variable {tb : dT} {d c t : Nat} {g : Nat → Option dE} {fl : Nat → Bool} {tg : Nat} {σ : dSg} {P : dP} {A : dA} {all set : Nat} {R : dTab}
theorem dn_free (W : Wf P) {s : Nat} : (∀ o, o < pM P → pOv P s o = true → (set ||| nlm all).testBit o = true) ↔ ∀ o, o < pM P → pOv P s o = true → all.testBit o = true → set.testBit o = true := by
  have hm := W.1
  constructor
  · intro h o ho hp ha
    have := h o ho hp
    rw [dn_tbl (by omega) ha] at this
    exact this
  · intro h o ho hp
    rw [dn_tb (by omega)]
    cases ha : all.testBit o
    · rw [Bool.not_false, Bool.or_true]
    · rw [h o ho hp ha]; rfl
def TbC (P : dP) (all : Nat) (R : dTab) (σ : dSg) (tg set : Nat) : Prop := ∀ s b, cand P all set s → b < bgn P s → σ tg (((set ||| 2 ^ s) ||| nlm all) * 88 + (11 * s + b)) = encC (R (set ||| 2 ^ s) (11 * s + b)) ∧ bnd (set ||| 2 ^ s) (R (set ||| 2 ^ s) (11 * s + b))
def FrG (σ τ : dSg) : Prop := (∀ a, a ≠ 51 → a ≠ 52 → a ≠ 46 → τ a = σ a) ∧ ∀ j, j ≠ 8 → τ 46 j = σ 46 j
theorem FrG_refl (σ : dSg) : FrG σ σ := ⟨fun _ _ _ _ => rfl, fun _ _ => rfl⟩
theorem FrG_trans {σ τ υ : dSg} (h : FrG σ τ) (h2 : FrG τ υ) : FrG σ υ := ⟨fun a a1 a2 a3 => (h2.1 a a1 a2 a3).trans (h.1 a a1 a2 a3), fun j hj => (h2.2 j hj).trans (h.2 j hj)⟩
theorem FrG_up {σ : dSg} {a j : Nat} {v : Int32} (h : a = 51 ∨ a = 52 ∨ (a = 46 ∧ j = 8)) : FrG σ (up2 σ a j v) := ⟨fun b _ _ _ => up2_row σ v (by omega), fun k _ => up2_n σ v (by omega)⟩
theorem FrG_ShC (W : Wf P) {τ : dSg} (h : FrG σ τ) (C : ShC P fl σ) : ShC P fl τ := ShC_congr W C fun a ha => h.1 a (by omega) (by omega) (by omega)
def Gat (P : dP) (all : Nat) (R : dTab) (set lim : Nat) (σ : dSg) (cc : Nat) (ch ct : Nat → Nat) : Prop := cc ≤ lim ∧ (∀ i, i < cc → σ 51 i = Int32.ofNat (ch i) ∧ σ 52 i = Int32.ofNat (ct i) ∧ ∃ s b r, cand P all set s ∧ b < bgn P s ∧ 11 * s + b < lim ∧ ch i = 11 * s + b ∧ R (set ||| 2 ^ s) (11 * s + b) = some r ∧ ct i = tkN P s b + r) ∧
  (∀ s b r, cand P all set s → b < bgn P s → 11 * s + b < lim → R (set ||| 2 ^ s) (11 * s + b) = some r → ∃ i, i < cc ∧ ch i = 11 * s + b) ∧ ∀ i j, i < j → j < cc → ch i < ch j
theorem Gat_skip {lim lim' cc : Nat} {ch ct : Nat → Nat} (h : Gat P all R set lim σ cc ch ct) (h1 : lim ≤ lim') (h2 : ∀ s b r, cand P all set s → b < bgn P s → 11 * s + b < lim' → R (set ||| 2 ^ s) (11 * s + b) = some r → 11 * s + b < lim) : Gat P all R set lim' σ cc ch ct := by
  obtain ⟨a, b, e, f⟩ := h
  refine ⟨by omega, fun i hi => ?_, fun s b r a1 a2 a3 a4 => e s b r a1 a2 (h2 s b r a1 a2 a3 a4) a4, f⟩
  obtain ⟨b1, b2, s, b', r, b3, b4, b5, b6⟩ := b i hi
  exact ⟨b1, b2, s, b', r, b3, b4, by omega, b6⟩
theorem kc_g62 (ht : 296 ≤ tg) (C0 : ShC P fl σ) (W : Wf P) (ha : all < 256) (hall : ∀ s, all.testBit s = true → s < pM P ∧ 2 ≤ pN P s) (hS : set < 256) (T : TbC P all R σ tg set) (hT : ∀ s b, all.testBit s = true → b < bgn P s → σ 50 (11 * s + b) = Int32.ofNat (tkN P s b)) {s : Nat} (hc : cand P all set s) : ∀ q b (τ : dSg) cc (ch ct : Nat → Nat), b + q = bgn P s → FrG σ τ → τ 46 8 = Int32.ofNat cc → Gat P all R set (11 * s + b) τ cc ch ct → ∃ τ' cc' ch' ct', dX tb (d + 1) 21 62 [.ref 46, .int (Int32.ofNat (set ||| nlm all)), .int (Int32.ofNat s), .int (Int32.ofNat (bgn P s)), .int (Int32.ofNat b)] [] (c, t, hp g (SH fl tg) τ) = dX tb (d + 1) 21 7 [.ref 46, .int (Int32.ofNat (set ||| nlm all)), .int (Int32.ofNat (s + 1)), .int (Int32.ofNat (bgn P s)), .int (Int32.ofNat (bgn P s))] [] (c, t, hp g (SH fl tg) (τ')) ∧ FrG σ τ' ∧ τ' 46 8 = Int32.ofNat cc' ∧ Gat P all R set (11 * (s + 1)) τ' cc' ch' ct' := by
  have hm := W.1
  have hs := hc.1
  have h11 := bgn_11 W hs
  have h2 := (hall s hc.2.1).2
  have hdn := dn_lt hS ha
  have hsl := dn_lt (or_lt hS (show s < 8 by omega)) ha
  intro q
  induction q with
  | zero =>
    intro b τ cc ch ct hb hF h8 hG
    have h1 : bgn P s ≤ b := by omega
    refine ⟨τ, cc, ch, ct, ?_, hF, h8, Gat_skip hG (by omega) fun s' b' r' a1 a2 a3 a4 => ?_⟩
    · rw [sg_X2_gatherChoices_62]
      simp (disch := omega) only [Option.bind_some, as_I, as_R, as_V, ct_t, ct_f, if_true, if_false, Bool.true_and, Bool.and_true, Bool.or_true, Bool.true_or, ia_0, ia_1, is_m0, is_m1, im_8, ml_8, im_11, ml_11, im_12, ml_12, im_88, ml_88, im_89, ml_89, j_lt_0, j_gt_0, j_le_0, j_ge_0, j_eq_0, j_lt_1, j_gt_1, j_le_1, j_ge_1, j_eq_1, j_lt_2, j_gt_2, j_le_2, j_ge_2, j_eq_2, j_lt_3, j_gt_3, j_le_3, j_ge_3, j_eq_3, j_lt_4, j_gt_4, j_le_4, j_ge_4, j_eq_4, j_lt_5, j_gt_5, j_le_5, j_ge_5, j_eq_5, j_lt_6, j_gt_6, j_le_6, j_ge_6, j_eq_6, j_lt_8, j_gt_8, j_le_8, j_ge_8, j_eq_8, j_lt_12, j_gt_12, j_le_12, j_ge_12, j_eq_12, j_lt_209, j_gt_209, j_le_209, j_ge_209, j_eq_209, j_lt_255, j_gt_255, j_le_255, j_ge_255, j_eq_255, j_lt_1000000000, j_gt_1000000000, j_le_1000000000, j_ge_1000000000, j_eq_1000000000, i_le, h1]
      rw [show b = bgn P s by omega]
    · have := bgn_11 W a1.1
      by_cases e : s' = s
      · subst e; omega
      · omega
  | succ q ih =>
    intro b τ cc ch ct hb hF h8 hG
    have h1 : ¬ bgn P s ≤ b := by omega
    have hb1 : b < bgn P s := by omega
    obtain ⟨t1, t2⟩ := T s b hc hb1
    have t3 := hT s b hc.2.1 hb1
    have hcc := hG.1
    rw [sg_X2_gatherChoices_62]
    simp (disch := omega) only [Option.bind_some, as_I, as_R, as_V, ct_t, ct_f, if_true, if_false, Bool.true_and, Bool.and_true, Bool.or_true, Bool.true_or, gi_45_0, gi_45_1, gi_45_2, gi_45_3, gi_47_0, gi_47_1, gi_47_2, gi_47_3, gi_46_8, gi_46_9, gi_46_10, gi_46_15, gi_46_16, pi_45_0, pi_45_1, pi_45_2, pi_45_3, pi_47_0, pi_47_1, pi_47_2, pi_47_3, pi_46_8, pi_46_9, pi_46_10, pi_46_15, pi_46_16, gr_46_0, gr_46_1, gr_46_2, gr_46_3, gr_46_4, gr_46_5, gr_46_6, gr_46_7, gr_46_11, gr_46_12, gr_46_13, gr_46_14, ld_50, ld_51, ld_52, ld_53, ld_54, ld_55, ld_56, ld_t, ld_b, sv_50, sv_51, sv_52, sv_53, sv_54, sv_55, sv_56, sv_t, sv_b, is_45, is_47, is_46, ia_0, ia_1, is_m0, is_m1, im_8, ml_8, im_11, ml_11, im_12, ml_12, im_88, ml_88, im_89, ml_89, j_lt_0, j_gt_0, j_le_0, j_ge_0, j_eq_0, j_lt_1, j_gt_1, j_le_1, j_ge_1, j_eq_1, j_lt_2, j_gt_2, j_le_2, j_ge_2, j_eq_2, j_lt_3, j_gt_3, j_le_3, j_ge_3, j_eq_3, j_lt_4, j_gt_4, j_le_4, j_ge_4, j_eq_4, j_lt_5, j_gt_5, j_le_5, j_ge_5, j_eq_5, j_lt_6, j_gt_6, j_le_6, j_ge_6, j_eq_6, j_lt_8, j_gt_8, j_le_8, j_ge_8, j_eq_8, j_lt_12, j_gt_12, j_le_12, j_ge_12, j_eq_12, j_lt_209, j_gt_209, j_le_209, j_ge_209, j_eq_209, j_lt_255, j_gt_255, j_le_255, j_ge_255, j_eq_255, j_lt_1000000000, j_gt_1000000000, j_le_1000000000, j_ge_1000000000, j_eq_1000000000, i_le, h1, b_or, dn_or, i_mul, i_add, sg_X2_addChoice_0]
    rw [Nat.mul_comm s 11, hF.1 tg (by omega) (by omega) (by omega), t1]
    cases hr : R (set ||| 2 ^ s) (11 * s + b) with
    | none =>
      rw [if_pos (show (1000000000 : Int32) ≤ encC none by decide)]
      refine ih (b + 1) τ cc ch ct (by omega) hF h8 (Gat_skip hG (by omega) fun s' b' r' a1 a2 a3 a4 => ?_)
      have := bgn_11 W a1.1
      by_cases e : 11 * s' + b' < 11 * s + b
      · exact e
      · have x1 : s' = s := by omega
        have x2 : b' = b := by omega
        subst x1; subst x2
        rw [hr] at a4; cases a4
    | some r =>
      have hrb := t2 r hr
      have htk := tkN_le (b := b) W hs (by omega)
      simp (disch := omega) only [Option.bind_some, as_I, as_R, as_V, ct_t, ct_f, if_true, if_false, Bool.true_and, Bool.and_true, Bool.or_true, Bool.true_or, gi_45_0, gi_45_1, gi_45_2, gi_45_3, gi_47_0, gi_47_1, gi_47_2, gi_47_3, gi_46_8, gi_46_9, gi_46_10, gi_46_15, gi_46_16, pi_45_0, pi_45_1, pi_45_2, pi_45_3, pi_47_0, pi_47_1, pi_47_2, pi_47_3, pi_46_8, pi_46_9, pi_46_10, pi_46_15, pi_46_16, gr_46_0, gr_46_1, gr_46_2, gr_46_3, gr_46_4, gr_46_5, gr_46_6, gr_46_7, gr_46_11, gr_46_12, gr_46_13, gr_46_14, ld_50, ld_51, ld_52, ld_53, ld_54, ld_55, ld_56, ld_t, ld_b, sv_50, sv_51, sv_52, sv_53, sv_54, sv_55, sv_56, sv_t, sv_b, is_45, is_47, is_46, ia_0, ia_1, is_m0, is_m1, im_8, ml_8, im_11, ml_11, im_12, ml_12, im_88, ml_88, im_89, ml_89, j_lt_0, j_gt_0, j_le_0, j_ge_0, j_eq_0, j_lt_1, j_gt_1, j_le_1, j_ge_1, j_eq_1, j_lt_2, j_gt_2, j_le_2, j_ge_2, j_eq_2, j_lt_3, j_gt_3, j_le_3, j_ge_3, j_eq_3, j_lt_4, j_gt_4, j_le_4, j_ge_4, j_eq_4, j_lt_5, j_gt_5, j_le_5, j_ge_5, j_eq_5, j_lt_6, j_gt_6, j_le_6, j_ge_6, j_eq_6, j_lt_8, j_gt_8, j_le_8, j_ge_8, j_eq_8, j_lt_12, j_gt_12, j_le_12, j_ge_12, j_eq_12, j_lt_209, j_gt_209, j_le_209, j_ge_209, j_eq_209, j_lt_255, j_gt_255, j_le_255, j_ge_255, j_eq_255, j_lt_1000000000, j_gt_1000000000, j_le_1000000000, j_ge_1000000000, j_eq_1000000000, show encC (some r) = Int32.ofNat r from rfl, show ¬ 1000000000 ≤ r by omega, h8, up2_n, hF.1 50 (by omega) (by omega) (by omega), t3, i_add, up2_row]
      refine ih (b + 1) _ (cc + 1) (fun j => if j = cc then 11 * s + b else ch j) (fun j => if j = cc then tkN P s b + r else ct j) (by omega) (FrG_trans hF (FrG_trans (FrG_up (by omega)) (FrG_trans (FrG_up (by omega)) (FrG_up (by omega))))) (up2_s _ _ _ _) ⟨by omega, fun i hi => ?_, fun s' b' r' a1 a2 a3 a4 => ?_, fun i j hij hj => ?_⟩
      · by_cases e : i = cc
        · subst e
          dsimp only
          rw [if_pos rfl, if_pos rfl]
          simp (disch := omega) only [up2_s, up2_n]
          exact ⟨trivial, trivial, s, b, r, hc, hb1, by omega, rfl, hr, rfl⟩
        · obtain ⟨b1, b2, s', b', r', b3, b4, b5, b6⟩ := hG.2.1 i (by omega)
          dsimp only
          rw [if_neg e, if_neg e]
          simp (disch := omega) only [up2_n]
          exact ⟨b1, b2, s', b', r', b3, b4, by omega, b6⟩
      · have := bgn_11 W a1.1
        by_cases e : 11 * s' + b' < 11 * s + b
        · obtain ⟨i, i1, i2⟩ := hG.2.2.1 s' b' r' a1 a2 e a4
          exact ⟨i, by omega, by dsimp only; rw [if_neg (by omega)]; exact i2⟩
        · exact ⟨cc, by omega, by dsimp only; rw [if_pos rfl]; omega⟩
      · dsimp only
        rw [if_neg (show ¬ i = cc by omega)]
        by_cases e : j = cc
        · rw [if_pos e]
          obtain ⟨-, -, s', b', r', -, -, b5, b6, -⟩ := hG.2.1 i (by omega)
          omega
        · rw [if_neg e]
          exact hG.2.2.2 i j hij (by omega)
theorem kc_g7 (ht : 296 ≤ tg) (C0 : ShC P fl σ) (W : Wf P) (ha : all < 256) (h9 : σ 46 9 = Int32.ofNat all) (hall : ∀ s, all.testBit s = true → s < pM P ∧ 2 ≤ pN P s) (hS : set < 256) (T : TbC P all R σ tg set) (hT : ∀ s b, all.testBit s = true → b < bgn P s → σ 50 (11 * s + b) = Int32.ofNat (tkN P s b)) : ∀ q s (τ : dSg) cc (ch ct : Nat → Nat) (l3 l4 : Value), s + q = pM P → FrG σ τ → τ 46 8 = Int32.ofNat cc → Gat P all R set (11 * s) τ cc ch ct → ∃ τ' cc' ch' ct', dX tb (d + 1) 21 7 [.ref 46, .int (Int32.ofNat (set ||| nlm all)), .int (Int32.ofNat s), l3, l4] [] (c, t, hp g (SH fl tg) τ) = some (none, (c, t, hp g (SH fl tg) (τ'))) ∧ FrG σ τ' ∧ τ' 46 8 = Int32.ofNat cc' ∧ Gat P all R set 88 τ' cc' ch' ct' := by
  have hm := W.1
  have hdn := dn_lt hS ha
  intro q
  induction q with
  | zero =>
    intro s τ cc ch ct l3 l4 h hF h8 hG
    have h1 : pM P ≤ s := by omega
    have C := FrG_ShC W hF C0
    refine ⟨τ, cc, ch, ct, ?_, hF, h8, Gat_skip hG (by omega) fun s' b' r' a1 a2 a3 a4 => ?_⟩
    · rw [sg_X2_gatherChoices_7]
      simp (disch := omega) only [Option.bind_some, as_I, as_R, as_V, ct_t, ct_f, if_true, if_false, Bool.true_and, Bool.and_true, Bool.or_true, Bool.true_or, gi_1_3, gi_s, pi_1_3, pi_s, gr_0_0, gr_0_1, gr_0_2, gr_0_3, gr_1_0, gr_1_1, gr_1_2, gr_s_7, gr_s_8, gr_s_9, gr_s_10, ld_3, ld_4, ld_x, ld_y, ld_u, ld_v, sv_3, sv_4, sv_x, sv_y, sv_u, sv_v, is_0, is_1, is_s, lr_2, gi_45_0, gi_45_1, gi_45_2, gi_45_3, gi_47_0, gi_47_1, gi_47_2, gi_47_3, gi_46_8, gi_46_9, gi_46_10, gi_46_15, gi_46_16, pi_45_0, pi_45_1, pi_45_2, pi_45_3, pi_47_0, pi_47_1, pi_47_2, pi_47_3, pi_46_8, pi_46_9, pi_46_10, pi_46_15, pi_46_16, gr_46_0, gr_46_1, gr_46_2, gr_46_3, gr_46_4, gr_46_5, gr_46_6, gr_46_7, gr_46_11, gr_46_12, gr_46_13, gr_46_14, ld_50, ld_51, ld_52, ld_53, ld_54, ld_55, ld_56, ld_t, ld_b, sv_50, sv_51, sv_52, sv_53, sv_54, sv_55, sv_56, sv_t, sv_b, is_45, is_47, is_46, ia_0, ia_1, is_m0, is_m1, im_8, ml_8, im_11, ml_11, im_12, ml_12, im_88, ml_88, im_89, ml_89, j_lt_0, j_gt_0, j_le_0, j_ge_0, j_eq_0, j_lt_1, j_gt_1, j_le_1, j_ge_1, j_eq_1, j_lt_2, j_gt_2, j_le_2, j_ge_2, j_eq_2, j_lt_3, j_gt_3, j_le_3, j_ge_3, j_eq_3, j_lt_4, j_gt_4, j_le_4, j_ge_4, j_eq_4, j_lt_5, j_gt_5, j_le_5, j_ge_5, j_eq_5, j_lt_6, j_gt_6, j_le_6, j_ge_6, j_eq_6, j_lt_8, j_gt_8, j_le_8, j_ge_8, j_eq_8, j_lt_12, j_gt_12, j_le_12, j_ge_12, j_eq_12, j_lt_209, j_gt_209, j_le_209, j_ge_209, j_eq_209, j_lt_255, j_gt_255, j_le_255, j_ge_255, j_eq_255, j_lt_1000000000, j_gt_1000000000, j_le_1000000000, j_ge_1000000000, j_eq_1000000000, C.1, i_le, h1]
    · have := a1.1
      have := bgn_11 W a1.1
      omega
  | succ q ih =>
    intro s τ cc ch ct l3 l4 h hF h8 hG
    have h1 : ¬ pM P ≤ s := by omega
    have hs : s < pM P := by omega
    have C := FrG_ShC W hF C0
    have h9' : τ 46 9 = Int32.ofNat all := by rw [hF.2 9 (by decide)]; exact h9
    have skp : ¬ cand P all set s → ∃ τ' cc' ch' ct', dX tb (d + 1) 21 7 [.ref 46, .int (Int32.ofNat (set ||| nlm all)), .int (Int32.ofNat (s + 1)), l3, l4] [] (c, t, hp g (SH fl tg) τ) = some (none, (c, t, hp g (SH fl tg) (τ'))) ∧ FrG σ τ' ∧ τ' 46 8 = Int32.ofNat cc' ∧ Gat P all R set 88 τ' cc' ch' ct' := fun hk =>
      ih (s + 1) τ cc ch ct l3 l4 (by omega) hF h8 (Gat_skip hG (by omega) fun s' b' r' a1 a2 a3 a4 => by
        have := bgn_11 W a1.1
        by_cases e : s' = s
        · subst e; exact absurd a1 hk
        · omega)
    rw [sg_X2_gatherChoices_7]
    simp (disch := omega) only [Option.bind_some, as_I, as_R, as_V, ct_t, ct_f, if_true, if_false, Bool.true_and, Bool.and_true, Bool.or_true, Bool.true_or, gi_1_3, gi_s, pi_1_3, pi_s, gr_0_0, gr_0_1, gr_0_2, gr_0_3, gr_1_0, gr_1_1, gr_1_2, gr_s_7, gr_s_8, gr_s_9, gr_s_10, ld_3, ld_4, ld_x, ld_y, ld_u, ld_v, sv_3, sv_4, sv_x, sv_y, sv_u, sv_v, is_0, is_1, is_s, lr_2, gi_45_0, gi_45_1, gi_45_2, gi_45_3, gi_47_0, gi_47_1, gi_47_2, gi_47_3, gi_46_8, gi_46_9, gi_46_10, gi_46_15, gi_46_16, pi_45_0, pi_45_1, pi_45_2, pi_45_3, pi_47_0, pi_47_1, pi_47_2, pi_47_3, pi_46_8, pi_46_9, pi_46_10, pi_46_15, pi_46_16, gr_46_0, gr_46_1, gr_46_2, gr_46_3, gr_46_4, gr_46_5, gr_46_6, gr_46_7, gr_46_11, gr_46_12, gr_46_13, gr_46_14, ld_50, ld_51, ld_52, ld_53, ld_54, ld_55, ld_56, ld_t, ld_b, sv_50, sv_51, sv_52, sv_53, sv_54, sv_55, sv_56, sv_t, sv_b, is_45, is_47, is_46, ia_0, ia_1, is_m0, is_m1, im_8, ml_8, im_11, ml_11, im_12, ml_12, im_88, ml_88, im_89, ml_89, j_lt_0, j_gt_0, j_le_0, j_ge_0, j_eq_0, j_lt_1, j_gt_1, j_le_1, j_ge_1, j_eq_1, j_lt_2, j_gt_2, j_le_2, j_ge_2, j_eq_2, j_lt_3, j_gt_3, j_le_3, j_ge_3, j_eq_3, j_lt_4, j_gt_4, j_le_4, j_ge_4, j_eq_4, j_lt_5, j_gt_5, j_le_5, j_ge_5, j_eq_5, j_lt_6, j_gt_6, j_le_6, j_ge_6, j_eq_6, j_lt_8, j_gt_8, j_le_8, j_ge_8, j_eq_8, j_lt_12, j_gt_12, j_le_12, j_ge_12, j_eq_12, j_lt_209, j_gt_209, j_le_209, j_ge_209, j_eq_209, j_lt_255, j_gt_255, j_le_255, j_ge_255, j_eq_255, j_lt_1000000000, j_gt_1000000000, j_le_1000000000, j_ge_1000000000, j_eq_1000000000, C.1, i_le, h1, kc_isL ha h9', bI_0, b_tst]
    cases hq : all.testBit s
    · rw [if_pos rfl]
      exact skp fun z => by have := z.2.1; rw [hq] at this; exact absurd this (by decide)
    · rw [if_neg (by decide), dn_tbl (by omega) hq]
      obtain ⟨-, h2⟩ := hall s hq
      cases hst : set.testBit s
      · rw [if_pos rfl]
        simp (disch := omega) only [Option.bind_some, as_I, as_R, as_V, ct_t, ct_f, if_true, if_false, Bool.true_and, Bool.and_true, Bool.or_true, Bool.true_or, gi_1_3, gi_s, pi_1_3, pi_s, gr_0_0, gr_0_1, gr_0_2, gr_0_3, gr_1_0, gr_1_1, gr_1_2, gr_s_7, gr_s_8, gr_s_9, gr_s_10, ld_3, ld_4, ld_x, ld_y, ld_u, ld_v, sv_3, sv_4, sv_x, sv_y, sv_u, sv_v, is_0, is_1, is_s, lr_2, gi_45_0, gi_45_1, gi_45_2, gi_45_3, gi_47_0, gi_47_1, gi_47_2, gi_47_3, gi_46_8, gi_46_9, gi_46_10, gi_46_15, gi_46_16, pi_45_0, pi_45_1, pi_45_2, pi_45_3, pi_47_0, pi_47_1, pi_47_2, pi_47_3, pi_46_8, pi_46_9, pi_46_10, pi_46_15, pi_46_16, gr_46_0, gr_46_1, gr_46_2, gr_46_3, gr_46_4, gr_46_5, gr_46_6, gr_46_7, gr_46_11, gr_46_12, gr_46_13, gr_46_14, ld_50, ld_51, ld_52, ld_53, ld_54, ld_55, ld_56, ld_t, ld_b, sv_50, sv_51, sv_52, sv_53, sv_54, sv_55, sv_56, sv_t, sv_b, is_45, is_47, is_46, ia_0, ia_1, is_m0, is_m1, im_8, ml_8, im_11, ml_11, im_12, ml_12, im_88, ml_88, im_89, ml_89, j_lt_0, j_gt_0, j_le_0, j_ge_0, j_eq_0, j_lt_1, j_gt_1, j_le_1, j_ge_1, j_eq_1, j_lt_2, j_gt_2, j_le_2, j_ge_2, j_eq_2, j_lt_3, j_gt_3, j_le_3, j_ge_3, j_eq_3, j_lt_4, j_gt_4, j_le_4, j_ge_4, j_eq_4, j_lt_5, j_gt_5, j_le_5, j_ge_5, j_eq_5, j_lt_6, j_gt_6, j_le_6, j_ge_6, j_eq_6, j_lt_8, j_gt_8, j_le_8, j_ge_8, j_eq_8, j_lt_12, j_gt_12, j_le_12, j_ge_12, j_eq_12, j_lt_209, j_gt_209, j_le_209, j_ge_209, j_eq_209, j_lt_255, j_gt_255, j_le_255, j_ge_255, j_eq_255, j_lt_1000000000, j_gt_1000000000, j_le_1000000000, j_ge_1000000000, j_eq_1000000000, kc_free C W, bI_0, kc_begs C W hs]
        rw [dcd_c (dn_free W)]
        by_cases hfr : ∀ o, o < pM P → pOv P s o = true → all.testBit o = true → set.testBit o = true
        · rw [dcd_t hfr, if_neg (by decide), if_pos h2]
          have hc : cand P all set s := ⟨hs, hq, hst, hfr⟩
          obtain ⟨τ1, cc1, ch1, ct1, e1, e2, e3, e4⟩ := kc_g62 (tb := tb) (d := d) (c := c) (t := t) (g := g) (fl := fl) ht C0 W ha hall hS T hT hc (bgn P s) 0 τ cc ch ct (by omega) hF h8 hG
          obtain ⟨τ', cc', ch', ct', f1, f2⟩ := ih (s + 1) τ1 cc1 ch1 ct1 _ _ (by omega) e2 e3 e4
          exact ⟨τ', cc', ch', ct', e1.trans f1, f2⟩
        · rw [dcd_f hfr, if_pos rfl]
          exact skp fun z => hfr z.2.2.2
      · rw [if_neg (by decide)]
        exact skp fun z => by have := z.2.2.1; rw [hst] at this; exact absurd this (by decide)
theorem kc_gath (ht : 296 ≤ tg) (C0 : ShC P fl σ) (W : Wf P) (ha : all < 256) (h9 : σ 46 9 = Int32.ofNat all) (hall : ∀ s, all.testBit s = true → s < pM P ∧ 2 ≤ pN P s) (hS : set < 256) (T : TbC P all R σ tg set) (hT : ∀ s b, all.testBit s = true → b < bgn P s → σ 50 (11 * s + b) = Int32.ofNat (tkN P s b)) : ∃ τ cc ch ct, dX tb (d + 1) 21 0 [.ref 46, .int (Int32.ofNat (set ||| nlm all)), .null, .null, .null] [] (c, t, hp g (SH fl tg) σ) = some (none, (c, t, hp g (SH fl tg) τ)) ∧ FrG σ τ ∧ τ 46 8 = Int32.ofNat cc ∧ Gat P all R set 88 τ cc ch ct := by
  rw [sg_X2_gatherChoices_0]
  simp only [Option.bind_some, as_I, as_R, as_V, ct_t, ct_f, if_true, if_false, Bool.true_and, Bool.and_true, Bool.or_true, Bool.true_or, gi_45_0, gi_45_1, gi_45_2, gi_45_3, gi_47_0, gi_47_1, gi_47_2, gi_47_3, gi_46_8, gi_46_9, gi_46_10, gi_46_15, gi_46_16, pi_45_0, pi_45_1, pi_45_2, pi_45_3, pi_47_0, pi_47_1, pi_47_2, pi_47_3, pi_46_8, pi_46_9, pi_46_10, pi_46_15, pi_46_16, gr_46_0, gr_46_1, gr_46_2, gr_46_3, gr_46_4, gr_46_5, gr_46_6, gr_46_7, gr_46_11, gr_46_12, gr_46_13, gr_46_14, ld_50, ld_51, ld_52, ld_53, ld_54, ld_55, ld_56, ld_t, ld_b, sv_50, sv_51, sv_52, sv_53, sv_54, sv_55, sv_56, sv_t, sv_b, is_45, is_47, is_46]
  exact kc_g7 ht C0 W ha h9 hall hS T hT (pM P) 0 (up2 σ 46 8 0) 0 (fun _ => 0) (fun _ => 0) .null .null (by omega) (FrG_up (by omega)) (up2_s _ _ _ _) ⟨by omega, fun i hi => absurd hi (Nat.not_lt_zero i), fun s b r a1 a2 a3 => by omega, fun i j a1 a2 => absurd a2 (Nat.not_lt_zero j)⟩
/-- the best choice from a slot -/
def bval (P : dP) (A : dA) (f : Nat) (ch ct : Nat → Nat) (i : Nat) : Nat := tbF P A f (ch i / 11) (ch i % 11) + ct i
def IsC (P : dP) (A : dA) (f : Nat) (ch ct : Nat → Nat) (cc k : Nat) : Prop := k < cc ∧ (∀ j, j < cc → bval P A f ch ct k ≤ bval P A f ch ct j) ∧ ∀ j, j < k → bval P A f ch ct k < bval P A f ch ct j
theorem tbF_le' (W : Wf P) {f s b : Nat} {fr fb : Int32} (hx : A.1 ≤ 500) (hy : A.2.1 ≤ 500) (hf : frm P f fr fb) (hs : s < pM P) (h2 : 2 ≤ pN P s) : tbF P A f s b ≤ 5697 := by
  have x1 := dXn_le (b := b) (k := 0) W hs (by omega)
  have y1 := dYn_le (b := b) (k := 0) W hs (by omega)
  unfold tbF
  rcases hf with ⟨rfl, -⟩ | ⟨h1, -, -, h3, h4, h5⟩
  · rw [if_pos rfl]
    exact tbW_le W (way_le hx hy x1 y1)
  · rw [if_neg (by omega)]
    exact tbW_le W (way_le (dXn_le W h3 (by omega)) (dYn_le W h3 (by omega)) x1 y1)
theorem Gat_at (W : Wf P) (hall : ∀ s, all.testBit s = true → s < pM P ∧ 2 ≤ pN P s) (hS : set < 256) {f cc : Nat} {ch ct : Nat → Nat} {fr fb : Int32} (hx : A.1 ≤ 500) (hy : A.2.1 ≤ 500) (hf : frm P f fr fb) (hR : ∀ s b, cand P all set s → b < bgn P s → bnd (set ||| 2 ^ s) (R (set ||| 2 ^ s) (11 * s + b))) (G : Gat P all R set 88 σ cc ch ct) {i : Nat} (hi : i < cc) : ∃ s b r, cand P all set s ∧ b < bgn P s ∧ ch i = 11 * s + b ∧ R (set ||| 2 ^ s) (11 * s + b) = some r ∧ bval P A f ch ct i = tbF P A f s b + tkN P s b + r ∧ bval P A f ch ct i ≤ 60000 * (256 - set) ∧ ch i < 88 ∧ ct i ≤ 60000 * 256 ∧ tbF P A f s b ≤ 5697 := by
  obtain ⟨b1, b2, s, b, r, b3, b4, b5, b6, b7, b8⟩ := G.2.1 i hi
  have h11 := bgn_11 W b3.1
  obtain ⟨q1, q2⟩ := hall s b3.2.1
  have htb := tbF_le' (b := b) W hx hy hf b3.1 q2
  have htk := tkN_le (b := b) W b3.1 (by omega)
  have hr := hR s b b3 b4 r b7
  have hgt := or_gt b3.2.2.1
  have hlt := or_lt hS (Nat.lt_of_lt_of_le b3.1 W.1)
  have hv : bval P A f ch ct i = tbF P A f s b + tkN P s b + r := by
    unfold bval
    rw [b6, show (11 * s + b) / 11 = s by omega, show (11 * s + b) % 11 = b by omega, b8]
    omega
  exact ⟨s, b, r, b3, b4, b6, b7, hv, by omega, by omega, by omega, htb⟩
theorem kc_best14 (ht : 296 ≤ tg) (W : Wf P) (hall : ∀ s, all.testBit s = true → s < pM P ∧ 2 ≤ pN P s) (hS : set < 256) {f cc : Nat} {ch ct : Nat → Nat} {fr fb : Int32} (hf8 : f ≤ 88) (hx : A.1 ≤ 500) (hy : A.2.1 ≤ 500) (hf : frm P f fr fb) (hR : ∀ s b, cand P all set s → b < bgn P s → bnd (set ||| 2 ^ s) (R (set ||| 2 ^ s) (11 * s + b))) (G : Gat P all R set 88 σ cc ch ct) (h8 : σ 46 8 = Int32.ofNat cc) (hB : ∀ s b, all.testBit s = true → b < bgn P s → σ (tg + 1) (f * 88 + (11 * s + b)) = Int32.ofNat (tbF P A f s b)) {l1 : Int32} : ∀ q i k (l6 : Value), i + q = cc → k < i → (∀ j, j < i → bval P A f ch ct k ≤ bval P A f ch ct j) → (∀ j, j < k → bval P A f ch ct k < bval P A f ch ct j) → ∃ k', dX tb d 23 14 [.ref 46, .int l1, .int (Int32.ofNat k), .int (Int32.ofNat (bval P A f ch ct k)), .int (Int32.ofNat (f * 88)), .int (Int32.ofNat i), l6] [] (c, t, hp g (SH fl tg) σ) = some (some (.int (Int32.ofNat k')), (c, t, hp g (SH fl tg) σ)) ∧ IsC P A f ch ct cc k' := by
  have hcc := G.1
  intro q
  induction q with
  | zero =>
    intro i k l6 hi hk h1 h2
    have h3 : cc ≤ i := by omega
    refine ⟨k, ?_, by omega, fun j hj => h1 j (by omega), h2⟩
    rw [sg_X2_bestChoice_14]
    simp (disch := omega) only [Option.bind_some, as_I, as_R, as_V, ct_t, ct_f, if_true, if_false, Bool.true_and, Bool.and_true, Bool.or_true, Bool.true_or, gi_45_0, gi_45_1, gi_45_2, gi_45_3, gi_47_0, gi_47_1, gi_47_2, gi_47_3, gi_46_8, gi_46_9, gi_46_10, gi_46_15, gi_46_16, pi_45_0, pi_45_1, pi_45_2, pi_45_3, pi_47_0, pi_47_1, pi_47_2, pi_47_3, pi_46_8, pi_46_9, pi_46_10, pi_46_15, pi_46_16, gr_46_0, gr_46_1, gr_46_2, gr_46_3, gr_46_4, gr_46_5, gr_46_6, gr_46_7, gr_46_11, gr_46_12, gr_46_13, gr_46_14, ld_50, ld_51, ld_52, ld_53, ld_54, ld_55, ld_56, ld_t, ld_b, sv_50, sv_51, sv_52, sv_53, sv_54, sv_55, sv_56, sv_t, sv_b, is_45, is_47, is_46, ia_0, ia_1, is_m0, is_m1, im_8, ml_8, im_11, ml_11, im_12, ml_12, im_88, ml_88, im_89, ml_89, j_lt_0, j_gt_0, j_le_0, j_ge_0, j_eq_0, j_lt_1, j_gt_1, j_le_1, j_ge_1, j_eq_1, j_lt_2, j_gt_2, j_le_2, j_ge_2, j_eq_2, j_lt_3, j_gt_3, j_le_3, j_ge_3, j_eq_3, j_lt_4, j_gt_4, j_le_4, j_ge_4, j_eq_4, j_lt_5, j_gt_5, j_le_5, j_ge_5, j_eq_5, j_lt_6, j_gt_6, j_le_6, j_ge_6, j_eq_6, j_lt_8, j_gt_8, j_le_8, j_ge_8, j_eq_8, j_lt_12, j_gt_12, j_le_12, j_ge_12, j_eq_12, j_lt_209, j_gt_209, j_le_209, j_ge_209, j_eq_209, j_lt_255, j_gt_255, j_le_255, j_ge_255, j_eq_255, j_lt_1000000000, j_gt_1000000000, j_le_1000000000, j_ge_1000000000, j_eq_1000000000, h8, i_le, h3]
  | succ q ih =>
    intro i k l6 hi hk h1 h2
    have h3 : ¬ cc ≤ i := by omega
    obtain ⟨g1, g2, -⟩ := G.2.1 i (by omega)
    obtain ⟨s, b, r, a1, a2, a3, a4, a5, a6, a7, a8, a9⟩ := Gat_at W hall hS hx hy hf hR G (show i < cc by omega)
    obtain ⟨_, _, _, _, _, _, _, _, k6, _⟩ := Gat_at W hall hS hx hy hf hR G (show k < cc by omega)
    have eB := hB s b a1.2.1 a2
    rw [← a3] at eB
    have ev : tbF P A f s b + ct i = bval P A f ch ct i := by
      unfold bval
      have := bgn_11 W a1.1
      rw [a3, show (11 * s + b) / 11 = s by omega, show (11 * s + b) % 11 = b by omega]
    rw [sg_X2_bestChoice_14]
    simp (disch := omega) only [Option.bind_some, as_I, as_R, as_V, ct_t, ct_f, if_true, if_false, Bool.true_and, Bool.and_true, Bool.or_true, Bool.true_or, gi_45_0, gi_45_1, gi_45_2, gi_45_3, gi_47_0, gi_47_1, gi_47_2, gi_47_3, gi_46_8, gi_46_9, gi_46_10, gi_46_15, gi_46_16, pi_45_0, pi_45_1, pi_45_2, pi_45_3, pi_47_0, pi_47_1, pi_47_2, pi_47_3, pi_46_8, pi_46_9, pi_46_10, pi_46_15, pi_46_16, gr_46_0, gr_46_1, gr_46_2, gr_46_3, gr_46_4, gr_46_5, gr_46_6, gr_46_7, gr_46_11, gr_46_12, gr_46_13, gr_46_14, ld_50, ld_51, ld_52, ld_53, ld_54, ld_55, ld_56, ld_t, ld_b, sv_50, sv_51, sv_52, sv_53, sv_54, sv_55, sv_56, sv_t, sv_b, is_45, is_47, is_46, ia_0, ia_1, is_m0, is_m1, im_8, ml_8, im_11, ml_11, im_12, ml_12, im_88, ml_88, im_89, ml_89, j_lt_0, j_gt_0, j_le_0, j_ge_0, j_eq_0, j_lt_1, j_gt_1, j_le_1, j_ge_1, j_eq_1, j_lt_2, j_gt_2, j_le_2, j_ge_2, j_eq_2, j_lt_3, j_gt_3, j_le_3, j_ge_3, j_eq_3, j_lt_4, j_gt_4, j_le_4, j_ge_4, j_eq_4, j_lt_5, j_gt_5, j_le_5, j_ge_5, j_eq_5, j_lt_6, j_gt_6, j_le_6, j_ge_6, j_eq_6, j_lt_8, j_gt_8, j_le_8, j_ge_8, j_eq_8, j_lt_12, j_gt_12, j_le_12, j_ge_12, j_eq_12, j_lt_209, j_gt_209, j_le_209, j_ge_209, j_eq_209, j_lt_255, j_gt_255, j_le_255, j_ge_255, j_eq_255, j_lt_1000000000, j_gt_1000000000, j_le_1000000000, j_ge_1000000000, j_eq_1000000000, h8, i_le, h3, g1, g2, i_add, eB, ev]
    by_cases q2 : bval P A f ch ct k ≤ bval P A f ch ct i
    · rw [if_pos q2]
      exact ih (i + 1) k _ (by omega) (by omega) (fun j hj => by
        by_cases e : j = i
        · subst e; exact q2
        · exact h1 j (by omega)) h2
    · rw [if_neg q2]
      exact ih (i + 1) i _ (by omega) (by omega) (fun j hj => by
        by_cases e : j = i
        · subst e; exact Nat.le_refl _
        · have := h1 j (by omega); omega) (fun j hj => by have := h1 j hj; omega)
theorem kc_b0 (h8 : σ 46 8 = 0) (l1 l2 l3 l4 : Int32) (l6 : Value) : dX tb d 23 14 [.ref 46, .int l1, .int l2, .int l3, .int l4, .int 0, l6] [] (c, t, hp g (SH fl tg) σ) = some (some (.int l2), (c, t, hp g (SH fl tg) σ)) := by
  rw [sg_X2_bestChoice_14, gi_46_8, Option.bind_some, h8, if_pos (by decide)]
theorem kc_b1 (ht : 296 ≤ tg) {f cc v w z : Nat} (h8 : σ 46 8 = Int32.ofNat cc) (hc : 0 < cc) (hc8 : cc ≤ 88) (g1 : σ 51 0 = Int32.ofNat v) (g2 : σ 52 0 = Int32.ofNat z) (eB : σ (tg + 1) (f * 88 + v) = Int32.ofNat w) (hv : f * 88 + v < 7832) (l1 l2 l3 : Int32) (l6 : Value) (h : ¬ l3 ≤ Int32.ofNat (w + z)) : dX tb d 23 14 [.ref 46, .int l1, .int l2, .int l3, .int (Int32.ofNat (f * 88)), .int 0, l6] [] (c, t, hp g (SH fl tg) σ) = dX tb d 23 14 [.ref 46, .int l1, .int 0, .int (Int32.ofNat (w + z)), .int (Int32.ofNat (f * 88)), .int (0 + 1), .int (Int32.ofNat (w + z))] [] (c, t, hp g (SH fl tg) σ) := by
  rw [sg_X2_bestChoice_14, gi_46_8, Option.bind_some, h8]
  rw [if_neg (by rw [show (0 : Int32) = Int32.ofNat 0 from rfl, i_le (by omega) (by omega)]; omega)]
  rw [gr_46_4, Option.bind_some, gr_46_6, Option.bind_some, show dm_ldI (c, t, hp g (SH fl tg) σ) 51 0 0 = some (σ 51 0) from ld_51 (m := 0) (by decide), Option.bind_some, g1, i_add, ld_b ht hv, Option.bind_some, eB, gr_46_7, Option.bind_some, show dm_ldI (c, t, hp g (SH fl tg) σ) 52 0 0 = some (σ 52 0) from ld_52 (m := 0) (by decide), Option.bind_some, g2, i_add, if_neg h]
theorem kc_bz {a : Nat} (h : a < 1000000000) : ¬ (1000000000 : Int32) ≤ Int32.ofNat a := by
  rw [j_ge_1000000000 (by omega)]; omega
theorem kc_best (ht : 296 ≤ tg) (W : Wf P) (hall : ∀ s, all.testBit s = true → s < pM P ∧ 2 ≤ pN P s) (hS : set < 256) {f cc : Nat} {ch ct : Nat → Nat} {fr fb : Int32} (hf8 : f ≤ 88) (hx : A.1 ≤ 500) (hy : A.2.1 ≤ 500) (hf : frm P f fr fb) (hR : ∀ s b, cand P all set s → b < bgn P s → bnd (set ||| 2 ^ s) (R (set ||| 2 ^ s) (11 * s + b))) (G : Gat P all R set 88 σ cc ch ct) (h8 : σ 46 8 = Int32.ofNat cc) (hB : ∀ s b, all.testBit s = true → b < bgn P s → σ (tg + 1) (f * 88 + (11 * s + b)) = Int32.ofNat (tbF P A f s b)) : (cc = 0 ∧ dX tb d 23 0 [.ref 46, .int (Int32.ofNat f), .null, .null, .null, .null, .null] [] (c, t, hp g (SH fl tg) σ) = some (some (.int (-1)), (c, t, hp g (SH fl tg) σ))) ∨ ∃ k, dX tb d 23 0 [.ref 46, .int (Int32.ofNat f), .null, .null, .null, .null, .null] [] (c, t, hp g (SH fl tg) σ) = some (some (.int (Int32.ofNat k)), (c, t, hp g (SH fl tg) σ)) ∧ IsC P A f ch ct cc k := by
  by_cases hz : cc = 0
  · exact Or.inl ⟨hz, (sg_X2_bestChoice_0 tb d 46 _ _).trans (kc_b0 (by rw [h8, hz]; rfl) _ _ _ _ _)⟩
  · refine Or.inr ?_
    obtain ⟨g1, g2, -⟩ := G.2.1 0 (by omega)
    obtain ⟨s, b, r, a1, a2, a3, a4, a5, a6, a7, a8, a9⟩ := Gat_at W hall hS hx hy hf hR G (show 0 < cc by omega)
    have hcc := G.1
    have eB := hB s b a1.2.1 a2
    rw [← a3] at eB
    have ev : tbF P A f s b + ct 0 = bval P A f ch ct 0 := by
      unfold bval
      have := bgn_11 W a1.1
      rw [a3, show (11 * s + b) / 11 = s by omega, show (11 * s + b) % 11 = b by omega]
    obtain ⟨k, k1, k2⟩ := kc_best14 (tb := tb) (d := d) (c := c) (t := t) (g := g) (fl := fl) ht W hall hS hf8 hx hy hf hR G h8 hB (l1 := Int32.ofNat f) (cc - 1) 1 0 (.int (Int32.ofNat (bval P A f ch ct 0))) (by omega) (by omega) (fun j hj => by rw [show j = 0 by omega]; exact Nat.le_refl _) (fun j hj => absurd hj (Nat.not_lt_zero j))
    have k0 := kc_b1 (tb := tb) (d := d) (c := c) (t := t) (g := g) (fl := fl) ht h8 (by omega) hcc g1 g2 eB (by omega) (Int32.ofNat f) (-1) 1000000000 .null (kc_bz (by omega))
    rw [ev] at k0
    have e0 := sg_X2_bestChoice_0 tb d 46 (Int32.ofNat f) (c, t, hp g (SH fl tg) σ)
    rw [im_88] at e0
    exact ⟨k, e0.trans (k0.trans k1), k2⟩
end CGA
