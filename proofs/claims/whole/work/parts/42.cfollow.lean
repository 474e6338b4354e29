/-! THE CLASS'S PLAN, sixth part: the order -/
section CFO
variable {tb : dT} {d c t : Nat} {g : Nat → Option dE} {fl : Nat → Bool} {tg : Nat} {σ : dSg} {P : dP} {A : dA} {all set : Nat} {R : dTab}
def OrC (P : dP) (A : dA) (os ob : Nat → Nat) (i : Nat) (σ : dSg) : Prop := ∀ j, j < i → σ 53 j = Int32.ofNat (os j) ∧ σ 54 j = Int32.ofNat (ob j) ∧ σ 55 j = Int32.ofNat (tkN P (os j) (ob j)) ∧ σ 56 j = Int32.ofNat (tbF P A (pF os ob j) (os j) (ob j))
/-- what following changes -/
def FrF (σ τ : dSg) : Prop := (∀ a, a < 51 ∨ 57 ≤ a → a ≠ 46 → τ a = σ a) ∧ ∀ j, j ≠ 8 → j ≠ 15 → j ≠ 16 → τ 46 j = σ 46 j
theorem FrF_refl (σ : dSg) : FrF σ σ := ⟨fun _ _ _ => rfl, fun _ _ _ _ => rfl⟩
theorem FrF_trans {σ τ υ : dSg} (h : FrF σ τ) (h2 : FrF τ υ) : FrF σ υ := ⟨fun a a1 a2 => (h2.1 a a1 a2).trans (h.1 a a1 a2), fun j a1 a2 a3 => (h2.2 j a1 a2 a3).trans (h.2 j a1 a2 a3)⟩
theorem FrF_G {τ : dSg} (h : FrG σ τ) : FrF σ τ := ⟨fun a a1 a2 => h.1 a (by omega) (by omega) a2, fun j a1 _ _ => h.2 j a1⟩
theorem FrF_up {a j : Nat} {v : Int32} (h : (51 ≤ a ∧ a < 57) ∨ (a = 46 ∧ (j = 8 ∨ j = 15 ∨ j = 16))) : FrF σ (up2 σ a j v) := ⟨fun b _ _ => up2_row σ v (by omega), fun k _ _ _ => up2_n σ v (by omega)⟩
theorem kc_f66 (ht : 296 ≤ tg) (W : Wf P) {f i k s b : Nat} (hi : i < 8) (hk : k < 88) (hs : s < 8) (hb : b < 11) (hf8 : f ≤ 88) {dn : Nat} (hdn : dn < 256) (h51 : σ 51 k = Int32.ofNat (11 * s + b)) (h50 : σ 50 (11 * s + b) = Int32.ofNat (tkN P s b)) (hB : σ (tg + 1) (f * 88 + (11 * s + b)) = Int32.ofNat (tbF P A f s b)) {l3 : Int32} {l6 : Value} : dX tb (d + 1) 25 66 [.ref 46, .int (Int32.ofNat f), .int (Int32.ofNat dn), .int l3, .int (Int32.ofNat i), .int (Int32.ofNat k), l6] [] (c, t, hp g (SH fl tg) σ) = dX tb (d + 1) 25 25 [.ref 46, .int (Int32.ofNat (11 * s + b)), .int (Int32.ofNat (dn ||| 2 ^ s)), .int l3, .int (Int32.ofNat (i + 1)), .int (Int32.ofNat k), .int (Int32.ofNat (11 * s + b))] [] (c, t, hp g (SH fl tg) (up2 (up2 (up2 (up2 (up2 σ 53 i (Int32.ofNat s)) 54 i (Int32.ofNat b)) 55 i (Int32.ofNat (tkN P s b))) 56 i (Int32.ofNat (tbF P A f s b))) 46 15 (Int32.ofNat (i + 1)))) := by
  have e1 : (11 * s + b) / 11 = s := by omega
  have e2 : (11 * s + b) % 11 = b := by omega
  rw [sg_X2_follow_66]
  simp (disch := omega) only [Option.bind_some, as_I, as_R, as_V, ct_t, ct_f, if_true, if_false, Bool.true_and, Bool.and_true, Bool.or_true, Bool.true_or, gi_45_0, gi_45_1, gi_45_2, gi_45_3, gi_47_0, gi_47_1, gi_47_2, gi_47_3, gi_46_8, gi_46_9, gi_46_10, gi_46_15, gi_46_16, pi_45_0, pi_45_1, pi_45_2, pi_45_3, pi_47_0, pi_47_1, pi_47_2, pi_47_3, pi_46_8, pi_46_9, pi_46_10, pi_46_15, pi_46_16, gr_46_0, gr_46_1, gr_46_2, gr_46_3, gr_46_4, gr_46_5, gr_46_6, gr_46_7, gr_46_11, gr_46_12, gr_46_13, gr_46_14, ld_50, ld_51, ld_52, ld_53, ld_54, ld_55, ld_56, ld_t, ld_b, sv_50, sv_51, sv_52, sv_53, sv_54, sv_55, sv_56, sv_t, sv_b, is_45, is_47, is_46, im_88, ia_1, h51, i_mod11, e2, up2_row, up2_n, h50, hB, i_add, up2_s]
  simp (disch := omega) only [Option.bind_some, as_I, as_R, as_V, ct_t, ct_f, if_true, if_false, Bool.true_and, Bool.and_true, Bool.or_true, Bool.true_or, gi_45_0, gi_45_1, gi_45_2, gi_45_3, gi_47_0, gi_47_1, gi_47_2, gi_47_3, gi_46_8, gi_46_9, gi_46_10, gi_46_15, gi_46_16, pi_45_0, pi_45_1, pi_45_2, pi_45_3, pi_47_0, pi_47_1, pi_47_2, pi_47_3, pi_46_8, pi_46_9, pi_46_10, pi_46_15, pi_46_16, gr_46_0, gr_46_1, gr_46_2, gr_46_3, gr_46_4, gr_46_5, gr_46_6, gr_46_7, gr_46_11, gr_46_12, gr_46_13, gr_46_14, ld_50, ld_51, ld_52, ld_53, ld_54, ld_55, ld_56, ld_t, ld_b, sv_50, sv_51, sv_52, sv_53, sv_54, sv_55, sv_56, sv_t, sv_b, is_45, is_47, is_46, i_div11, e1, up2_row, up2_n, up2_s, h50, hB, b_or]
theorem kc_foL (ht : 296 ≤ tg) (C0 : ShC P fl σ) (W : Wf P) (hall : ∀ s, all.testBit s = true → s < pM P ∧ 2 ≤ pN P s) (ha : all < 256) (h9 : σ 46 9 = Int32.ofNat all) (hx : A.1 ≤ 500) (hy : A.2.1 ≤ 500) (hB : SlI P A all tg σ 88) (hI : InvD P A all R σ tg 0) : ∀ n i (os ob : Nat → Nat) (τ : dSg) (sum : Option Nat) (fr fb : Int32) (l5 l6 : Value), i + n = pc8 all → pS os i < 256 → sub (pS os i) all → inO P all (pS os i) → pc8 (pS os i) = i → frm P (pF os ob i) fr fb → pF os ob i ≤ 88 → (i ≠ 0 → (pS os i).testBit (pF os ob i / 11) = true) → FrF σ τ → τ 46 15 = Int32.ofNat i → τ 46 16 = encM sum → (i = 0 → sum = none) → (i ≠ 0 → sum ≠ none ∧ IsB P A all R 0 88 sum ∧ bnd 0 sum ∧ ∃ w, IsB P A all R (pS os i) (pF os ob i) (some w)) → OrC P A os ob i τ → (∀ j, j < i → IsF P A all R (pS os j) (pF os ob j) (os j) (ob j)) → (i = 0 → pc8 all ≠ 0) →
    ∃ k os' ob' τ' sum', dX tb (d + 2) 25 25 [.ref 46, .int (Int32.ofNat (pF os ob i)), .int (Int32.ofNat (pS os i ||| nlm all)), .int (Int32.ofNat (pc8 all)), .int (Int32.ofNat i), l5, l6] [] (c, t, hp g (SH fl tg) τ) = some (none, (c, t, hp g (SH fl tg) (τ'))) ∧ FrF σ τ' ∧ k ≤ 8 ∧ τ' 46 15 = Int32.ofNat k ∧ τ' 46 16 = encM sum' ∧ OrC P A os' ob' k τ' ∧ IsB P A all R 0 88 sum' ∧ bnd 0 sum' ∧ (sum' = none → k = 0) ∧ (sum' ≠ none → pS os' k = all ∧ ∀ j, j < k → IsF P A all R (pS os' j) (pF os' ob' j) (os' j) (ob' j)) := by
  have hm := W.1
  have h88 := pc8_le all
  have hT : TabI P A all R := fun set' a1 a2 a3 s b a4 a5 => (hI set' s b (Nat.zero_le _) a1 a2 a3 a4 a5).2.1
  intro n
  induction n with
  | zero =>
    intro i os ob τ sum fr fb l5 l6 h hS hsub hin hpc hf hf8 hft hF h15 h16 hs0 hs1 hO hP hne
    have h1 : pc8 all ≤ i := by omega
    have hi0 : i ≠ 0 := fun z => hne z (by omega)
    obtain ⟨n1, n2, n3, -⟩ := hs1 hi0
    refine ⟨i, os, ob, τ, sum, ?_, hF, by omega, h15, h16, hO, n2, n3, fun z => absurd z n1, fun _ => ⟨pc8_eq hS ha hsub (by omega), hP⟩⟩
    rw [sg_X2_follow_25]
    simp (disch := omega) only [Option.bind_some, as_I, as_R, as_V, ct_t, ct_f, if_true, if_false, Bool.true_and, Bool.and_true, Bool.or_true, Bool.true_or, ia_0, ia_1, is_m0, is_m1, im_8, ml_8, im_11, ml_11, im_12, ml_12, im_88, ml_88, im_89, ml_89, j_lt_0, j_gt_0, j_le_0, j_ge_0, j_eq_0, j_lt_1, j_gt_1, j_le_1, j_ge_1, j_eq_1, j_lt_2, j_gt_2, j_le_2, j_ge_2, j_eq_2, j_lt_3, j_gt_3, j_le_3, j_ge_3, j_eq_3, j_lt_4, j_gt_4, j_le_4, j_ge_4, j_eq_4, j_lt_5, j_gt_5, j_le_5, j_ge_5, j_eq_5, j_lt_6, j_gt_6, j_le_6, j_ge_6, j_eq_6, j_lt_8, j_gt_8, j_le_8, j_ge_8, j_eq_8, j_lt_12, j_gt_12, j_le_12, j_ge_12, j_eq_12, j_lt_209, j_gt_209, j_le_209, j_ge_209, j_eq_209, j_lt_255, j_gt_255, j_le_255, j_ge_255, j_eq_255, j_lt_1000000000, j_gt_1000000000, j_le_1000000000, j_ge_1000000000, j_eq_1000000000, i_le, h1]
  | succ n ih =>
    intro i os ob τ sum fr fb l5 l6 h hS hsub hin hpc hf hf8 hft hF h15 h16 hs0 hs1 hO hP hne
    have h1 : ¬ pc8 all ≤ i := by omega
    have hi8 : i < 8 := by omega
    have hq : pS os i ≠ all := fun z => by rw [z] at hpc; omega
    have hdn := dn_lt hS ha
    have C : ShC P fl τ := ShC_congr W C0 fun a ha => hF.1 a (by omega) (by omega)
    have h9' : τ 46 9 = Int32.ofNat all := by rw [hF.2 9 (by decide) (by decide) (by decide)]; exact h9
    have f50 := hF.1 50 (by omega) (by omega)
    have ftg := hF.1 tg (by omega) (by omega)
    have ftb := hF.1 (tg + 1) (by omega) (by omega)
    have T : TbC P all R τ tg (pS os i) := fun s b hc hb => by
      have e := hI (pS os i ||| 2 ^ s) s b (Nat.zero_le _) (or_lt hS (Nat.lt_of_lt_of_le hc.1 W.1)) (cand_sub hc hsub) (cand_inO hc hin) (cand_tb P _ s) hb
      rw [ftg]
      exact ⟨e.1, e.2.2⟩
    obtain ⟨τ1, cc, ch, ct, e1, e2, e3, e4⟩ := kc_gath (tb := tb) (d := d) (c := c) (t := t) (g := g) (fl := fl) ht C W ha h9' hall hS T (fun s b a1 a2 => by rw [f50]; exact (hB.2 s b a1 a2 (by have := bgn_11 W (hall s a1).1; have := (hall s a1).1; omega)).1)
    have rows : ∀ s b, all.testBit s = true → b < bgn P s → τ1 (tg + 1) (pF os ob i * 88 + (11 * s + b)) = Int32.ofNat (tbF P A (pF os ob i) s b) := fun s b a1 a2 => by
      rw [e2.1 (tg + 1) (by omega) (by omega) (by omega), ftb]
      rcases hf with ⟨q1, -⟩ | ⟨q1, -, -, q2, q3, q4⟩
      · rw [q1]; exact hB.1 s b a1 a2
      · have hi0 : i ≠ 0 := fun z => by subst z; exact absurd q1 (by show ¬ (88 < 88); omega)
        have := (hB.2 (pF os ob i / 11) (pF os ob i % 11) (hsub _ (hft hi0)) q3 (by omega)).2 s b a1 a2
        rw [show 11 * (pF os ob i / 11) + pF os ob i % 11 = pF os ob i by omega] at this
        exact this
    rw [sg_X2_follow_25]
    simp (disch := omega) only [Option.bind_some, as_I, as_R, as_V, ct_t, ct_f, if_true, if_false, Bool.true_and, Bool.and_true, Bool.or_true, Bool.true_or, gi_45_0, gi_45_1, gi_45_2, gi_45_3, gi_47_0, gi_47_1, gi_47_2, gi_47_3, gi_46_8, gi_46_9, gi_46_10, gi_46_15, gi_46_16, pi_45_0, pi_45_1, pi_45_2, pi_45_3, pi_47_0, pi_47_1, pi_47_2, pi_47_3, pi_46_8, pi_46_9, pi_46_10, pi_46_15, pi_46_16, gr_46_0, gr_46_1, gr_46_2, gr_46_3, gr_46_4, gr_46_5, gr_46_6, gr_46_7, gr_46_11, gr_46_12, gr_46_13, gr_46_14, ld_50, ld_51, ld_52, ld_53, ld_54, ld_55, ld_56, ld_t, ld_b, sv_50, sv_51, sv_52, sv_53, sv_54, sv_55, sv_56, sv_t, sv_b, is_45, is_47, is_46, ia_0, ia_1, is_m0, is_m1, im_8, ml_8, im_11, ml_11, im_12, ml_12, im_88, ml_88, im_89, ml_89, j_lt_0, j_gt_0, j_le_0, j_ge_0, j_eq_0, j_lt_1, j_gt_1, j_le_1, j_ge_1, j_eq_1, j_lt_2, j_gt_2, j_le_2, j_ge_2, j_eq_2, j_lt_3, j_gt_3, j_le_3, j_ge_3, j_eq_3, j_lt_4, j_gt_4, j_le_4, j_ge_4, j_eq_4, j_lt_5, j_gt_5, j_le_5, j_ge_5, j_eq_5, j_lt_6, j_gt_6, j_le_6, j_ge_6, j_eq_6, j_lt_8, j_gt_8, j_le_8, j_ge_8, j_eq_8, j_lt_12, j_gt_12, j_le_12, j_ge_12, j_eq_12, j_lt_209, j_gt_209, j_le_209, j_ge_209, j_eq_209, j_lt_255, j_gt_255, j_le_255, j_ge_255, j_eq_255, j_lt_1000000000, j_gt_1000000000, j_le_1000000000, j_ge_1000000000, j_eq_1000000000, i_le, h1, e1]
    rcases kc_pick (tb := tb) (d := d + 1) (c := c) (t := t) (g := g) (fl := fl) ht W hall hS hf8 hx hy hf (TbC_R T) e4 e3 rows hq with ⟨p1, p2⟩ | ⟨k, s1, b1, r, p1, p2, p3, p4, p5, p6, p7, p8⟩
    · simp only [Option.bind_some, as_I, as_R, as_V, ct_t, ct_f, if_true, if_false, Bool.true_and, Bool.and_true, Bool.or_true, Bool.true_or, gi_45_0, gi_45_1, gi_45_2, gi_45_3, gi_47_0, gi_47_1, gi_47_2, gi_47_3, gi_46_8, gi_46_9, gi_46_10, gi_46_15, gi_46_16, pi_45_0, pi_45_1, pi_45_2, pi_45_3, pi_47_0, pi_47_1, pi_47_2, pi_47_3, pi_46_8, pi_46_9, pi_46_10, pi_46_15, pi_46_16, gr_46_0, gr_46_1, gr_46_2, gr_46_3, gr_46_4, gr_46_5, gr_46_6, gr_46_7, gr_46_11, gr_46_12, gr_46_13, gr_46_14, ld_50, ld_51, ld_52, ld_53, ld_54, ld_55, ld_56, ld_t, ld_b, sv_50, sv_51, sv_52, sv_53, sv_54, sv_55, sv_56, sv_t, sv_b, is_45, is_47, is_46, p1, m1_m1]
      by_cases hi0 : i = 0
      · subst hi0
        refine ⟨0, os, ob, τ1, none, rfl, FrF_trans hF (FrF_G e2), by omega, ?_, ?_, fun j hj => absurd hj (Nat.not_lt_zero j), p2, (fun w hw => by cases hw), fun _ => rfl, fun z => absurd rfl z⟩
        · rw [e2.2 15 (by decide)]; exact h15
        · rw [e2.2 16 (by decide), h16, hs0 rfl]
      · obtain ⟨-, -, -, w, hw⟩ := hs1 hi0
        have := IsB_uniq p2 hw (fun _ _ _ _ => rfl)
        cases this
    · have hs8 : s1 < 8 := Nat.lt_of_lt_of_le p6.1.1 hm
      have hb11 : b1 < 11 := Nat.lt_of_lt_of_le p6.2.1 (bgn_11 W p6.1.1)
      have o1 : ∀ j, j < i → os j = (fun j => if j = i then s1 else os j) j := fun j hj => (if_neg (by omega)).symm
      have o2 : ∀ j, j < i → ob j = (fun j => if j = i then b1 else ob j) j := fun j hj => (if_neg (by omega)).symm
      have oi1 : (fun j => if j = i then s1 else os j) i = s1 := if_pos rfl
      have oi2 : (fun j => if j = i then b1 else ob j) i = b1 := if_pos rfl
      generalize (fun j => if j = i then s1 else os j) = os2 at o1 oi1
      generalize (fun j => if j = i then b1 else ob j) = ob2 at o2 oi2
      have pe : ∀ j, j ≤ i → pS os j = pS os2 j := fun j hj => pS_congr fun q hq => o1 q (by omega)
      have fe : ∀ j, j ≤ i → pF os ob j = pF os2 ob2 j := fun j hj => pF_congr fun q hq => ⟨o1 q (by omega), o2 q (by omega)⟩
      have pS1 : pS os2 (i + 1) = pS os i ||| 2 ^ s1 := by show pS os2 i ||| 2 ^ os2 i = _; rw [← pe i (Nat.le_refl _), oi1]
      have pF1 : pF os2 ob2 (i + 1) = 11 * s1 + b1 := by show 11 * os2 i + ob2 i = _; rw [oi1, oi2]
      have hS' := or_lt hS hs8
      have hsub' := cand_sub p6.1 hsub
      have hin' := cand_inO p6.1 hin
      have ent := hI (pS os i ||| 2 ^ s1) s1 b1 (Nat.zero_le _) hS' hsub' hin' (cand_tb P _ s1) p6.2.1
      have key : ∀ (υ : dSg) (sum2 : Option Nat) (l6 : Value), FrF σ υ → υ 51 = τ1 51 → υ 46 16 = encM sum2 → OrC P A os ob i υ → sum2 ≠ none → IsB P A all R 0 88 sum2 → bnd 0 sum2 → ∃ kk os' ob' τ' sum', dX tb (d + 2) 25 66 [.ref 46, .int (Int32.ofNat (pF os ob i)), .int (Int32.ofNat (pS os i ||| nlm all)), .int (Int32.ofNat (pc8 all)), .int (Int32.ofNat i), .int (Int32.ofNat k), l6] [] (c, t, hp g (SH fl tg) υ) = some (none, (c, t, hp g (SH fl tg) (τ'))) ∧ FrF σ τ' ∧ kk ≤ 8 ∧ τ' 46 15 = Int32.ofNat kk ∧ τ' 46 16 = encM sum' ∧ OrC P A os' ob' kk τ' ∧ IsB P A all R 0 88 sum' ∧ bnd 0 sum' ∧ (sum' = none → kk = 0) ∧ (sum' ≠ none → pS os' kk = all ∧ ∀ j, j < kk → IsF P A all R (pS os' j) (pF os' ob' j) (os' j) (ob' j)) := by
        intro υ sum2 l6 u1 u2 u4 u5 u6 u7 u8
        have r50 : υ 50 (11 * s1 + b1) = Int32.ofNat (tkN P s1 b1) := by rw [u1.1 50 (by omega) (by omega)]; exact (hB.2 s1 b1 p6.1.2.1 p6.2.1 (by omega)).1
        have rtb : υ (tg + 1) (pF os ob i * 88 + (11 * s1 + b1)) = Int32.ofNat (tbF P A (pF os ob i) s1 b1) := by
          have := rows s1 b1 p6.1.2.1 p6.2.1
          rw [e2.1 (tg + 1) (by omega) (by omega) (by omega), ftb] at this
          rw [u1.1 (tg + 1) (by omega) (by omega)]; exact this
        rw [kc_f66 ht W hi8 p3 hs8 hb11 hf8 hdn (by rw [u2]; exact p4) r50 rtb, dn_or, ← pS1, ← pF1]
        refine ih (i + 1) os2 ob2 _ sum2 (Int32.ofNat s1) (Int32.ofNat b1) _ _ (by omega) (by rw [pS1]; exact hS') (by rw [pS1]; exact hsub') (by rw [pS1]; exact hin') (by rw [pS1, pc8_or hS hs8 p6.1.2.2.1, hpc]) (by rw [pF1]; exact frm_slot W p6.1.1 p6.2.1 (hall s1 p6.1.2.1).2) (by rw [pF1]; omega) (fun _ => by rw [pF1, pS1, show (11 * s1 + b1) / 11 = s1 by omega]; exact cand_tb P _ s1) (FrF_trans u1 (FrF_trans (FrF_up (by omega)) (FrF_trans (FrF_up (by omega)) (FrF_trans (FrF_up (by omega)) (FrF_trans (FrF_up (by omega)) (FrF_up (by omega))))))) (up2_s _ _ _ _) (by simp (disch := omega) only [up2_n]; exact u4) (fun z => by omega) (fun _ => ⟨u6, u7, u8, r, by rw [pS1, pF1]; have := ent.2.1; rw [p5] at this; exact this⟩) (fun j hj => ?_) (fun j hj => ?_) (fun z => by omega)
        · by_cases hji : j = i
          · subst hji
            rw [oi1, oi2, ← fe j (Nat.le_refl _)]
            simp (disch := omega) only [up2_s, up2_n, and_self]
          · simp (disch := omega) only [up2_n]
            rw [← o1 j (by omega), ← o2 j (by omega), ← fe j (by omega)]
            exact u5 j (by omega)
        · by_cases hji : j = i
          · subst hji
            rw [oi1, oi2, ← fe j (Nat.le_refl _), ← pe j (Nat.le_refl _)]
            exact p6
          · rw [← o1 j (by omega), ← o2 j (by omega), ← fe j (by omega), ← pe j (by omega)]
            exact hP j (by omega)
      have hk1 : (Int32.ofNat k = -1) = False := n_m1 (by omega)
      have hO1 : OrC P A os ob i τ1 := fun j hj => by
        rw [e2.1 53 (by omega) (by omega) (by omega), e2.1 54 (by omega) (by omega) (by omega), e2.1 55 (by omega) (by omega) (by omega), e2.1 56 (by omega) (by omega) (by omega)]
        exact hO j hj
      simp only [Option.bind_some, as_I, as_R, as_V, ct_t, ct_f, if_true, if_false, Bool.true_and, Bool.and_true, Bool.or_true, Bool.true_or, gi_45_0, gi_45_1, gi_45_2, gi_45_3, gi_47_0, gi_47_1, gi_47_2, gi_47_3, gi_46_8, gi_46_9, gi_46_10, gi_46_15, gi_46_16, pi_45_0, pi_45_1, pi_45_2, pi_45_3, pi_47_0, pi_47_1, pi_47_2, pi_47_3, pi_46_8, pi_46_9, pi_46_10, pi_46_15, pi_46_16, gr_46_0, gr_46_1, gr_46_2, gr_46_3, gr_46_4, gr_46_5, gr_46_6, gr_46_7, gr_46_11, gr_46_12, gr_46_13, gr_46_14, ld_50, ld_51, ld_52, ld_53, ld_54, ld_55, ld_56, ld_t, ld_b, sv_50, sv_51, sv_52, sv_53, sv_54, sv_55, sv_56, sv_t, sv_b, is_45, is_47, is_46, p1, hk1]
      by_cases hi0 : i = 0
      · subst hi0
        rw [if_pos rfl]
        simp only [Option.bind_some, as_I, as_R, as_V, ct_t, ct_f, if_true, if_false, Bool.true_and, Bool.and_true, Bool.or_true, Bool.true_or, gi_45_0, gi_45_1, gi_45_2, gi_45_3, gi_47_0, gi_47_1, gi_47_2, gi_47_3, gi_46_8, gi_46_9, gi_46_10, gi_46_15, gi_46_16, pi_45_0, pi_45_1, pi_45_2, pi_45_3, pi_47_0, pi_47_1, pi_47_2, pi_47_3, pi_46_8, pi_46_9, pi_46_10, pi_46_15, pi_46_16, gr_46_0, gr_46_1, gr_46_2, gr_46_3, gr_46_4, gr_46_5, gr_46_6, gr_46_7, gr_46_11, gr_46_12, gr_46_13, gr_46_14, ld_50, ld_51, ld_52, ld_53, ld_54, ld_55, ld_56, ld_t, ld_b, sv_50, sv_51, sv_52, sv_53, sv_54, sv_55, sv_56, sv_t, sv_b, is_45, is_47, is_46, p2]
        exact key _ (some (tbF P A (pF os ob 0) s1 b1 + tkN P s1 b1 + r)) _ (FrF_trans hF (FrF_trans (FrF_G e2) (FrF_up (by omega)))) (up2_row _ _ (by decide)) (up2_s _ _ _ _) (fun j hj => absurd hj (Nat.not_lt_zero j)) (by simp) p7 (fun w hw => by injection hw with hw; have : pS os 0 = 0 := rfl; omega)
      · rw [if_neg hi0]
        obtain ⟨n1, n2, n3, -⟩ := hs1 hi0
        exact key τ1 sum _ (FrF_trans hF (FrF_G e2)) rfl (by rw [e2.2 16 (by decide)]; exact h16) hO1 n1 n2 n3
theorem kc_follow (ht : 296 ≤ tg) (C0 : ShC P fl σ) (W : Wf P) (hall : ∀ s, all.testBit s = true → s < pM P ∧ 2 ≤ pN P s) (ha : all < 256) (h9 : σ 46 9 = Int32.ofNat all) (hx : A.1 ≤ 500) (hy : A.2.1 ≤ 500) (hB : SlI P A all tg σ 88) (hI : InvD P A all R σ tg 0) (h15 : σ 46 15 = 0) (h16 : σ 46 16 = -1) (hne : pc8 all ≠ 0) : ∃ τ sum k os ob, dX tb (d + 2) 25 0 [.ref 46, .null, .null, .null, .null, .null, .null] [] (c, t, hp g (SH fl tg) σ) = some (none, (c, t, hp g (SH fl tg) τ)) ∧ FrF σ τ ∧ IsPlan P A all sum k os ob ∧ τ 46 16 = encM sum ∧ τ 46 15 = Int32.ofNat k ∧ k ≤ 8 ∧ OrC P A os ob k τ ∧ bnd 0 sum := by
  have hz : ∀ s, (0 : Nat).testBit s = true → False := fun s hs => by rw [Nat.zero_testBit] at hs; exact absurd hs (by decide)
  have hT : TabI P A all R := fun set' a1 a2 a3 s b a4 a5 => (hI set' s b (Nat.zero_le _) a1 a2 a3 a4 a5).2.1
  obtain ⟨k, os, ob, τ, sum, e1, e2, e3, e4, e5, e6, e7, e8, e9, e10⟩ := kc_foL (tb := tb) (d := d) (c := c) (t := t) (g := g) (fl := fl) ht C0 W hall ha h9 hx hy hB hI (pc8 all) 0 (fun _ => 0) (fun _ => 0) σ none (-1) 0 .null .null (by omega) (by show 0 < 256; omega) (fun s hs => (hz s hs).elim) (fun s hs => (hz s hs).elim) rfl (Or.inl ⟨rfl, rfl⟩) (Nat.le_refl 88) (fun z => absurd rfl z) (FrF_refl σ) h15 h16 (fun _ => rfl) (fun z => absurd rfl z) (fun j hj => absurd hj (Nat.not_lt_zero j)) (fun j hj => absurd hj (Nat.not_lt_zero j)) (fun _ => hne)
  refine ⟨τ, sum, k, os, ob, ?_, e2, ⟨R, hT, e7, e9, e10⟩, e5, e4, e3, e6, e8⟩
  rw [sg_X2_follow_0]
  simp only [Option.bind_some, as_I, as_R, as_V, ct_t, ct_f, if_true, if_false, Bool.true_and, Bool.and_true, Bool.or_true, Bool.true_or, gi_45_0, gi_45_1, gi_45_2, gi_45_3, gi_47_0, gi_47_1, gi_47_2, gi_47_3, gi_46_8, gi_46_9, gi_46_10, gi_46_15, gi_46_16, pi_45_0, pi_45_1, pi_45_2, pi_45_3, pi_47_0, pi_47_1, pi_47_2, pi_47_3, pi_46_8, pi_46_9, pi_46_10, pi_46_15, pi_46_16, gr_46_0, gr_46_1, gr_46_2, gr_46_3, gr_46_4, gr_46_5, gr_46_6, gr_46_7, gr_46_11, gr_46_12, gr_46_13, gr_46_14, ld_50, ld_51, ld_52, ld_53, ld_54, ld_55, ld_56, ld_t, ld_b, sv_50, sv_51, sv_52, sv_53, sv_54, sv_55, sv_56, sv_t, sv_b, is_45, is_47, is_46, h9, b_cnt _ ha, b_nl ha]
  rw [show pS (fun _ => 0) 0 ||| nlm all = nlm all from Nat.zero_or _] at e1
  exact e1
end CFO
