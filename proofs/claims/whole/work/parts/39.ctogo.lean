/-! THE CLASS'S PLAN, fourth part: the table of what is to go -/
section CTG
variable {tb : dT} {d c t : Nat} {g : Nat → Option dE} {fl : Nat → Bool} {tg : Nat} {σ : dSg} {P : dP} {A : dA} {all set : Nat} {R : dTab}
theorem kc_sum (ht : 296 ≤ tg) {f k v w z : Nat} (hk : k < 88) (g1 : σ 51 k = Int32.ofNat v) (g2 : σ 52 k = Int32.ofNat z) (eB : σ (tg + 1) (f * 88 + v) = Int32.ofNat w) (hv : f * 88 + v < 7832) : dX tb d 24 0 [.ref 46, .int (Int32.ofNat f), .int (Int32.ofNat k)] [] (c, t, hp g (SH fl tg) σ) = some (some (.int (Int32.ofNat (w + z))), (c, t, hp g (SH fl tg) σ)) := by
  rw [sg_X2_sumBy_0]
  simp (disch := omega) only [Option.bind_some, as_I, as_R, as_V, ct_t, ct_f, if_true, if_false, Bool.true_and, Bool.and_true, Bool.or_true, Bool.true_or, gi_45_0, gi_45_1, gi_45_2, gi_45_3, gi_47_0, gi_47_1, gi_47_2, gi_47_3, gi_46_8, gi_46_9, gi_46_10, gi_46_15, gi_46_16, pi_45_0, pi_45_1, pi_45_2, pi_45_3, pi_47_0, pi_47_1, pi_47_2, pi_47_3, pi_46_8, pi_46_9, pi_46_10, pi_46_15, pi_46_16, gr_46_0, gr_46_1, gr_46_2, gr_46_3, gr_46_4, gr_46_5, gr_46_6, gr_46_7, gr_46_11, gr_46_12, gr_46_13, gr_46_14, ld_50, ld_51, ld_52, ld_53, ld_54, ld_55, ld_56, ld_t, ld_b, sv_50, sv_51, sv_52, sv_53, sv_54, sv_55, sv_56, sv_t, sv_b, is_45, is_47, is_46, ia_0, ia_1, is_m0, is_m1, im_8, ml_8, im_11, ml_11, im_12, ml_12, im_88, ml_88, im_89, ml_89, j_lt_0, j_gt_0, j_le_0, j_ge_0, j_eq_0, j_lt_1, j_gt_1, j_le_1, j_ge_1, j_eq_1, j_lt_2, j_gt_2, j_le_2, j_ge_2, j_eq_2, j_lt_3, j_gt_3, j_le_3, j_ge_3, j_eq_3, j_lt_4, j_gt_4, j_le_4, j_ge_4, j_eq_4, j_lt_5, j_gt_5, j_le_5, j_ge_5, j_eq_5, j_lt_6, j_gt_6, j_le_6, j_ge_6, j_eq_6, j_lt_8, j_gt_8, j_le_8, j_ge_8, j_eq_8, j_lt_12, j_gt_12, j_le_12, j_ge_12, j_eq_12, j_lt_209, j_gt_209, j_le_209, j_ge_209, j_eq_209, j_lt_255, j_gt_255, j_le_255, j_ge_255, j_eq_255, j_lt_1000000000, j_gt_1000000000, j_le_1000000000, j_ge_1000000000, j_eq_1000000000, n_m1, g1, g2, eB, i_add, i_mul]
theorem kc_sum0 {f : Nat} : dX tb d 24 0 [.ref 46, .int (Int32.ofNat f), .int (-1)] [] (c, t, hp g (SH fl tg) σ) = some (some (.int (encC none)), (c, t, hp g (SH fl tg) σ)) := by
  rw [sg_X2_sumBy_0, if_pos rfl]
  rfl
/-- what is picked from a slot, with what sum -/
theorem kc_pick (ht : 296 ≤ tg) (W : Wf P) (hall : ∀ s, all.testBit s = true → s < pM P ∧ 2 ≤ pN P s) (hS : set < 256) {f cc : Nat} {ch ct : Nat → Nat} {fr fb : Int32} (hf8 : f ≤ 88) (hx : A.1 ≤ 500) (hy : A.2.1 ≤ 500) (hf : frm P f fr fb) (hR : ∀ s b, cand P all set s → b < bgn P s → bnd (set ||| 2 ^ s) (R (set ||| 2 ^ s) (11 * s + b))) (G : Gat P all R set 88 σ cc ch ct) (h8 : σ 46 8 = Int32.ofNat cc) (hB : ∀ s b, all.testBit s = true → b < bgn P s → σ (tg + 1) (f * 88 + (11 * s + b)) = Int32.ofNat (tbF P A f s b)) (hne : set ≠ all) :
    (dX tb d 23 0 [.ref 46, .int (Int32.ofNat f), .null, .null, .null, .null, .null] [] (c, t, hp g (SH fl tg) σ) = some (some (.int (-1)), (c, t, hp g (SH fl tg) σ)) ∧ IsB P A all R set f none) ∨
    ∃ k s b r, dX tb d 23 0 [.ref 46, .int (Int32.ofNat f), .null, .null, .null, .null, .null] [] (c, t, hp g (SH fl tg) σ) = some (some (.int (Int32.ofNat k)), (c, t, hp g (SH fl tg) σ)) ∧ dX tb d 24 0 [.ref 46, .int (Int32.ofNat f), .int (Int32.ofNat k)] [] (c, t, hp g (SH fl tg) σ) = some (some (.int (Int32.ofNat (tbF P A f s b + tkN P s b + r))), (c, t, hp g (SH fl tg) σ)) ∧ k < 88 ∧ σ 51 k = Int32.ofNat (11 * s + b) ∧ R (set ||| 2 ^ s) (11 * s + b) = some r ∧ IsF P A all R set f s b ∧ IsB P A all R set f (some (tbF P A f s b + tkN P s b + r)) ∧ tbF P A f s b + tkN P s b + r ≤ 60000 * (256 - set) := by
  have hcc := G.1
  have fnd : ∀ s' b' r', cand P all set s' → b' < bgn P s' → R (set ||| 2 ^ s') (11 * s' + b') = some r' → ∃ i, i < cc ∧ ch i = 11 * s' + b' ∧ bval P A f ch ct i = tbF P A f s' b' + tkN P s' b' + r' := by
    intro s' b' r' a1 a2 a3
    have h11 := bgn_11 W a1.1
    have hM := a1.1
    have hM8 := W.1
    obtain ⟨i, i1, i2⟩ := G.2.2.1 s' b' r' a1 a2 (by omega) a3
    obtain ⟨s2, b2, r2, c1, c2, c3, c4, c5, -⟩ := Gat_at W hall hS hx hy hf hR G i1
    have h112 := bgn_11 W c1.1
    have e1 : s2 = s' := by omega
    have e2 : b2 = b' := by omega
    subst e1; subst e2
    rw [a3] at c4
    injection c4 with c4
    subst c4
    exact ⟨i, i1, i2, c5⟩
  rcases kc_best (tb := tb) (d := d) (c := c) (t := t) (g := g) (fl := fl) ht W hall hS hf8 hx hy hf hR G h8 hB with ⟨hz, e⟩ | ⟨k, e, k1, k2, k3⟩
  · refine Or.inl ⟨e, fun z => absurd z hne, fun _ => ⟨fun w hw => (by cases hw), fun s b r a1 a2 a3 => ?_⟩⟩
    obtain ⟨i, i1, -⟩ := fnd s b r a1 a2 a3
    omega
  · refine Or.inr ?_
    obtain ⟨s, b, r, c1, c2, c3, c4, c5, c6, c7, c8, c9⟩ := Gat_at W hall hS hx hy hf hR G k1
    obtain ⟨g1, g2, -⟩ := G.2.1 k k1
    have h11 := bgn_11 W c1.1
    have eB := hB s b c1.2.1 c2
    rw [← c3] at eB
    have ev : tbF P A f s b + ct k = bval P A f ch ct k := by
      unfold bval
      rw [c3, show (11 * s + b) / 11 = s by omega, show (11 * s + b) % 11 = b by omega]
    have es := kc_sum (tb := tb) (d := d) (c := c) (t := t) (g := g) (fl := fl) ht (show k < 88 by omega) g1 g2 eB (by omega)
    rw [ev, c5] at es
    have hB2 : IsB P A all R set f (some (tbF P A f s b + tkN P s b + r)) := by
      refine ⟨fun z => absurd z hne, fun _ => ⟨fun w hw => ?_, fun s' b' r' a1 a2 a3 => ?_⟩⟩
      · injection hw with hw
        exact ⟨s, b, r, c1, c2, c4, hw.symm⟩
      · obtain ⟨i, i1, i2, i3⟩ := fnd s' b' r' a1 a2 a3
        have := k2 i i1
        exact ⟨_, rfl, by omega⟩
    refine ⟨k, s, b, r, e, es, by omega, by rw [g1, c3], c4, ⟨c1, c2, r, c4, hB2, fun s' b' r' a1 a2 a3 a4 => ?_⟩, hB2, by omega⟩
    obtain ⟨i, i1, i2, i3⟩ := fnd s' b' r' a1 a2 a4
    have hik : i < k := by
      rcases Nat.lt_trichotomy i k with q | q | q
      · exact q
      · subst q; omega
      · have := G.2.2.2 k i q i1; omega
    have := k3 i hik
    omega
def EnC (P : dP) (A : dA) (all : Nat) (R : dTab) (σ : dSg) (tg set s b : Nat) : Prop := σ tg ((set ||| nlm all) * 88 + (11 * s + b)) = encC (R set (11 * s + b)) ∧ IsB P A all R set (11 * s + b) (R set (11 * s + b)) ∧ bnd set (R set (11 * s + b))
def InvC (P : dP) (A : dA) (all : Nat) (R : dTab) (σ : dSg) (tg D set0 lim : Nat) : Prop := ∀ set s b, (D < (set ||| nlm all) ∨ (set = set0 ∧ 11 * s + b < lim)) → set < 256 → sub set all → inO P all set → set.testBit s = true → b < bgn P s → EnC P A all R σ tg set s b
theorem dn_inj {s1 s2 : Nat} (h1 : s1 < 256) (h2 : s2 < 256) (u1 : sub s1 all) (u2 : sub s2 all) (h : s1 ||| nlm all = s2 ||| nlm all) : s1 = s2 := by
  refine Nat.eq_of_testBit_eq fun q => ?_
  by_cases hq : q < 8
  · cases ha : all.testBit q
    · cases e1 : s1.testBit q
      · cases e2 : s2.testBit q
        · rfl
        · rw [u2 q e2] at ha; exact absurd ha (by decide)
      · rw [u1 q e1] at ha; exact absurd ha (by decide)
    · rw [← dn_tbl hq ha, h, dn_tbl hq ha]
  · have h8 : 256 ≤ 2 ^ q := Nat.le_trans (by decide : 256 ≤ 2 ^ 8) (Nat.pow_le_pow_right (by decide) (by omega))
    rw [Nat.testBit_lt_two_pow (by omega), Nat.testBit_lt_two_pow (by omega)]
theorem dn_gt (W : Wf P) {s : Nat} (hc : cand P all set s) : (set ||| nlm all) < ((set ||| 2 ^ s) ||| nlm all) := by
  rw [← dn_or]
  exact or_gt (by rw [dn_tbl (Nat.lt_of_lt_of_le hc.1 W.1) hc.2.1]; exact hc.2.2.1)
theorem InvC_Tb (W : Wf P) {lim : Nat} (hS : set < 256) (hsub : sub set all) (hin : inO P all set) (h : InvC P A all R σ tg (set ||| nlm all) set lim) : TbC P all R σ tg set := fun s b hc hb => by
  have e := h (set ||| 2 ^ s) s b (Or.inl (dn_gt W hc)) (or_lt hS (Nat.lt_of_lt_of_le hc.1 W.1)) (cand_sub hc hsub) (cand_inO hc hin) (cand_tb P set s) hb
  exact ⟨e.1, e.2.2⟩
theorem TbC_R (T : TbC P all R σ tg set) : ∀ s b, cand P all set s → b < bgn P s → bnd (set ||| 2 ^ s) (R (set ||| 2 ^ s) (11 * s + b)) := fun s b h1 h2 => (T s b h1 h2).2
/-- a value put into the table -/
theorem InvC_put (W : Wf P) (hall : ∀ s, all.testBit s = true → s < pM P ∧ 2 ≤ pN P s) {s b : Nat} {v : Option Nat} (hS : set < 256) (hsub : sub set all) (hst : set.testBit s = true) (hb : b < bgn P s) (hI : InvC P A all R σ tg (set ||| nlm all) set (11 * s + b)) (hB : IsB P A all R set (11 * s + b) v) (hv : bnd set v) : InvC P A all (fun x y => if x = set ∧ y = 11 * s + b then v else R x y) (up2 σ tg ((set ||| nlm all) * 88 + (11 * s + b)) (encC v)) tg (set ||| nlm all) set (11 * s + (b + 1)) := by
  intro set' s' b' a1 a2 a3 a4 a5 a6
  have hs8 := (hall s (hsub s hst)).1
  have hb11 := bgn_11 W hs8
  have hs'8 := (hall s' (a3 s' a5)).1
  have hb'11 := bgn_11 W hs'8
  have hm := W.1
  have cong : ∀ x y, x ≠ set → (if x = set ∧ y = 11 * s + b then v else R x y) = R x y := fun x y hx => if_neg (by omega)
  by_cases e : set' = set ∧ 11 * s' + b' = 11 * s + b
  · obtain ⟨rfl, e⟩ := e
    have ev : (if set' = set' ∧ 11 * s' + b' = 11 * s + b then v else R set' (11 * s' + b')) = v := if_pos ⟨rfl, e⟩
    refine ⟨?_, ?_, ?_⟩
    · rw [e, up2_s]; exact congrArg encC (if_pos ⟨rfl, rfl⟩).symm
    · show IsB P A all _ set' (11 * s' + b') (if set' = set' ∧ 11 * s' + b' = 11 * s + b then v else R set' (11 * s' + b'))
      rw [ev, e]
      exact IsB_congr hB fun s2 b2 hc _ => (cong _ _ (by have := or_gt hc.2.2.1; omega)).symm
    · show bnd set' (if set' = set' ∧ 11 * s' + b' = 11 * s + b then v else R set' (11 * s' + b'))
      rw [ev]; exact hv
  · have ev : (if set' = set ∧ 11 * s' + b' = 11 * s + b then v else R set' (11 * s' + b')) = R set' (11 * s' + b') := if_neg e
    have old := hI set' s' b' (by rcases a1 with a1 | ⟨a1, a7⟩; exact Or.inl a1; exact Or.inr ⟨a1, by omega⟩) a2 a3 a4 a5 a6
    have hge : (set ||| nlm all) ≤ (set' ||| nlm all) := by
      rcases a1 with a1 | ⟨a1, a7⟩
      · omega
      · rw [a1]; exact Nat.le_refl _
    refine ⟨?_, ?_, ?_⟩
    · rw [up2_n]
      · show _ = encC (if set' = set ∧ 11 * s' + b' = 11 * s + b then v else R set' (11 * s' + b'))
        rw [ev]; exact old.1
      · refine Or.inr fun z => e ?_
        have e2 : 11 * s' + b' = 11 * s + b ∧ (set' ||| nlm all) = (set ||| nlm all) := by omega
        exact ⟨dn_inj a2 hS a3 hsub e2.2, e2.1⟩
    · show IsB P A all _ set' (11 * s' + b') (if set' = set ∧ 11 * s' + b' = 11 * s + b then v else R set' (11 * s' + b'))
      rw [ev]
      exact IsB_congr old.2.1 fun s2 b2 hc _ => (cong _ _ (fun z => by have := dn_gt W hc; rw [z] at this; omega)).symm
    · show bnd set' (if set' = set ∧ 11 * s' + b' = 11 * s + b then v else R set' (11 * s' + b'))
      rw [ev]; exact old.2.2
end CTG
