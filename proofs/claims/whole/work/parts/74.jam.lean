/-! jam, the class's side -/
section JAM
variable {tb : dT} {d c t : Nat} {g : Nat → Option dE} {fl : Nat → Bool} {tg : Nat} {σ : dSg} {P : dP} {A : dA} {os ob : Nat → Nat} {sum : Option Nat} {k T w : Nat} {e : Nat → Option Nat} {n j : Int32}
def unJ (P : dP) (T : Nat) (pre : List dF) (f : dF) : Nat := (if 5 ≤ fK f then wsU P (fS f) (fB f) (fJ f) else 0) + (if fK f = 5 then (T - tot pre) / pPr P 0 else 0)
def eJ (P : dP) (A : dA) (pre : List dF) : Nat → Option Nat := zE (pre.foldl (fin P) (z0 A))
def jamP (P : dP) (A : dA) (T : Nat) (pre : List dF) (f : dF) : dP := if unJ P T pre f = 0 then donP P (eJ P A pre) else donP (cutP P (fS f) (fB f) (fJ f)) (eJ P A pre)
def jamA (P : dP) (T : Nat) (pre : List dF) (f : dF) : dA := (tN (whI (fX f) (gX f) (fW f) ((T - tot pre) / fU P f)), tN (whI (fY f) (gY f) (fW f) ((T - tot pre) / fU P f)), fP f)
theorem tN_of {v : Nat} (h : v ≤ 500) : tN (Int32.ofNat v) = v := (inR_of (m := 501) (by omega) (by omega)).2
theorem jam_un {pre : List dF} {f : dF} (h : unJ P T pre f ≠ 0) : 5 ≤ fK f := by
  rcases Nat.lt_or_ge (fK f) 5 with q | q
  · exfalso; apply h; unfold unJ; rw [if_neg (by omega), if_neg (by omega)]
  · exact q
theorem jam_ok (R : OkR P A sum k os ob T) {pre post : List dF} {f : dF} (he : phZ P A os ob k = pre ++ f :: post) (h1 : tot pre ≤ T) (h2 : T < tot pre + fL f) : Ok0 (jamP P A T pre f) (jamA P T pre f) T (eJ P A pre) ∧ (whI (fX f) (gX f) (fW f) ((T - tot pre) / fU P f) = Int32.ofNat (jamA P T pre f).1 ∧ whI (fY f) (gY f) (fW f) ((T - tot pre) / fU P f) = Int32.ofNat (jamA P T pre f).2.1) := by
  obtain ⟨ho, okp⟩ := at_ok R he
  obtain ⟨W, hx, hy, hk, h8, hp1, hT⟩ := R
  have l2 := (phZ_len (A := A) W (pl_ok hp1 hk h8).1 hx hy).2
  obtain ⟨⟨v, v1, v2⟩, u, u1, u2⟩ := run_wh W ho h2
  refine ⟨⟨?_, ?_, ?_, by omega, fun s x hs => ?_⟩, ?_, ?_⟩
  · unfold jamP
    by_cases q : unJ P T pre f = 0
    · rw [if_pos q]; exact donP_Wf W
    · rw [if_neg q]
      have q5 := jam_un q
      obtain ⟨z1, z2, z3, z4, z5⟩ := ho.2.2.2.2.2.2.1 q5
      rcases ho.2.2.2.2.2.2.2.2.2.1 with r | ⟨r1, r2, r3⟩
      · exact absurd r (ho.2.2.2.2.2.2.2.2.2.2.1 (by omega))
      · exact donP_Wf (cutP_Wf W r1 r2 r3 (by omega))
  · unfold jamA; rw [v2, tN_of v1]; exact v1
  · unfold jamA; rw [u2, tN_of u1]; exact u1
  · have z := zE_early (P := P) (l := pre) (z := z0 A) (fun s e h => by cases h) s x hs
    have : zT (z0 A) = 0 := rfl
    omega
  · unfold jamA; rw [v2, tN_of v1]
  · unfold jamA; rw [u2, tN_of u1]
theorem wsU_b (W : Wf P) {s b m : Nat} (hs : s < pM P) (hm : m < pN P s) : wsU P s b m ≤ 500 * m := by
  induction m with
  | zero => exact Nat.le_refl 0
  | succ m ih =>
    have := ih (by omega)
    have w1 := way1_le (b := b) (j := m) W hs hm
    show wsU P s b m + way1 P s b m ≤ _
    omega
theorem unJ_b (R : OkR P A sum k os ob T) {pre post : List dF} {f : dF} (he : phZ P A os ob k = pre ++ f :: post) (h2 : T < tot pre + fL f) : unJ P T pre f ≤ 2000000 := by
  obtain ⟨ho, okp⟩ := at_ok R he
  obtain ⟨W, hx, hy, hk, h8, hp1, hT⟩ := R
  have l2 := (phZ_len (A := A) W (pl_ok hp1 hk h8).1 hx hy).2
  have hd : (T - tot pre) / pPr P 0 ≤ T - tot pre := Nat.div_le_self _ _
  have hw : (if 5 ≤ fK f then wsU P (fS f) (fB f) (fJ f) else 0) ≤ 6000 := by
    by_cases q : 5 ≤ fK f
    · rw [if_pos q]
      obtain ⟨z1, z2, z3, z4, z5⟩ := ho.2.2.2.2.2.2.1 q
      rcases ho.2.2.2.2.2.2.2.2.2.1 with r | ⟨r1, r2, r3⟩
      · exact absurd r (ho.2.2.2.2.2.2.2.2.2.2.1 (by omega))
      · have := wsU_b (b := fB f) (m := fJ f) W r1 (by omega)
        have := (W.2.1 _ r1).1
        omega
    · rw [if_neg q]; omega
  have hz : (if fK f = 5 then (T - tot pre) / pPr P 0 else 0) ≤ T - tot pre := by
    by_cases q : fK f = 5
    · rw [if_pos q]; exact hd
    · rw [if_neg q]; omega
  unfold unJ; omega
theorem kq_break {L : Nat} (h3 : σ 57 3 = Int32.ofNat L) (h14 : σ 57 14 = j) {v : Value} : dX tb (d + 1) 29 59 [.ref 57, v] [] (c, t, hp g (SH fl tg) σ) = some (none, (c, t, hp g (SH fl tg) (up2 (up2 (up2 (up2 σ 57 4 (Int32.ofNat L)) 45 3 0) 57 11 0) 57 14 (j + 1)))) := by
  rw [sg_X3_breakOff_59]
  simp (disch := omega) only [bq_s, aq_I, aq_R, aq_V, cq_t, cq_f, if_true, if_false, Bool.true_and, Bool.and_true, Bool.or_true, Bool.true_or, gi_45_0, gi_45_1, gi_45_2, gi_45_3, gi_59_0, gi_59_1, gi_59_2, gi_59_3, gi_57_3, gi_57_4, gi_57_6, gi_57_8, gi_57_9, gi_57_10, gi_57_11, gi_57_12, gi_57_13, gi_57_14, gi_l, pi_45_0, pi_45_1, pi_45_2, pi_45_3, pi_59_0, pi_59_1, pi_59_2, pi_59_3, pi_57_3, pi_57_4, pi_57_6, pi_57_8, pi_57_9, pi_57_10, pi_57_11, pi_57_12, pi_57_13, pi_57_14, pi_l, gr_57_0, gr_57_1, gr_57_2, gr_57_5, gr_57_7, ld_60, sv_60, is_45, is_59, is_57, is_l, lr_58, up2_n, up2_row, h14, h3]
theorem kq_jtail {P' : dP} {A' : dA} {L : Nat} (W' : Wf P') (C' : ShC P' fl σ) (hL : LfC P' (pLf P') σ) (h0 : σ 45 0 = Int32.ofNat A'.1) (h1 : σ 45 1 = Int32.ofNat A'.2.1) (h2 : σ 45 2 = A'.2.2) (L9 : L ≤ 209) (h3 : σ 57 3 = Int32.ofNat L) (h12 : σ 57 12 = Int32.ofNat T) (h10 : σ 57 10 = Int32.ofNat w) (hE : ∀ s, s < pM P' → σ (5 + 5 * s) 6 = encE (e s)) (h13 : σ 57 13 = n) (hg : TgO tg c) : CN P' A' T w e n (j + 1) fl tg c (up2 (up2 (up2 (up2 (up2 σ 57 4 (Int32.ofNat L)) 45 3 0) 57 11 0) 57 14 (j + 1)) 46 10 0) := by
  have hm := W'.1
  refine ⟨ShC_congr W' C' fun a ha => ?_, fun s hs => ?_, ⟨?_, ?_, ?_, ?_⟩, ?_, ⟨L, L, Nat.le_refl L, L9, ?_, ?_⟩, ?_, ?_, fun s hs => ?_, ?_, ?_, Or.inl (up2_s _ _ _ _), hg⟩
  · simp (disch := omega) only [up2_row]
  · simp (disch := omega) only [up2_row]; exact hL s hs
  · simp (disch := omega) only [up2_n, up2_row]; exact h0
  · simp (disch := omega) only [up2_n, up2_row]; exact h1
  · simp (disch := omega) only [up2_n, up2_row]; exact h2
  · simp (disch := omega) only [up2_row, up2_s]; rfl
  · simp (disch := omega) only [up2_n, up2_row, up2_s]
  · simp (disch := omega) only [up2_n, up2_row]; exact h3
  · simp (disch := omega) only [up2_n, up2_row, up2_s]
  · simp (disch := omega) only [up2_n, up2_row]; exact h12
  · simp (disch := omega) only [up2_n, up2_row]; exact h10
  · simp (disch := omega) only [up2_row]; exact hE s hs
  · simp (disch := omega) only [up2_n, up2_row]; exact h13
  · simp (disch := omega) only [up2_row, up2_s]
theorem kq_jam (R : OkR P A sum k os ob T) (H : CR P A sum k os ob T n j fl tg c σ) : ∃ pre f post, phZ P A os ob k = pre ++ f :: post ∧ tot pre ≤ T ∧ T < tot pre + fL f ∧ ∃ τ fl', dX tb (d + 4) 82 0 [.ref 0] [] (c, t, hp g (SH fl tg) σ) = some (some (.int 1), (c, t, hp g (SH fl' tg) τ)) ∧ (∀ a, 270 ≤ a → τ a = σ a) ∧ CN (jamP P A T pre f) (jamA P T pre f) T (wtT T 0 (phZ P A os ob k)) (eJ P A pre) n (j + 1) fl' tg c τ := by
  have R' := R
  obtain ⟨W, hx, hy, hk, h8, hp1, hT⟩ := R'
  have hm := W.1
  obtain ⟨C, Lg, Pl, Pb, h46, h11, h12, h13, h14, hg, pre, f, post, r1, r2, r3, r4, r5, r6, r7⟩ := H
  refine ⟨pre, f, post, r1, r2, r3, ?_⟩
  obtain ⟨⟨W', x1, x2, x3, x4⟩, wx, wy⟩ := jam_ok R r1 r2 r3
  obtain ⟨ho, okp⟩ := at_ok R r1
  have hat : AtC P A os ob k T pre f post σ := ⟨r1, r2, r3, Lg, r5, h12⟩
  have wt := kr_wait (tb := tb) (d := d + 1) (c := c) (t := t) (g := g) (fl := fl) (tg := tg) R hat r4.2.2.2.2.1
  have hN0 : ¬ ((1 : Int32) = 0) := by decide
  have len9 : ((phZ P A os ob k).filter nz).length ≤ 209 := Nat.le_trans (fil_len _) (phZ_len (A := A) W (pl_ok hp1 hk h8).1 hx hy).1
  have L1 : LgC P ((phZ P A os ob k).filter nz) (up2 σ 57 10 (Int32.ofNat (wtT T 0 (phZ P A os ob k)))) := LgC_congr (fun a a1 a2 => up2_row _ _ (by omega)) (up2_n _ _ (by omega)) (up2_n _ _ (by omega)) len9 Lg
  have hat1 : AtC P A os ob k T pre f post (up2 σ 57 10 (Int32.ofNat (wtT T 0 (phZ P A os ob k)))) := ⟨r1, r2, r3, L1, by rw [up2_n _ _ (by omega)]; exact r5, by rw [up2_n _ _ (by omega)]; exact h12⟩
  have un := kr_units (tb := tb) (d := d + 1) (c := c) (t := t) (g := g) (fl := fl) (tg := tg) R hat1 (by rw [up2_n _ _ (by omega)]; exact r4.2.2.2.1)
  obtain ⟨c1, ⟨L, La, Lb, Lc⟩, -, c3, c4, -⟩ := at_cell R hat1
  have Lc' : σ 57 3 = Int32.ofNat L := by rw [← Lc, up2_n _ _ (by omega)]
  have hn : ¬ L ≤ (pre.filter nz).length := by omega
  have hub := unJ_b R r1 r3
  have un' : dX tb (d + 2) 32 0 [.ref 57] [] (c, t, hp g (SH fl tg) (up2 σ 57 10 (Int32.ofNat (wtT T 0 (phZ P A os ob k))))) = some (some (.int (Int32.ofNat (unJ P T pre f))), (c, t, hp g (SH fl tg) (up2 σ 57 10 (Int32.ofNat (wtT T 0 (phZ P A os ob k)))))) := un
  have s14 : up2 σ 57 10 (Int32.ofNat (wtT T 0 (phZ P A os ob k))) 57 14 = j := by rw [up2_n _ _ (by omega)]; exact h14
  obtain ⟨z1, z2, z3, z4, z5, z6⟩ := r4
  by_cases q : unJ P T pre f = 0
  · have q0 : unJ P T pre f ≤ 0 := by omega
    have kb := kq_break (tb := tb) (d := d + 2) (c := c) (t := t) (g := g) (fl := fl) (tg := tg) Lc s14 (v := .null)
    refine ⟨_, fl, ?_, ?_, kq_jtail (σ := up2 σ 57 10 (Int32.ofNat (wtT T 0 (phZ P A os ob k)))) (L := L) W' ?_ (fun s hs => ?_) ?_ ?_ ?_ La Lc ?_ ?_ (fun s hs => ?_) ?_ hg⟩
    · rw [sg_X6_jam_0]
      simp (disch := omega) only [bq_s, aq_I, aq_R, aq_V, cq_t, cq_f, if_true, if_false, Bool.true_and, Bool.and_true, Bool.or_true, Bool.true_or, gi_1_3, gi_s, pi_1_3, pi_s, gr_0_0, gr_0_1, gr_0_2, gr_0_3, gr_1_0, gr_1_1, gr_1_2, gr_s_7, gr_s_8, gr_s_9, gr_s_10, ld_3, ld_4, ld_x, ld_y, ld_u, ld_v, sv_3, sv_4, sv_x, sv_y, sv_u, sv_v, is_0, is_1, is_s, lr_2, gi_45_0, gi_45_1, gi_45_2, gi_45_3, gi_59_0, gi_59_1, gi_59_2, gi_59_3, gi_57_3, gi_57_4, gi_57_6, gi_57_8, gi_57_9, gi_57_10, gi_57_11, gi_57_12, gi_57_13, gi_57_14, gi_l, pi_45_0, pi_45_1, pi_45_2, pi_45_3, pi_59_0, pi_59_1, pi_59_2, pi_59_3, pi_57_3, pi_57_4, pi_57_6, pi_57_8, pi_57_9, pi_57_10, pi_57_11, pi_57_12, pi_57_13, pi_57_14, pi_l, gr_57_0, gr_57_1, gr_57_2, gr_57_5, gr_57_7, ld_60, sv_60, is_45, is_59, is_57, is_l, lr_58, ia_0, ia_1, is_m0, is_m1, im_8, ml_8, im_11, ml_11, im_12, ml_12, im_88, ml_88, im_89, ml_89, j_lt_0, j_gt_0, j_le_0, j_ge_0, j_eq_0, j_lt_1, j_gt_1, j_le_1, j_ge_1, j_eq_1, j_lt_2, j_gt_2, j_le_2, j_ge_2, j_eq_2, j_lt_3, j_gt_3, j_le_3, j_ge_3, j_eq_3, j_lt_4, j_gt_4, j_le_4, j_ge_4, j_eq_4, j_lt_5, j_gt_5, j_le_5, j_ge_5, j_eq_5, j_lt_6, j_gt_6, j_le_6, j_ge_6, j_eq_6, j_lt_8, j_gt_8, j_le_8, j_ge_8, j_eq_8, j_lt_12, j_gt_12, j_le_12, j_ge_12, j_eq_12, j_lt_209, j_gt_209, j_le_209, j_ge_209, j_eq_209, j_lt_255, j_gt_255, j_le_255, j_ge_255, j_eq_255, j_lt_1000000000, j_gt_1000000000, j_le_1000000000, j_ge_1000000000, j_eq_1000000000, h11, hN0]
      rw [sg_X3_breakOff_0]
      simp (disch := omega) only [bq_s, aq_I, aq_R, aq_V, cq_t, cq_f, if_true, if_false, Bool.true_and, Bool.and_true, Bool.or_true, Bool.true_or, gi_1_3, gi_s, pi_1_3, pi_s, gr_0_0, gr_0_1, gr_0_2, gr_0_3, gr_1_0, gr_1_1, gr_1_2, gr_s_7, gr_s_8, gr_s_9, gr_s_10, ld_3, ld_4, ld_x, ld_y, ld_u, ld_v, sv_3, sv_4, sv_x, sv_y, sv_u, sv_v, is_0, is_1, is_s, lr_2, gi_45_0, gi_45_1, gi_45_2, gi_45_3, gi_59_0, gi_59_1, gi_59_2, gi_59_3, gi_57_3, gi_57_4, gi_57_6, gi_57_8, gi_57_9, gi_57_10, gi_57_11, gi_57_12, gi_57_13, gi_57_14, gi_l, pi_45_0, pi_45_1, pi_45_2, pi_45_3, pi_59_0, pi_59_1, pi_59_2, pi_59_3, pi_57_3, pi_57_4, pi_57_6, pi_57_8, pi_57_9, pi_57_10, pi_57_11, pi_57_12, pi_57_13, pi_57_14, pi_l, gr_57_0, gr_57_1, gr_57_2, gr_57_5, gr_57_7, ld_60, sv_60, is_45, is_59, is_57, is_l, lr_58, ia_0, ia_1, is_m0, is_m1, im_8, ml_8, im_11, ml_11, im_12, ml_12, im_88, ml_88, im_89, ml_89, j_lt_0, j_gt_0, j_le_0, j_ge_0, j_eq_0, j_lt_1, j_gt_1, j_le_1, j_ge_1, j_eq_1, j_lt_2, j_gt_2, j_le_2, j_ge_2, j_eq_2, j_lt_3, j_gt_3, j_le_3, j_ge_3, j_eq_3, j_lt_4, j_gt_4, j_le_4, j_ge_4, j_eq_4, j_lt_5, j_gt_5, j_le_5, j_ge_5, j_eq_5, j_lt_6, j_gt_6, j_le_6, j_ge_6, j_eq_6, j_lt_8, j_gt_8, j_le_8, j_ge_8, j_eq_8, j_lt_12, j_gt_12, j_le_12, j_ge_12, j_eq_12, j_lt_209, j_gt_209, j_le_209, j_ge_209, j_eq_209, j_lt_255, j_gt_255, j_le_255, j_ge_255, j_eq_255, j_lt_1000000000, j_gt_1000000000, j_le_1000000000, j_ge_1000000000, j_eq_1000000000, wt, up2_n, Lc', r5, i_le, hn, un', q0, kb]
      simp (disch := omega) only [bq_s, aq_I, aq_R, aq_V, cq_t, cq_f, if_true, if_false, Bool.true_and, Bool.and_true, Bool.or_true, Bool.true_or, gi_1_3, gi_s, pi_1_3, pi_s, gr_0_0, gr_0_1, gr_0_2, gr_0_3, gr_1_0, gr_1_1, gr_1_2, gr_s_7, gr_s_8, gr_s_9, gr_s_10, ld_3, ld_4, ld_x, ld_y, ld_u, ld_v, sv_3, sv_4, sv_x, sv_y, sv_u, sv_v, is_0, is_1, is_s, lr_2, gi_45_0, gi_45_1, gi_45_2, gi_45_3, gi_47_0, gi_47_1, gi_47_2, gi_47_3, gi_46_8, gi_46_9, gi_46_10, gi_46_15, gi_46_16, pi_45_0, pi_45_1, pi_45_2, pi_45_3, pi_47_0, pi_47_1, pi_47_2, pi_47_3, pi_46_8, pi_46_9, pi_46_10, pi_46_15, pi_46_16, gr_46_0, gr_46_1, gr_46_2, gr_46_3, gr_46_4, gr_46_5, gr_46_6, gr_46_7, gr_46_11, gr_46_12, gr_46_13, gr_46_14, ld_50, ld_51, ld_52, ld_53, ld_54, ld_55, ld_56, ld_t, ld_b, sv_50, sv_51, sv_52, sv_53, sv_54, sv_55, sv_56, sv_t, sv_b, is_45, is_47, is_46, sg_X2_forget_0]
    · intro a ha; simp (disch := omega) only [up2_row]
    · unfold jamP; rw [if_pos q]; exact donP_ShC (ShC_congr W C fun a ha => up2_row _ _ (by omega))
    · unfold jamP; rw [if_pos q]
      have hs' : s < pM P := by unfold jamP at hs; rw [if_pos q] at hs; exact hs
      rw [up2_row _ _ (by omega)]; exact (z6 s hs').1
    · rw [up2_row _ _ (by omega), r6]; exact wx
    · rw [up2_row _ _ (by omega), r7]; exact wy
    · rw [up2_row _ _ (by omega), z1]; exact ho.2.2.2.1.symm
    · rw [up2_n _ _ (by omega)]; exact h12
    · rw [up2_s]
    · have hs' : s < pM P := by unfold jamP at hs; rw [if_pos q] at hs; exact hs
      rw [up2_row _ _ (by omega)]; exact (z6 s hs').2
    · rw [up2_n _ _ (by omega)]; exact h13
  · have q0 : ¬ unJ P T pre f ≤ 0 := by omega
    have q5 := jam_un q
    obtain ⟨y1, y2, y3, y4, y5⟩ := ho.2.2.2.2.2.2.1 q5
    have s8 : fS f ≠ 8 := ho.2.2.2.2.2.2.2.2.2.2.1 (by omega)
    obtain ⟨t1, t2, t3⟩ : fS f < pM P ∧ fB f < bgn P (fS f) ∧ 2 ≤ pN P (fS f) := by
      rcases ho.2.2.2.2.2.2.2.2.2.1 with r | r
      · exact absurd r s8
      · exact r
    have C1 : ShC P fl (up2 σ 57 10 (Int32.ofNat (wtT T 0 (phZ P A os ob k)))) := ShC_congr W C fun a ha => up2_row _ _ (by omega)
    obtain ⟨τ1, k1, k2, k3, k4, k5, k6⟩ := kc_kf (tb := tb) (d := d) (c := c) (t := t) (g := g) (fl := fl) (tg := tg) C1 W t1 t2 t3 y4
    have e3 : encS (fS f) = Int32.ofNat (fS f) := encS_ne s8
    rw [e3] at c3
    have e8 : up2 σ 57 10 (Int32.ofNat (wtT T 0 (phZ P A os ob k))) 57 8 = Int32.ofNat (fJ f) := by rw [up2_n _ _ (by omega), z3, y1]
    have hnp : (61 + (pre.filter nz).length) ≠ 57 := by omega
    rw [up2_row _ _ hnp] at c3 c4
    have lf : pLf P (fS f) = true := by
      obtain ⟨i, i1, i2, -⟩ := phZM (A := A) (os := os) (ob := ob) f (by rw [r1]; exact List.mem_append_right _ (List.mem_cons_self)) s8
      rw [← i2]; exact (pl_ok hp1 hk h8).2.1 i i1
    have kb := kq_break (tb := tb) (d := d + 2) (c := c) (t := t) (g := g) (fl := flip1 fl (fS f)) (tg := tg) (σ := τ1) (L := L) (j := j) (by rw [k3 57 (by omega)]; exact Lc) (by rw [k3 57 (by omega)]; exact s14) (v := .ref (61 + (pre.filter nz).length))
    refine ⟨_, flip1 fl (fS f), ?_, ?_, kq_jtail (σ := τ1) (L := L) W' ?_ (fun s hs => ?_) ?_ ?_ ?_ La ?_ ?_ ?_ (fun s hs => ?_) ?_ hg⟩
    · rw [sg_X6_jam_0]
      simp (disch := omega) only [bq_s, aq_I, aq_R, aq_V, cq_t, cq_f, if_true, if_false, Bool.true_and, Bool.and_true, Bool.or_true, Bool.true_or, gi_1_3, gi_s, pi_1_3, pi_s, gr_0_0, gr_0_1, gr_0_2, gr_0_3, gr_1_0, gr_1_1, gr_1_2, gr_s_7, gr_s_8, gr_s_9, gr_s_10, ld_3, ld_4, ld_x, ld_y, ld_u, ld_v, sv_3, sv_4, sv_x, sv_y, sv_u, sv_v, is_0, is_1, is_s, lr_2, gi_45_0, gi_45_1, gi_45_2, gi_45_3, gi_59_0, gi_59_1, gi_59_2, gi_59_3, gi_57_3, gi_57_4, gi_57_6, gi_57_8, gi_57_9, gi_57_10, gi_57_11, gi_57_12, gi_57_13, gi_57_14, gi_l, pi_45_0, pi_45_1, pi_45_2, pi_45_3, pi_59_0, pi_59_1, pi_59_2, pi_59_3, pi_57_3, pi_57_4, pi_57_6, pi_57_8, pi_57_9, pi_57_10, pi_57_11, pi_57_12, pi_57_13, pi_57_14, pi_l, gr_57_0, gr_57_1, gr_57_2, gr_57_5, gr_57_7, ld_60, sv_60, is_45, is_59, is_57, is_l, lr_58, ia_0, ia_1, is_m0, is_m1, im_8, ml_8, im_11, ml_11, im_12, ml_12, im_88, ml_88, im_89, ml_89, j_lt_0, j_gt_0, j_le_0, j_ge_0, j_eq_0, j_lt_1, j_gt_1, j_le_1, j_ge_1, j_eq_1, j_lt_2, j_gt_2, j_le_2, j_ge_2, j_eq_2, j_lt_3, j_gt_3, j_le_3, j_ge_3, j_eq_3, j_lt_4, j_gt_4, j_le_4, j_ge_4, j_eq_4, j_lt_5, j_gt_5, j_le_5, j_ge_5, j_eq_5, j_lt_6, j_gt_6, j_le_6, j_ge_6, j_eq_6, j_lt_8, j_gt_8, j_le_8, j_ge_8, j_eq_8, j_lt_12, j_gt_12, j_le_12, j_ge_12, j_eq_12, j_lt_209, j_gt_209, j_le_209, j_ge_209, j_eq_209, j_lt_255, j_gt_255, j_le_255, j_ge_255, j_eq_255, j_lt_1000000000, j_gt_1000000000, j_le_1000000000, j_ge_1000000000, j_eq_1000000000, h11, hN0]
      rw [sg_X3_breakOff_0]
      simp (disch := omega) only [bq_s, aq_I, aq_R, aq_V, cq_t, cq_f, if_true, if_false, Bool.true_and, Bool.and_true, Bool.or_true, Bool.true_or, gi_1_3, gi_s, pi_1_3, pi_s, gr_0_0, gr_0_1, gr_0_2, gr_0_3, gr_1_0, gr_1_1, gr_1_2, gr_s_7, gr_s_8, gr_s_9, gr_s_10, ld_3, ld_4, ld_x, ld_y, ld_u, ld_v, sv_3, sv_4, sv_x, sv_y, sv_u, sv_v, is_0, is_1, is_s, lr_2, gi_45_0, gi_45_1, gi_45_2, gi_45_3, gi_59_0, gi_59_1, gi_59_2, gi_59_3, gi_57_3, gi_57_4, gi_57_6, gi_57_8, gi_57_9, gi_57_10, gi_57_11, gi_57_12, gi_57_13, gi_57_14, gi_l, pi_45_0, pi_45_1, pi_45_2, pi_45_3, pi_59_0, pi_59_1, pi_59_2, pi_59_3, pi_57_3, pi_57_4, pi_57_6, pi_57_8, pi_57_9, pi_57_10, pi_57_11, pi_57_12, pi_57_13, pi_57_14, pi_l, gr_57_0, gr_57_1, gr_57_2, gr_57_5, gr_57_7, ld_60, sv_60, is_45, is_59, is_57, is_l, lr_58, ia_0, ia_1, is_m0, is_m1, im_8, ml_8, im_11, ml_11, im_12, ml_12, im_88, ml_88, im_89, ml_89, j_lt_0, j_gt_0, j_le_0, j_ge_0, j_eq_0, j_lt_1, j_gt_1, j_le_1, j_ge_1, j_eq_1, j_lt_2, j_gt_2, j_le_2, j_ge_2, j_eq_2, j_lt_3, j_gt_3, j_le_3, j_ge_3, j_eq_3, j_lt_4, j_gt_4, j_le_4, j_ge_4, j_eq_4, j_lt_5, j_gt_5, j_le_5, j_ge_5, j_eq_5, j_lt_6, j_gt_6, j_le_6, j_ge_6, j_eq_6, j_lt_8, j_gt_8, j_le_8, j_ge_8, j_eq_8, j_lt_12, j_gt_12, j_le_12, j_ge_12, j_eq_12, j_lt_209, j_gt_209, j_le_209, j_ge_209, j_eq_209, j_lt_255, j_gt_255, j_le_255, j_ge_255, j_eq_255, j_lt_1000000000, j_gt_1000000000, j_le_1000000000, j_ge_1000000000, j_eq_1000000000, wt, up2_n, up2_row, Lc', r5, i_le, hn, un', q0, c3, c4, z3, y1, k1, kb]
      simp (disch := omega) only [bq_s, aq_I, aq_R, aq_V, cq_t, cq_f, if_true, if_false, Bool.true_and, Bool.and_true, Bool.or_true, Bool.true_or, gi_1_3, gi_s, pi_1_3, pi_s, gr_0_0, gr_0_1, gr_0_2, gr_0_3, gr_1_0, gr_1_1, gr_1_2, gr_s_7, gr_s_8, gr_s_9, gr_s_10, ld_3, ld_4, ld_x, ld_y, ld_u, ld_v, sv_3, sv_4, sv_x, sv_y, sv_u, sv_v, is_0, is_1, is_s, lr_2, gi_45_0, gi_45_1, gi_45_2, gi_45_3, gi_47_0, gi_47_1, gi_47_2, gi_47_3, gi_46_8, gi_46_9, gi_46_10, gi_46_15, gi_46_16, pi_45_0, pi_45_1, pi_45_2, pi_45_3, pi_47_0, pi_47_1, pi_47_2, pi_47_3, pi_46_8, pi_46_9, pi_46_10, pi_46_15, pi_46_16, gr_46_0, gr_46_1, gr_46_2, gr_46_3, gr_46_4, gr_46_5, gr_46_6, gr_46_7, gr_46_11, gr_46_12, gr_46_13, gr_46_14, ld_50, ld_51, ld_52, ld_53, ld_54, ld_55, ld_56, ld_t, ld_b, sv_50, sv_51, sv_52, sv_53, sv_54, sv_55, sv_56, sv_t, sv_b, is_45, is_47, is_46, sg_X2_forget_0]
    · intro a ha; simp (disch := omega) only [up2_row]; rw [k3 a (by omega), up2_row _ _ (by omega)]
    · unfold jamP; rw [if_neg q]; exact donP_ShC k2
    · unfold jamP; rw [if_neg q]
      have hs' : s < pM P := by unfold jamP at hs; rw [if_neg q] at hs; exact hs
      show τ1 (5 + 5 * s) 3 = bI (pLf P s && (eJ P A pre s).isNone)
      by_cases qs : s = fS f
      · rw [qs, k4, lf]; unfold eJ; rw [y5]; rfl
      · rw [k6 s (by omega) qs, up2_row _ _ (by omega)]; exact (z6 s hs').1
    · rw [k3 45 (by omega), up2_row _ _ (by omega), r6]; exact wx
    · rw [k3 45 (by omega), up2_row _ _ (by omega), r7]; exact wy
    · rw [k3 45 (by omega), up2_row _ _ (by omega), z1]; exact ho.2.2.2.1.symm
    · rw [k3 57 (by omega)]; exact Lc
    · rw [k3 57 (by omega), up2_n _ _ (by omega)]; exact h12
    · rw [k3 57 (by omega), up2_s]
    · have hs' : s < pM P := by unfold jamP at hs; rw [if_neg q] at hs; exact hs
      by_cases qs : s = fS f
      · rw [qs, k5, up2_row _ _ (by omega)]; exact (z6 _ t1).2
      · rw [k6 s (by omega) qs, up2_row _ _ (by omega)]; exact (z6 s hs').2
    · rw [k3 57 (by omega), up2_n _ _ (by omega)]; exact h13
end JAM
