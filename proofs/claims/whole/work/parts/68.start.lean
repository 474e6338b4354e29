/-! RUNNING, the class's half; start -/
section STR
def RunC (P : dP) (A : dA) (l : List dF) (T : Nat) (σ : dSg) : Prop := ∃ pre f post, l = pre ++ f :: post ∧ tot pre ≤ T ∧ T < tot pre + fL f ∧ ZC P (pre.foldl (fin P) (z0 A)) σ ∧ σ 57 4 = Int32.ofNat (pre.filter nz).length ∧ σ 45 0 = whI (fX f) (gX f) (fW f) ((T - tot pre) / fU P f) ∧ σ 45 1 = whI (fY f) (gY f) (fW f) ((T - tot pre) / fU P f)
def CR (P : dP) (A : dA) (sum : Option Nat) (k : Nat) (os ob : Nat → Nat) (T : Nat) (n j : Int32) (fl : Nat → Bool) (tg c : Nat) (σ : dSg) : Prop :=
  ShC P fl σ ∧ LgC P ((phZ P A os ob k).filter nz) σ ∧ PlC P A sum k os ob σ ∧ bnd 0 sum ∧ σ 46 10 = 1 ∧ σ 57 11 = 1 ∧ σ 57 12 = Int32.ofNat T ∧ σ 57 13 = n ∧ σ 57 14 = j ∧ TgO tg c ∧ RunC P A (phZ P A os ob k) T σ
variable {tb : dT} {d c t : Nat} {g : Nat → Option dE} {fl : Nat → Bool} {tg : Nat} {σ : dSg} {P : dP} {A : dA} {os ob : Nat → Nat} {T w : Nat} {e : Nat → Option Nat} {n j : Int32}
theorem fil_len (l : List dF) : (l.filter nz).length ≤ l.length := List.length_filter_le nz l
theorem kq_settle (W : Wf P) {k T : Nat} (hO : OkO P os ob k) (hk : 0 < k) (hx : A.1 ≤ 500) (hy : A.2.1 ≤ 500) (hT : T ≤ 1000000) (C : ShC P fl σ) (L : LgC P ((phZ P A os ob k).filter nz) σ) {pre post : List dF} (he : phZ P A os ob k = pre ++ post) (h1 : tot pre ≤ T) (hz : ZC P (pre.foldl (fin P) (z0 A)) σ) (h4 : σ 57 4 = Int32.ofNat (pre.filter nz).length) (h12 : σ 57 12 = Int32.ofNat T) (hne : (pre.filter nz).length < ((phZ P A os ob k).filter nz).length) :
    ∃ τ, dX tb (d + 3) 43 0 [.ref 57] [] (c, t, hp g (SH fl tg) σ) = some (none, (c, t, hp g (SH fl tg) τ)) ∧ FrS σ τ ∧ (T < tot (phZ P A os ob k) → RunC P A (phZ P A os ob k) T τ ∧ τ 57 11 = σ 57 11) ∧ (tot (phZ P A os ob k) ≤ T → τ 57 11 = 0 ∧ ZC P ((phZ P A os ob k).foldl (fin P) (z0 A)) τ ∧ τ 57 4 = Int32.ofNat ((phZ P A os ob k).filter nz).length ∧ τ 45 0 = Int32.ofNat (zX ((phZ P A os ob k).foldl (fin P) (z0 A))) ∧ τ 45 1 = Int32.ofNat (zY ((phZ P A os ob k).foldl (fin P) (z0 A)))) := by
  obtain ⟨l1, l2⟩ := phZ_len (A := A) W hO hx hy
  have ok := (phZ_ok (A := A) W hO hk hx hy).1
  have okn := okL_nz ok
  have ln := fil_len (phZ P A os ob k)
  have tn := tot_nz (phZ P A os ob k)
  have fn := nz_fold ok
  have okp : okL P (z0 A) pre := by rw [he] at ok; exact ((okL_app _).mp ok).1
  have tk : ((phZ P A os ob k).filter nz).take (pre.filter nz).length = pre.filter nz := by rw [he, List.filter_append]; exact List.take_left
  obtain ⟨τ, p', y1, y2, y3, y4, y5, y6, y7, y8, y9⟩ := kc_settle (tb := tb) (d := d) (c := c) (t := t) (g := g) (fl := fl) (tg := tg) (A := A) W (l := (phZ P A os ob k).filter nz) (T := T) (by omega) (by omega) hT okn (((phZ P A os ob k).filter nz).length - (pre.filter nz).length) (pre.filter nz).length σ (by omega) C L (by rw [tk, nz_fold okp]; exact hz) h4 h12 (by rw [tk, tot_nz]; exact h1)
  refine ⟨τ, y1, y4, fun hq => ?_, fun hq => ?_⟩
  · have hlt : p' < ((phZ P A os ob k).filter nz).length := by
      rcases Nat.lt_or_ge p' ((phZ P A os ob k).filter nz).length with q | q
      · exact q
      · rw [List.take_of_length_le q] at y5; omega
    obtain ⟨f, f1, f2, f3, f4, f5⟩ := y8 hlt
    obtain ⟨pre', post', e1, e2⟩ := fil_split f1
    have t' : tot (((phZ P A os ob k).filter nz).take p') = tot pre' := by rw [← e2, tot_nz]
    have okp' : okL P (z0 A) pre' := by rw [e1] at ok; exact ((okL_app _).mp ok).1
    rw [t'] at f2 f3 f4 y5
    refine ⟨⟨pre', f, post', e1, y5, f2, ?_, ?_, f3, f4⟩, f5⟩
    · rw [← nz_fold okp', e2]; exact y7
    · rw [e2, List.length_take, Nat.min_eq_left y3]; exact y6
  · have hge : p' = ((phZ P A os ob k).filter nz).length := by
      rcases Nat.lt_or_ge p' ((phZ P A os ob k).filter nz).length with q | q
      · obtain ⟨f, f1, f2, -⟩ := y8 q
        have := tot_take ((phZ P A os ob k).filter nz) (p' + 1)
        rw [take_get f1, tot_app, tot_one] at this
        omega
      · omega
    obtain ⟨z1, z2, -⟩ := y9 hge
    obtain ⟨z3, z4⟩ := z2 (by omega)
    rw [fn] at z3 z4
    rw [hge, List.take_length, fn] at y7
    exact ⟨z1, y7, by rw [y6, hge], z3, z4⟩
theorem kq_forget (W : Wf P) : ∀ q s (τ : dSg), s + q = pM P → τ 1 3 = Int32.ofNat (pM P) → FrS σ τ → (∀ a, a < 5 ∨ 41 ≤ a → τ a = σ a) → (∀ v, v < 8 → τ (5 + 5 * v) 3 = σ (5 + 5 * v) 3) → (∀ v, v < s → τ (5 + 5 * v) 6 = -1) → ∃ τ', dX tb d 54 2 [.ref 1, .int (Int32.ofNat s)] [] (c, t, hp g (SH fl tg) τ) = some (none, (c, t, hp g (SH fl tg) (τ'))) ∧ FrS σ τ' ∧ (∀ a, a < 5 ∨ 41 ≤ a → τ' a = σ a) ∧ (∀ v, v < 8 → τ' (5 + 5 * v) 3 = σ (5 + 5 * v) 3) ∧ ∀ v, v < pM P → τ' (5 + 5 * v) 6 = -1 := by
  have hm := W.1
  intro q
  induction q with
  | zero =>
    intro s τ hs h13 h1 h2 h3 h4
    have e : s = pM P := hs
    refine ⟨τ, ?_, h1, h2, h3, fun v hv => h4 v (by omega)⟩
    rw [sg_X4_forgetEnds_2]
    simp (disch := omega) only [bq_s, aq_I, aq_R, aq_V, cq_t, cq_f, if_true, if_false, Bool.true_and, Bool.and_true, Bool.or_true, Bool.true_or, gi_1_3, gi_s, pi_1_3, pi_s, gr_0_0, gr_0_1, gr_0_2, gr_0_3, gr_1_0, gr_1_1, gr_1_2, gr_s_7, gr_s_8, gr_s_9, gr_s_10, ld_3, ld_4, ld_x, ld_y, ld_u, ld_v, sv_3, sv_4, sv_x, sv_y, sv_u, sv_v, is_0, is_1, is_s, lr_2, h13, i_le, e, Nat.le_refl]
  | succ q ih =>
    intro s τ hs h13 h1 h2 h3 h4
    have e : ¬ pM P ≤ s := by omega
    obtain ⟨τ', y1, y2⟩ := ih (s + 1) (up2 τ (5 + 5 * s) 6 (-1)) (by omega) (by rw [up2_row _ _ (by omega)]; exact h13) (FrS_trans h1 (FrS_st (by omega) (Or.inr rfl))) (fun a ha => by rw [up2_row _ _ (by omega)]; exact h2 a ha) (fun v hv => by rw [up2_n _ _ (by omega)]; exact h3 v hv) (fun v hv => by
      by_cases z : v = s
      · subst z; rw [up2_s]
      · rw [up2_n _ _ (by omega)]; exact h4 v (by omega))
    refine ⟨τ', ?_, y2⟩
    rw [sg_X4_forgetEnds_2]
    simp (disch := omega) only [bq_s, aq_I, aq_R, aq_V, cq_t, cq_f, if_true, if_false, Bool.true_and, Bool.and_true, Bool.or_true, Bool.true_or, gi_1_3, gi_s, pi_1_3, pi_s, gr_0_0, gr_0_1, gr_0_2, gr_0_3, gr_1_0, gr_1_1, gr_1_2, gr_s_7, gr_s_8, gr_s_9, gr_s_10, ld_3, ld_4, ld_x, ld_y, ld_u, ld_v, sv_3, sv_4, sv_x, sv_y, sv_u, sv_v, is_0, is_1, is_s, lr_2, ia_0, ia_1, is_m0, is_m1, im_8, ml_8, im_11, ml_11, im_12, ml_12, im_88, ml_88, im_89, ml_89, j_lt_0, j_gt_0, j_le_0, j_ge_0, j_eq_0, j_lt_1, j_gt_1, j_le_1, j_ge_1, j_eq_1, j_lt_2, j_gt_2, j_le_2, j_ge_2, j_eq_2, j_lt_3, j_gt_3, j_le_3, j_ge_3, j_eq_3, j_lt_4, j_gt_4, j_le_4, j_ge_4, j_eq_4, j_lt_5, j_gt_5, j_le_5, j_ge_5, j_eq_5, j_lt_6, j_gt_6, j_le_6, j_ge_6, j_eq_6, j_lt_8, j_gt_8, j_le_8, j_ge_8, j_eq_8, j_lt_12, j_gt_12, j_le_12, j_ge_12, j_eq_12, j_lt_209, j_gt_209, j_le_209, j_ge_209, j_eq_209, j_lt_255, j_gt_255, j_le_255, j_ge_255, j_eq_255, j_lt_1000000000, j_gt_1000000000, j_le_1000000000, j_ge_1000000000, j_eq_1000000000, h13, i_le, e]
    exact y1
end STR
