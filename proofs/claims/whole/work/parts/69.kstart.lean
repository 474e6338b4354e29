/-! start, the class's side -/
section KST
variable {tb : dT} {d c t : Nat} {g : Nat → Option dE} {fl : Nat → Bool} {tg : Nat} {σ : dSg} {P : dP} {A : dA} {T w : Nat} {e : Nat → Option Nat} {n j : Int32}
theorem kq_begin (W : Wf P) (hx : A.1 ≤ 500) (hy : A.2.1 ≤ 500) {sum : Option Nat} {k : Nat} {os ob : Nat → Nat} (hp1 : IsPl P A sum k os ob) (hp2 : PlC P A sum k os ob σ) (hp3 : bnd 0 sum) (hk : 0 < k) (H : CN P A T w e n j fl tg c σ) (h46 : σ 46 10 = 1) : ∃ τ, dX tb (d + 6) 27 0 [.ref 57, .ref 46] [] (c, t, hp g (SH fl tg) σ) = some (none, (c, t, hp g (SH fl tg) τ)) ∧ CR P A sum k os ob 0 (n + 1) j fl tg c τ ∧ ∀ a, 270 ≤ a → τ a = σ a := by
  have hm := W.1
  obtain ⟨C, Lc, Hh, h4, h5, h6, h7, h8, h9, h10, h11, h12⟩ := H
  have hO := (pl_ok hp1 hk hp2.2.2.1).1
  let σ1 : dSg := up2 (up2 (up2 (up2 (up2 (up2 (up2 σ 57 11 1) 57 13 (n + 1)) 57 12 0) 57 4 0) 57 8 0) 57 9 0) 57 10 0
  have r1 : ∀ a, a ≠ 57 → σ1 a = σ a := fun a ha => by simp (disch := omega) only [σ1, up2_row]
  have C1 : ShC P fl σ1 := ShC_congr W C fun a ha => r1 a (by omega)
  obtain ⟨σ2, y1, y2, y3, y4, y5⟩ := kq_forget (tb := tb) (d := d + 5) (c := c) (t := t) (g := g) (fl := fl) (tg := tg) (σ := σ1) W (pM P) 0 σ1 (by omega) C1.1 (FrS_refl σ1) (fun _ _ => rfl) (fun _ _ => rfl) (fun v hv => by omega)
  have y1' : dX tb (d + 5) 54 2 [.ref 1, .int 0] [] (c, t, hp g (SH fl tg) σ1) = some (none, (c, t, hp g (SH fl tg) σ2)) := y1
  have C2 : ShC P fl σ2 := FrS_ShC W y2 C1
  have r2 : ∀ a, a < 5 ∨ 41 ≤ a → a ≠ 57 → σ2 a = σ a := fun a h1 h2 => by rw [y3 a h1, r1 a h2]
  have H2 : HdC 45 σ2 A.1 A.2.1 A.2.2 false := HdC_congr (r2 45 (by omega) (by omega)) Hh
  obtain ⟨σ3, u1, u2, u3⟩ := kc_layAll (tb := tb) (d := d) (c := c) (t := t) (g := g) (tg := tg) (A := A) C2 W hO (by rw [r2 46 (by omega) (by omega)]; exact hp2.2.1) (fun i hi => by rw [r2 53 (by omega) (by omega), r2 54 (by omega) (by omega)]; exact ⟨(hp2.2.2.2 i hi).1, (hp2.2.2.2 i hi).2.1⟩) H2 hx hy
  have C3 : ShC P fl σ3 := ShC_congr W C2 fun a ha => u2.1 a (by omega) (by omega) (by omega) (by omega)
  have e57 : ∀ i, i ≠ 3 → i ≠ 6 → σ3 57 i = σ1 57 i := fun i a1 a2 => by rw [u2.2 i a1 a2, y3 57 (by omega)]
  have Z3 : ZC P (([] : List dF).foldl (fin P) (z0 A)) σ3 := by
    refine ⟨?_, ?_, ?_, ?_, ?_, fun s hs => ⟨?_, ?_⟩⟩
    · rw [u2.1 45 (by omega) (by omega) (by omega) (by omega)]; exact H2.2.2.1
    · rw [u2.1 45 (by omega) (by omega) (by omega) (by omega)]; exact H2.2.2.2
    · rw [e57 8 (by decide) (by decide)]; simp (disch := omega) only [σ1, up2_n, up2_s]; rfl
    · rw [e57 9 (by decide) (by decide)]; simp (disch := omega) only [σ1, up2_n, up2_s]; rfl
    · rw [e57 10 (by decide) (by decide)]; simp (disch := omega) only [σ1, up2_n, up2_s]; rfl
    · rw [u2.1 (5 + 5 * s) (by omega) (by omega) (by omega) (by omega), y4 s (by omega), r1 _ (by omega), Lc s hs]
      show _ = bI (pLf P s && true); rw [Bool.and_true]
    · rw [u2.1 (5 + 5 * s) (by omega) (by omega) (by omega) (by omega), y5 s hs]; rfl
  have hpos := phZ_pos (A := A) W hO hk
  have hne : 0 < ((phZ P A os ob k).filter nz).length := by
    rcases Nat.eq_zero_or_pos ((phZ P A os ob k).filter nz).length with q | q
    · have := tot_nz (phZ P A os ob k)
      rw [List.length_eq_zero_iff.mp q] at this
      have z : tot ([] : List dF) = 0 := rfl
      omega
    · exact q
  obtain ⟨τ, v1, v2, v3, -⟩ := kq_settle (tb := tb) (d := d + 2) (c := c) (t := t) (g := g) (tg := tg) (T := 0) W hO hk hx hy (by omega) C3 u3 (pre := []) (post := phZ P A os ob k) rfl (Nat.le_refl 0) Z3 (by rw [e57 4 (by decide) (by decide)]; simp (disch := omega) only [σ1, up2_n, up2_s]; rfl) (by rw [e57 12 (by decide) (by decide)]; simp (disch := omega) only [σ1, up2_n, up2_s]; rfl) hne
  obtain ⟨v4, v5⟩ := v3 hpos
  have ro : ∀ a, a ≠ 57 → a ≠ 59 → a ≠ 60 → a < 5 ∨ (46 ≤ a ∧ a < 61) ∨ 270 ≤ a → τ a = σ a := fun a a1 a2 a3 a4 => by rw [v2.1 a (by omega) (by omega) (fun s hs => by omega), u2.1 a (by omega) (by omega) (by omega) (by omega), r2 a (by omega) (by omega)]
  have ro57 : ∀ i, i ≠ 3 → i ≠ 4 → i ≠ 6 → i ≠ 8 → i ≠ 9 → i ≠ 10 → i ≠ 11 → τ 57 i = σ1 57 i := fun i a1 a2 a3 a4 a5 a6 a7 => by rw [v2.2.1 i a2 a4 a5 a6 a7, e57 i a1 a3]
  refine ⟨τ, ?_, ⟨FrS_ShC W v2 C3, FrS_LgC v2 ?_ u3, ?_, hp3, ?_, ?_, ?_, ?_, ?_, h12, v4⟩, fun a ha => ro a (by omega) (by omega) (by omega) (by omega)⟩
  · rw [sg_X3_begin_0]
    simp (disch := omega) only [bq_s, aq_I, aq_R, aq_V, cq_t, cq_f, if_true, if_false, Bool.true_and, Bool.and_true, Bool.or_true, Bool.true_or, gi_1_3, gi_s, pi_1_3, pi_s, gr_0_0, gr_0_1, gr_0_2, gr_0_3, gr_1_0, gr_1_1, gr_1_2, gr_s_7, gr_s_8, gr_s_9, gr_s_10, ld_3, ld_4, ld_x, ld_y, ld_u, ld_v, sv_3, sv_4, sv_x, sv_y, sv_u, sv_v, is_0, is_1, is_s, lr_2, gi_45_0, gi_45_1, gi_45_2, gi_45_3, gi_59_0, gi_59_1, gi_59_2, gi_59_3, gi_57_3, gi_57_4, gi_57_6, gi_57_8, gi_57_9, gi_57_10, gi_57_11, gi_57_12, gi_57_13, gi_57_14, gi_l, pi_45_0, pi_45_1, pi_45_2, pi_45_3, pi_59_0, pi_59_1, pi_59_2, pi_59_3, pi_57_3, pi_57_4, pi_57_6, pi_57_8, pi_57_9, pi_57_10, pi_57_11, pi_57_12, pi_57_13, pi_57_14, pi_l, gr_57_0, gr_57_1, gr_57_2, gr_57_5, gr_57_7, ld_60, sv_60, is_45, is_59, is_57, is_l, lr_58, h9, up2_n]
    rw [sg_X4_forgetEnds_0]
    have y1'' : dX tb (d + 5) 54 2 [.ref 1, .int 0] [] (c, t, hp g (SH fl tg) (up2 (up2 (up2 (up2 (up2 (up2 (up2 σ 57 11 1) 57 13 (n + 1)) 57 12 0) 57 4 0) 57 8 0) 57 9 0) 57 10 0)) = some (none, (c, t, hp g (SH fl tg) σ2)) := y1'
    simp (disch := omega) only [bq_s, aq_I, aq_R, aq_V, cq_t, cq_f, if_true, if_false, Bool.true_and, Bool.and_true, Bool.or_true, Bool.true_or, gi_1_3, gi_s, pi_1_3, pi_s, gr_0_0, gr_0_1, gr_0_2, gr_0_3, gr_1_0, gr_1_1, gr_1_2, gr_s_7, gr_s_8, gr_s_9, gr_s_10, ld_3, ld_4, ld_x, ld_y, ld_u, ld_v, sv_3, sv_4, sv_x, sv_y, sv_u, sv_v, is_0, is_1, is_s, lr_2, gi_45_0, gi_45_1, gi_45_2, gi_45_3, gi_59_0, gi_59_1, gi_59_2, gi_59_3, gi_57_3, gi_57_4, gi_57_6, gi_57_8, gi_57_9, gi_57_10, gi_57_11, gi_57_12, gi_57_13, gi_57_14, gi_l, pi_45_0, pi_45_1, pi_45_2, pi_45_3, pi_59_0, pi_59_1, pi_59_2, pi_59_3, pi_57_3, pi_57_4, pi_57_6, pi_57_8, pi_57_9, pi_57_10, pi_57_11, pi_57_12, pi_57_13, pi_57_14, pi_l, gr_57_0, gr_57_1, gr_57_2, gr_57_5, gr_57_7, ld_60, sv_60, is_45, is_59, is_57, is_l, lr_58, y1'', u1, v1]
  · have := fil_len (phZ P A os ob k); have := (phZ_len (A := A) W hO hx hy).1; omega
  · unfold PlC OrC
    rw [ro 46 (by omega) (by omega) (by omega) (by omega), ro 53 (by omega) (by omega) (by omega) (by omega), ro 54 (by omega) (by omega) (by omega) (by omega), ro 55 (by omega) (by omega) (by omega) (by omega), ro 56 (by omega) (by omega) (by omega) (by omega)]; exact hp2
  · rw [ro 46 (by omega) (by omega) (by omega) (by omega)]; exact h46
  · rw [v5, e57 11 (by decide) (by decide)]; simp (disch := omega) only [σ1, up2_n, up2_s]
  · rw [ro57 12 (by decide) (by decide) (by decide) (by decide) (by decide) (by decide) (by decide)]; simp (disch := omega) only [σ1, up2_n, up2_s]; rfl
  · rw [ro57 13 (by decide) (by decide) (by decide) (by decide) (by decide) (by decide) (by decide)]; simp (disch := omega) only [σ1, up2_n, up2_s]
  · rw [ro57 14 (by decide) (by decide) (by decide) (by decide) (by decide) (by decide) (by decide)]; simp (disch := omega) only [σ1, up2_n]; exact h10
theorem kq_start (W : Wf P) (hx : A.1 ≤ 500) (hy : A.2.1 ≤ 500) (hc : 296 ≤ c) (H : CN P A T w e n j fl tg c σ) : ∃ τ tg' c' t' sum k os ob, IsPl P A sum k os ob ∧ k ≤ 8 ∧ Cnt c t tg c' t' tg' ∧ (∀ a, 270 ≤ a → a < 296 → τ a = σ a) ∧ ((k = 0 ∧ dX tb (d + 7) 80 0 [.ref 0] [] (c, t, hp g (SH fl tg) σ) = some (some (.int 0), (c', t', hp g (SH fl tg') τ)) ∧ CN P A T w e n j fl tg' c' τ) ∨ (0 < k ∧ dX tb (d + 7) 80 0 [.ref 0] [] (c, t, hp g (SH fl tg) σ) = some (some (.int 1), (c', t', hp g (SH fl tg') τ)) ∧ CR P A sum k os ob 0 (n + 1) j fl tg' c' τ)) := by
  have h4 := H.2.2.2.1
  obtain ⟨σ1, tg', c', t', sum, k, os, ob, y1, y2, y3, y4, y5, y6, y7, y8⟩ := kq_renew (tb := tb) (d := d + 1) (t := t) (g := g) W hx hy hc H
  have hk8 := y5.2.2.1
  have h15 := y5.2.1
  by_cases hk : k = 0
  · refine ⟨σ1, tg', c', t', sum, k, os, ob, y4, hk8, y8, fun a a1 a2 => y2 a (by omega) a2, Or.inl ⟨hk, ?_, y7⟩⟩
    rw [sg_X6_start_0]
    simp (disch := omega) only [bq_s, aq_I, aq_R, aq_V, cq_t, cq_f, if_true, if_false, Bool.true_and, Bool.and_true, Bool.or_true, Bool.true_or, gi_1_3, gi_s, pi_1_3, pi_s, gr_0_0, gr_0_1, gr_0_2, gr_0_3, gr_1_0, gr_1_1, gr_1_2, gr_s_7, gr_s_8, gr_s_9, gr_s_10, ld_3, ld_4, ld_x, ld_y, ld_u, ld_v, sv_3, sv_4, sv_x, sv_y, sv_u, sv_v, is_0, is_1, is_s, lr_2, gi_45_0, gi_45_1, gi_45_2, gi_45_3, gi_47_0, gi_47_1, gi_47_2, gi_47_3, gi_46_8, gi_46_9, gi_46_10, gi_46_15, gi_46_16, pi_45_0, pi_45_1, pi_45_2, pi_45_3, pi_47_0, pi_47_1, pi_47_2, pi_47_3, pi_46_8, pi_46_9, pi_46_10, pi_46_15, pi_46_16, gr_46_0, gr_46_1, gr_46_2, gr_46_3, gr_46_4, gr_46_5, gr_46_6, gr_46_7, gr_46_11, gr_46_12, gr_46_13, gr_46_14, ld_50, ld_51, ld_52, ld_53, ld_54, ld_55, ld_56, ld_t, ld_b, sv_50, sv_51, sv_52, sv_53, sv_54, sv_55, sv_56, sv_t, sv_b, is_45, is_47, is_46, gi_59_0, gi_59_1, gi_59_2, gi_59_3, gi_57_3, gi_57_4, gi_57_6, gi_57_8, gi_57_9, gi_57_10, gi_57_11, gi_57_12, gi_57_13, gi_57_14, gi_l, pi_59_0, pi_59_1, pi_59_2, pi_59_3, pi_57_3, pi_57_4, pi_57_6, pi_57_8, pi_57_9, pi_57_10, pi_57_11, pi_57_12, pi_57_13, pi_57_14, pi_l, gr_57_0, gr_57_1, gr_57_2, gr_57_5, gr_57_7, ld_60, sv_60, is_59, is_57, is_l, lr_58, ia_0, ia_1, is_m0, is_m1, im_8, ml_8, im_11, ml_11, im_12, ml_12, im_88, ml_88, im_89, ml_89, j_lt_0, j_gt_0, j_le_0, j_ge_0, j_eq_0, j_lt_1, j_gt_1, j_le_1, j_ge_1, j_eq_1, j_lt_2, j_gt_2, j_le_2, j_ge_2, j_eq_2, j_lt_3, j_gt_3, j_le_3, j_ge_3, j_eq_3, j_lt_4, j_gt_4, j_le_4, j_ge_4, j_eq_4, j_lt_5, j_gt_5, j_le_5, j_ge_5, j_eq_5, j_lt_6, j_gt_6, j_le_6, j_ge_6, j_eq_6, j_lt_8, j_gt_8, j_le_8, j_ge_8, j_eq_8, j_lt_12, j_gt_12, j_le_12, j_ge_12, j_eq_12, j_lt_209, j_gt_209, j_le_209, j_ge_209, j_eq_209, j_lt_255, j_gt_255, j_le_255, j_ge_255, j_eq_255, j_lt_1000000000, j_gt_1000000000, j_le_1000000000, j_ge_1000000000, j_eq_1000000000, h4, y1, h15, hk]
  · obtain ⟨τ, z1, z2, z3⟩ := kq_begin (tb := tb) (d := d) (c := c') (t := t') (g := g) W hx hy y4 y5 y6 (by omega) y7 y3
    refine ⟨τ, tg', c', t', sum, k, os, ob, y4, hk8, y8, fun a a1 a2 => by rw [z3 a a1]; exact y2 a (by omega) a2, Or.inr ⟨by omega, ?_, z2⟩⟩
    rw [sg_X6_start_0]
    simp (disch := omega) only [bq_s, aq_I, aq_R, aq_V, cq_t, cq_f, if_true, if_false, Bool.true_and, Bool.and_true, Bool.or_true, Bool.true_or, gi_1_3, gi_s, pi_1_3, pi_s, gr_0_0, gr_0_1, gr_0_2, gr_0_3, gr_1_0, gr_1_1, gr_1_2, gr_s_7, gr_s_8, gr_s_9, gr_s_10, ld_3, ld_4, ld_x, ld_y, ld_u, ld_v, sv_3, sv_4, sv_x, sv_y, sv_u, sv_v, is_0, is_1, is_s, lr_2, gi_45_0, gi_45_1, gi_45_2, gi_45_3, gi_47_0, gi_47_1, gi_47_2, gi_47_3, gi_46_8, gi_46_9, gi_46_10, gi_46_15, gi_46_16, pi_45_0, pi_45_1, pi_45_2, pi_45_3, pi_47_0, pi_47_1, pi_47_2, pi_47_3, pi_46_8, pi_46_9, pi_46_10, pi_46_15, pi_46_16, gr_46_0, gr_46_1, gr_46_2, gr_46_3, gr_46_4, gr_46_5, gr_46_6, gr_46_7, gr_46_11, gr_46_12, gr_46_13, gr_46_14, ld_50, ld_51, ld_52, ld_53, ld_54, ld_55, ld_56, ld_t, ld_b, sv_50, sv_51, sv_52, sv_53, sv_54, sv_55, sv_56, sv_t, sv_b, is_45, is_47, is_46, gi_59_0, gi_59_1, gi_59_2, gi_59_3, gi_57_3, gi_57_4, gi_57_6, gi_57_8, gi_57_9, gi_57_10, gi_57_11, gi_57_12, gi_57_13, gi_57_14, gi_l, pi_59_0, pi_59_1, pi_59_2, pi_59_3, pi_57_3, pi_57_4, pi_57_6, pi_57_8, pi_57_9, pi_57_10, pi_57_11, pi_57_12, pi_57_13, pi_57_14, pi_l, gr_57_0, gr_57_1, gr_57_2, gr_57_5, gr_57_7, ld_60, sv_60, is_59, is_57, is_l, lr_58, ia_0, ia_1, is_m0, is_m1, im_8, ml_8, im_11, ml_11, im_12, ml_12, im_88, ml_88, im_89, ml_89, j_lt_0, j_gt_0, j_le_0, j_ge_0, j_eq_0, j_lt_1, j_gt_1, j_le_1, j_ge_1, j_eq_1, j_lt_2, j_gt_2, j_le_2, j_ge_2, j_eq_2, j_lt_3, j_gt_3, j_le_3, j_ge_3, j_eq_3, j_lt_4, j_gt_4, j_le_4, j_ge_4, j_eq_4, j_lt_5, j_gt_5, j_le_5, j_ge_5, j_eq_5, j_lt_6, j_gt_6, j_le_6, j_ge_6, j_eq_6, j_lt_8, j_gt_8, j_le_8, j_ge_8, j_eq_8, j_lt_12, j_gt_12, j_le_12, j_ge_12, j_eq_12, j_lt_209, j_gt_209, j_le_209, j_ge_209, j_eq_209, j_lt_255, j_gt_255, j_le_255, j_ge_255, j_eq_255, j_lt_1000000000, j_gt_1000000000, j_le_1000000000, j_ge_1000000000, j_eq_1000000000, h4, y1, h15, hk, z1]
end KST
