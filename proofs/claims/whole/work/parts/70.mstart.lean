/-! RUNNING, the reference's half; start -/
section MST
noncomputable def MR (P : dP) (A : dA) (sum : Option Nat) (k : Nat) (os ob : Nat → Nat) (T : Nat) (n j : Int32) (σ : dSg) : Prop :=
  ShM P σ ∧ ArM A σ ∧ PhM (phZ P A os ob k) σ ∧ EnM P (eoU os (enZ P A os ob) k) σ ∧ OrM P A os ob k σ ∧ σ 270 21 = Int32.ofNat k ∧ σ 270 22 = encM sum ∧ σ 270 23 = 1 ∧ σ 270 36 = Int32.ofNat T ∧ σ 270 14 = n ∧ σ 270 15 = j
variable {tb : dT} {d c t : Nat} {g : Nat → Option dE} {fl : Nat → Bool} {tg : Nat} {σ : dSg} {P : dP} {A : dA} {T w : Nat} {e : Nat → Option Nat} {n j : Int32}
theorem mq_start (W : Wf P) (H : MN P A T w e n j σ) : ∃ τ sum k os ob, IsPl P A sum k os ob ∧ k ≤ 8 ∧ (∀ a, a < 270 ∨ 295 ≤ a → τ a = σ a) ∧ ((k = 0 ∧ dX tb (d + 8) 124 0 [.ref 270] [] (c, t, hp g (SH fl tg) σ) = some (some (.int 0), (c, t, hp g (SH fl tg) τ)) ∧ MN P A T w e n j τ) ∨ (0 < k ∧ dX tb (d + 8) 124 0 [.ref 270] [] (c, t, hp g (SH fl tg) σ) = some (some (.int 1), (c, t, hp g (SH fl tg) τ)) ∧ MR P A sum k os ob 0 (n + 1) j τ)) := by
  have H0 : MN P A T w e n j (up2 σ 270 0 0) := MN_congr (fun a a1 _ => up2_row _ _ (by omega)) (fun k hk => up2_n _ _ (by omega)) H
  have h23 := H.2.2.1
  obtain ⟨σ1, sum, k, os, ob, y1, y2, y3, y4, y5, y6⟩ := mq_plans (tb := tb) (d := d) (c := c) (t := t) (g := g) (fl := fl) (tg := tg) W H0
  have H1 := MN_FrP y2 H0
  have fr1 : ∀ a, a < 270 ∨ 295 ≤ a → σ1 a = σ a := fun a ha => by rw [y2.1 a (by omega), up2_row _ _ (by omega)]
  by_cases hk : k = 0
  · refine ⟨σ1, sum, k, os, ob, y3, y5, fr1, Or.inl ⟨hk, ?_, H1⟩⟩
    rw [sg_X7_start_0, pi_270_0, bq_s, gi_270_23, bq_s, up2_n _ _ (by omega), h23, if_pos rfl, is_270, cq_t, y1, aq_I]
    cases q : sum.isSome
    · rw [if_pos (by decide)]
    · rw [if_neg (by decide), gi_270_21, bq_s, (y4 q).2.1, hk, if_pos (by decide)]
  · obtain ⟨hO, -, -, hs, -⟩ := pl_ok y3 (by omega) y5
    have q : sum.isSome = true := by cases sum with | none => exact absurd rfl hs | some x => rfl
    obtain ⟨p1, p2, p3⟩ := y4 q
    obtain ⟨C1, A1, i23, i36, -, -, i14, i15⟩ := H1
    obtain ⟨σ2, u1, u2, u3, u4⟩ := km_lay (tb := tb) (d := d + 2) (c := c) (t := t) (g := g) (fl := fl) (tg := tg) (os := os) (ob := ob) C1 W A1 hO p2 (fun i hi => ⟨(p3 i hi).1, (p3 i hi).2.1⟩)
    have e270 : ∀ i, i ≠ 34 → i ≠ 35 → σ2 270 i = σ1 270 i := u2.2
    refine ⟨up2 (up2 (up2 σ2 270 23 1) 270 14 (n + 1)) 270 36 0, sum, k, os, ob, y3, y5, fun a ha => ?_, Or.inr ⟨by omega, ?_, ⟨ShM_congr C1 (fun a a1 a2 => ?_) ?_, ?_, PhM_congr (fun a a1 a2 => ?_) ?_ ?_ u3, fun s hs => ?_, fun i hi => ?_, ?_, ?_, ?_, ?_, ?_, ?_⟩⟩⟩
    · simp (disch := omega) only [up2_row]; rw [u2.1 a (by omega)]; exact fr1 a ha
    · rw [sg_X7_start_0, pi_270_0, bq_s, gi_270_23, bq_s, up2_n _ _ (by omega), h23, if_pos rfl, is_270, cq_t, y1, aq_I, q, if_neg (by decide), gi_270_21, bq_s, p2, if_neg (by rw [j_eq_0 (by omega)]; exact hk), is_270, cq_t, u1, aq_V]
      simp (disch := omega) only [bq_s, aq_I, aq_R, aq_V, cq_t, cq_f, if_true, if_false, Bool.true_and, Bool.and_true, Bool.or_true, Bool.true_or, gi_270_0, gi_270_10, gi_270_11, gi_270_12, gi_270_13, gi_270_14, gi_270_15, gi_270_21, gi_270_22, gi_270_23, gi_270_34, gi_270_35, gi_270_36, pi_270_0, pi_270_10, pi_270_11, pi_270_12, pi_270_13, pi_270_14, pi_270_15, pi_270_21, pi_270_22, pi_270_23, pi_270_34, pi_270_35, pi_270_36, gr_270_1, gr_270_2, gr_270_3, gr_270_4, gr_270_5, gr_270_6, gr_270_7, gr_270_8, gr_270_9, gr_270_16, gr_270_17, gr_270_18, gr_270_19, gr_270_20, gr_270_24, gr_270_25, gr_270_26, gr_270_27, gr_270_28, gr_270_29, gr_270_30, gr_270_31, gr_270_32, gr_270_33, ld_271, ld_272, ld_273, ld_274, ld_275, ld_276, ld_277, ld_278, ld_279, ld_280, ld_281, ld_282, ld_283, ld_284, ld_285, ld_286, ld_287, ld_288, ld_289, ld_290, ld_291, ld_292, ld_293, ld_294, sv_271, sv_272, sv_273, sv_274, sv_275, sv_276, sv_277, sv_278, sv_279, sv_280, sv_281, sv_282, sv_283, sv_284, sv_285, sv_286, sv_287, sv_288, sv_289, sv_290, sv_291, sv_292, sv_293, sv_294, is_270, up2_n, e270 14 (by decide) (by decide), i14]
    · simp (disch := omega) only [up2_row]; exact u2.1 a (by omega)
    · simp (disch := omega) only [up2_n]; exact e270 10 (by decide) (by decide)
    · unfold ArM; simp (disch := omega) only [up2_n]; rw [e270 11 (by decide) (by decide), e270 12 (by decide) (by decide), e270 13 (by decide) (by decide)]; exact A1
    · simp (disch := omega) only [up2_row]
    · simp (disch := omega) only [up2_n]
    · simp (disch := omega) only [up2_n]
    · simp (disch := omega) only [up2_row]; exact u4 s hs
    · simp (disch := omega) only [up2_row]; rw [u2.1 281 (by omega), u2.1 282 (by omega), u2.1 283 (by omega), u2.1 284 (by omega)]; exact p3 i hi
    · simp (disch := omega) only [up2_n]; rw [e270 21 (by decide) (by decide)]; exact p2
    · simp (disch := omega) only [up2_n]; rw [e270 22 (by decide) (by decide)]; exact p1
    · simp (disch := omega) only [up2_n, up2_s]
    · simp (disch := omega) only [up2_s]; rfl
    · simp (disch := omega) only [up2_n, up2_s]
    · simp (disch := omega) only [up2_n]; rw [e270 15 (by decide) (by decide)]; exact i15
end MST
