/-! plan, planned, start together -/
section PA3
variable {t0 N : Nat} {tb : dT} {d c t : Nat} {g : Nat → Option dE} {fl : Nat → Bool} {tg : Nat} {σ : dSg} {P : dP} {A : dA} {os ob os' ob' : Nat → Nat} {sum : Option Nat} {k T w : Nat} {e : Nat → Option Nat} {n j : Int32}
theorem pF_cg (ag : ∀ i, i < k → os i = os' i ∧ ob i = ob' i) : ∀ i, i < k → pF os ob i = pF os' ob' i := by
  intro i hi
  cases i with
  | zero => rfl
  | succ i => show 11 * os i + ob i = 11 * os' i + ob' i; rw [(ag i (by omega)).1, (ag i (by omega)).2]
theorem OrM_congr (ag : ∀ i, i < k → os i = os' i ∧ ob i = ob' i) (h : OrM P A os ob k σ) : OrM P A os' ob' k σ := fun i hi => by
  have := h i hi
  rw [pF_cg ag i hi, (ag i hi).1, (ag i hi).2] at this
  exact this
theorem ansPd_congr (hk : k ≤ 8) (ag : ∀ i, i < k → os i = os' i ∧ ob i = ob' i) (x y : Int32) : ansPd P A k os ob x y = ansPd P A k os' ob' x y := by
  unfold ansPd
  cases q : inR k x
  · rfl
  · obtain ⟨s, hs, -, es⟩ := inR_ex (by omega) q
    rw [es, pF_cg ag s hs, (ag s hs).1, (ag s hs).2]
theorem st_cnt {τ : dSg} {c' t' tg' : Nat} (hg : Lg1 g) (hc : 296 ≤ c) (hn : Cnt c t tg c' t' tg') (h : REL fl tg' c' τ) (b1 : c ≤ 296 + 2 * N + (if tg = 48 then 0 else 2)) (b2 : t ≤ t0 + 24 * N + (if tg = 48 then 0 else 30360)) : StL t0 (N + 1) (c', t', hp g (SH fl tg') τ) := by
  rcases hn with ⟨rfl, rfl, rfl⟩ | ⟨q1, q2, q3, q4⟩
  · exact st_of hg hc h b1 b2
  · rw [if_pos q1] at b1 b2
    exact ⟨c', t', g, fl, tg', τ, rfl, hg, by omega, h, by rw [if_neg q2]; omega, by rw [if_neg q2]; omega⟩
theorem pq_plan {h : dH} (H : StL t0 N h) : PQ t0 N h (fun h => dX tb (d + 8) 76 0 [.ref 0] [] h) (fun h => dX tb (d + 8) 115 0 [.ref 270] [] h) := by
  obtain ⟨c, t, g, fl, tg, σ, rfl, hg, hc, hr, b1, b2⟩ := H
  refine ⟨is_0, ?_⟩
  rcases hr with ⟨P, A, T, w, e, n, j, hO, HC, HM⟩ | ⟨P, A, sum, k, os, ob, T, n, j, R, HC, HM⟩
  · obtain ⟨τ, tg', c', t', sum, k, os, ob, k1, k2, k3, k4, k5⟩ := kq_plan (tb := tb) (d := d + 2) (t := t) (g := g) hO.1 hO.2.1 hO.2.2.1 hc HC
    obtain ⟨τ', sum', k', os', ob', m1, m2, m3, m4⟩ := mq_plan (tb := tb) (d := d) (c := c') (t := t') (g := g) (fl := fl) (tg := tg') hO.1 (MN_row (fun a a1 a2 => k2 a (by omega) (by omega)) HM)
    obtain ⟨rfl, -, -⟩ := IsPl_uniq hO.1 k3 m3
    exact ⟨_, _, _, k1, is_270, m1, st_cnt hg hc k5 (Or.inl ⟨P, A, T, w, e, n, j, hO, CN_congr hO.1 (fun a ha => m2 a (Or.inl ha)) (Nat.le_refl c') k4, m4⟩) b1 b2⟩
  · exact ⟨_, _, _, kr_plan HC, is_270, mr_plan HM, st_of hg hc (rel_thrR R HC HM) b1 b2⟩
theorem pq_planned {h : dH} (H : StL t0 N h) (x y : Int32) : PQ t0 N h (fun h => dX tb (d + 8) 77 0 [.ref 0, .int x, .int y] [] h) (fun h => dX tb (d + 8) 116 0 [.ref 270, .int x, .int y] [] h) := by
  obtain ⟨c, t, g, fl, tg, σ, rfl, hg, hc, hr, b1, b2⟩ := H
  refine ⟨is_0, ?_⟩
  rcases hr with ⟨P, A, T, w, e, n, j, hO, HC, HM⟩ | ⟨P, A, sum, k, os, ob, T, n, j, R, HC, HM⟩
  · obtain ⟨τ, tg', c', t', sum, k, os, ob, k1, k2, k3, hk8, k4, k5⟩ := kq_planned (tb := tb) (d := d + 2) (t := t) (g := g) hO.1 hO.2.1 hO.2.2.1 hc HC x y
    obtain ⟨τ', sum', k', os', ob', m1, m2, m3, m4⟩ := mq_planned (tb := tb) (d := d) (c := c') (t := t') (g := g) (fl := fl) (tg := tg') hO.1 (MN_row (fun a a1 a2 => k2 a (by omega) (by omega)) HM) x y
    obtain ⟨-, rfl, ag⟩ := IsPl_uniq hO.1 k3 m3
    refine ⟨_, _, _, k1, is_270, ?_, st_cnt hg hc k5 (Or.inl ⟨P, A, T, w, e, n, j, hO, CN_congr hO.1 (fun a ha => m2 a (Or.inl ha)) (Nat.le_refl c') k4, m4⟩) b1 b2⟩
    show dX _ _ _ _ _ _ _ = _
    rw [m1, ansPd_congr hk8 ag]
  · exact ⟨_, _, _, kr_planned HC x y, is_270, mr_planned R.2.2.2.2.1 HM x y, st_of hg hc (rel_thrR R HC HM) b1 b2⟩
theorem mq_start2 {os ob : Nat → Nat} {sum : Option Nat} {k : Nat} (W : Wf P) (hI : IsPl P A sum k os ob) (H : MN P A T w e n j σ) : ∃ τ, (∀ a, a < 270 ∨ 295 ≤ a → τ a = σ a) ∧ (k = 0 → dX tb (d + 8) 124 0 [.ref 270] [] (c, t, hp g (SH fl tg) σ) = some (some (.int 0), (c, t, hp g (SH fl tg) τ)) ∧ MN P A T w e n j τ) ∧ (0 < k → dX tb (d + 8) 124 0 [.ref 270] [] (c, t, hp g (SH fl tg) σ) = some (some (.int 1), (c, t, hp g (SH fl tg) τ)) ∧ MR P A sum k os ob 0 (n + 1) j τ) := by
  have H0 := MN_thr H
  have h23 := H.2.2.1
  obtain ⟨σ1, sum', k', os', ob', y1, y2, y3, y4, y5, y6⟩ := mq_plans (tb := tb) (d := d) (c := c) (t := t) (g := g) (fl := fl) (tg := tg) W H0
  obtain ⟨rfl, rfl, ag⟩ := IsPl_uniq W y3 hI
  have H1 := MN_FrP y2 H0
  have fr1 : ∀ a, a < 270 ∨ 295 ≤ a → σ1 a = σ a := fun a ha => by rw [y2.1 a (by omega), up2_row _ _ (by omega)]
  by_cases hk : k' = 0
  · refine ⟨σ1, fr1, fun _ => ⟨?_, H1⟩, fun z => by omega⟩
    rw [sg_X7_start_0, pi_270_0, bq_s, gi_270_23, bq_s, up2_n _ _ (by omega), h23, if_pos rfl, is_270, cq_t, y1, aq_I]
    cases q : sum'.isSome
    · rw [if_pos (by decide)]
    · rw [if_neg (by decide), gi_270_21, bq_s, (y4 q).2.1, hk, if_pos (by decide)]
  · obtain ⟨hO, -, -, hs, -⟩ := pl_ok hI (by omega) y5
    have q : sum'.isSome = true := by cases sum' with | none => exact absurd rfl hs | some x => rfl
    obtain ⟨p1, p2, p3'⟩ := y4 q
    have p3 := OrM_congr ag p3'
    obtain ⟨C1, A1, i23, i36, -, -, i14, i15⟩ := H1
    obtain ⟨σ2, u1, u2, u3, u4⟩ := km_lay (tb := tb) (d := d + 2) (c := c) (t := t) (g := g) (fl := fl) (tg := tg) (os := os) (ob := ob) C1 W A1 hO p2 (fun i hi => ⟨(p3 i hi).1, (p3 i hi).2.1⟩)
    have e270 : ∀ i, i ≠ 34 → i ≠ 35 → σ2 270 i = σ1 270 i := u2.2
    refine ⟨up2 (up2 (up2 σ2 270 23 1) 270 14 (n + 1)) 270 36 0, fun a ha => ?_, fun z => absurd z hk, fun _ => ⟨?_, ⟨ShM_congr C1 (fun a a1 a2 => ?_) ?_, ?_, PhM_congr (fun a a1 a2 => ?_) ?_ ?_ u3, fun s hs => ?_, fun i hi => ?_, ?_, ?_, ?_, ?_, ?_, ?_⟩⟩⟩
    · simp (disch := omega) only [up2_row]; rw [u2.1 a (by omega)]; exact fr1 a ha
    · rw [sg_X7_start_0, pi_270_0, bq_s, gi_270_23, bq_s, up2_n _ _ (by omega), h23, if_pos rfl, is_270, cq_t, y1, aq_I, q, if_neg (by decide), gi_270_21, bq_s, p2, if_neg (by rw [j_eq_0 (by omega)]; exact hk), is_270, cq_t, u1, aq_V]
      simp (disch := omega) only [bq_s, aq_I, aq_R, aq_V, cq_t, cq_f, if_true, if_false, Bool.true_and, Bool.and_true, Bool.or_true, Bool.true_or, gi_270_0, gi_270_10, gi_270_11, gi_270_12, gi_270_13, gi_270_14, gi_270_15, gi_270_21, gi_270_22, gi_270_23, gi_270_34, gi_270_35, gi_270_36, pi_270_0, pi_270_10, pi_270_11, pi_270_12, pi_270_13, pi_270_14, pi_270_15, pi_270_21, pi_270_22, pi_270_23, pi_270_34, pi_270_35, pi_270_36, gr_270_1, gr_270_2, gr_270_3, gr_270_4, gr_270_5, gr_270_6, gr_270_7, gr_270_8, gr_270_9, gr_270_16, gr_270_17, gr_270_18, gr_270_19, gr_270_20, gr_270_24, gr_270_25, gr_270_26, gr_270_27, gr_270_28, gr_270_29, gr_270_30, gr_270_31, gr_270_32, gr_270_33, ld_271, ld_272, ld_273, ld_274, ld_275, ld_276, ld_277, ld_278, ld_279, ld_280, ld_281, ld_282, ld_283, ld_284, ld_285, ld_286, ld_287, ld_288, ld_289, ld_290, ld_291, ld_292, ld_293, ld_294, sv_271, sv_272, sv_273, sv_274, sv_275, sv_276, sv_277, sv_278, sv_279, sv_280, sv_281, sv_282, sv_283, sv_284, sv_285, sv_286, sv_287, sv_288, sv_289, sv_290, sv_291, sv_292, sv_293, sv_294, is_270, up2_n, e270 14 (by decide) (by decide), i14]
    · simp (disch := omega) only [up2_row]; exact u2.1 a (by omega)
    · simp (disch := omega) only [up2_n]; exact e270 10 (by decide) (by decide)
    · unfold ArM; simp (disch := omega) only [up2_n]; rw [e270 11 (by decide) (by decide), e270 12 (by decide) (by decide), e270 13 (by decide) (by decide)]; exact A1
    · simp (disch := omega) only [up2_row]
    · simp (disch := omega) only [up2_n]
    · simp (disch := omega) only [up2_n]
    · simp (disch := omega) only [up2_row]; exact u4 s hs
    · simp (disch := omega) only [up2_row]; rw [u2.1 281 (by omega), u2.1 282 (by omega), u2.1 283 (by omega), u2.1 284 (by omega)]; exact p3 i hi
    · simp (disch := omega) only [up2_n]; rw [e270 21 (by decide) (by decide)]; exact p2
    · simp (disch := omega) only [up2_n]; rw [e270 22 (by decide) (by decide)]; exact p1
    · simp (disch := omega) only [up2_n, up2_s]
    · simp (disch := omega) only [up2_s]; rfl
    · simp (disch := omega) only [up2_n, up2_s]
    · simp (disch := omega) only [up2_n]; rw [e270 15 (by decide) (by decide)]; exact i15
theorem pq_start {h : dH} (H : StL t0 N h) : PQ t0 N h (fun h => dX tb (d + 8) 80 0 [.ref 0] [] h) (fun h => dX tb (d + 8) 124 0 [.ref 270] [] h) := by
  obtain ⟨c, t, g, fl, tg, σ, rfl, hg, hc, hr, b1, b2⟩ := H
  refine ⟨is_0, ?_⟩
  rcases hr with ⟨P, A, T, w, e, n, j, hO, HC, HM⟩ | ⟨P, A, sum, k, os, ob, T, n, j, R, HC, HM⟩
  · obtain ⟨τ, tg', c', t', sum, k, os, ob, k1, k8, k2, k3, k4⟩ := kq_start (tb := tb) (d := d + 1) (t := t) (g := g) hO.1 hO.2.1 hO.2.2.1 hc HC
    obtain ⟨τ', m1, m2, m3⟩ := mq_start2 (tb := tb) (d := d) (c := c') (t := t') (g := g) (fl := fl) (tg := tg') hO.1 k1 (MN_row (fun a a1 a2 => k3 a a1 (by omega)) HM)
    rcases k4 with ⟨q, r1, r2⟩ | ⟨q, r1, r2⟩
    · exact ⟨_, _, _, r1, is_270, (m2 q).1, st_cnt hg hc k2 (Or.inl ⟨P, A, T, w, e, n, j, hO, CN_congr hO.1 (fun a ha => m1 a (Or.inl ha)) (Nat.le_refl c') r2, (m2 q).2⟩) b1 b2⟩
    · have R : OkR P A sum k os ob 0 := ⟨hO.1, hO.2.1, hO.2.2.1, q, k8, k1, phZ_pos hO.1 (pl_ok k1 q k8).1 q⟩
      exact ⟨_, _, _, r1, is_270, (m3 q).1, st_cnt hg hc k2 (Or.inr ⟨P, A, sum, k, os, ob, 0, n + 1, j, R, CR_congr hO.1 (okR_len R) (fun a ha => m1 a (Or.inl ha)) (Nat.le_refl c') r2, (m3 q).2⟩) b1 b2⟩
  · exact ⟨0, _, _, kr_sta HC.2.2.2.2.2.1, is_270, mr_sta HM.2.2.2.2.2.2.2.1, st_of hg hc (rel_thrR R HC HM) b1 b2⟩
end PA3
