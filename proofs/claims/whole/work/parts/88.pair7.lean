/-! at together -/
section PA7
variable {t0 N : Nat} {tb : dT} {d c t : Nat} {g : Nat → Option dE} {fl : Nat → Bool} {tg : Nat} {σ : dSg} {P : dP} {A : dA} {os ob : Nat → Nat} {sum : Option Nat} {k T w : Nat} {e : Nat → Option Nat} {n j : Int32}
theorem lon_same (z : Int64) : lg_cmp z z = 0 := by
  unfold lg_cmp
  rw [if_neg (show ¬ z > z from Int64.lt_irrefl), if_pos rfl]
theorem SH_295 (hg : TgO tg c) : SH fl tg 295 = none := SH_free (Nat.le_refl _) (by unfold TgO at hg; omega) (by unfold TgO at hg; omega)
theorem lon_row (hg : TgO tg c) {z : Nat → Int64} (hz : g 295 = some (.inl (4, 1, .inr (.inl z)))) : dm_rowL (c, t, hp g (SH fl tg) σ) 295 = some (1, z) := by
  unfold dm_rowL
  dsimp only
  rw [hp_no (SH_295 hg), hz]
  rfl
/-- the law's long[1] is written -/
theorem lon_st (hg : TgO tg c) {z : Nat → Int64} (hz : g 295 = some (.inl (4, 1, .inr (.inl z)))) (x : Int64) : dm_stL (c, t, hp g (SH fl tg) σ) 295 0 x = some (c, t, hp (va_up g 295 (some (.inl (4, 1, .inr (.inl (vp_updL z 0 x)))))) (SH fl tg) σ) := by
  unfold dm_stL
  rw [lon_row hg hz, Option.bind_some]
  show dm_at (Int32.ofNat 0) 1 id _ = _
  rw [i_at (by omega) (by omega)]
  refine congrArg some (congrArg (Prod.mk c) (congrArg (Prod.mk t) ?_))
  funext b
  by_cases hb : b = 295
  · subst hb; rw [va_up_self, hp_no (SH_295 hg), va_up_self]; rfl
  · rw [va_up_ne _ _ hb]; unfold hp; rw [va_up_ne _ _ hb]
theorem lon_ld (hg : TgO tg c) {z : Nat → Int64} (hz : g 295 = some (.inl (4, 1, .inr (.inl z)))) : dm_ldL (c, t, hp g (SH fl tg) σ) 295 0 = some (z 0) := by
  unfold dm_ldL
  rw [lon_row hg hz, Option.bind_some]
  show dm_at (Int32.ofNat 0) 1 z _ = _
  rw [i_at (by omega) (by omega)]
theorem MR_thv (v : Int32) (H : MR P A sum k os ob T n j σ) : MR P A sum k os ob T n j (up2 σ 270 0 v) := by
  obtain ⟨C, hA, Ph, En, Or', h21, h22, h23, h36, h14, h15⟩ := H
  refine ⟨ShM_congr C (fun a a1 a2 => up2_row _ _ (by omega)) (up2_n _ _ (by omega)), ?_, PhM_congr (fun a a1 a2 => up2_row _ _ (by omega)) (up2_n _ _ (by omega)) (up2_n _ _ (by omega)) Ph, fun s hs => ?_, fun i hi => ?_, ?_, ?_, ?_, ?_, ?_, ?_⟩
  · unfold ArM; simp (disch := omega) only [up2_n]; exact hA
  · simp (disch := omega) only [up2_row]; exact En s hs
  · simp (disch := omega) only [up2_row]; exact Or' i hi
  · rw [up2_n _ _ (by omega)]; exact h21
  · rw [up2_n _ _ (by omega)]; exact h22
  · rw [up2_n _ _ (by omega)]; exact h23
  · rw [up2_n _ _ (by omega)]; exact h36
  · rw [up2_n _ _ (by omega)]; exact h14
  · rw [up2_n _ _ (by omega)]; exact h15
/-- a call that changes nothing but thrown, and takes cells -/
theorem rel_v {c' : Nat} (v : Int32) (hc : c ≤ c') (h : REL fl tg c σ) : REL fl tg c' (up2 σ 270 0 v) := by
  have r : ∀ a, a < 270 → up2 σ 270 0 v a = σ a := fun a ha => up2_row _ _ (by omega)
  rcases h with ⟨P, A, T, w, e, n, j, hO, HC, HM⟩ | ⟨P, A, sum, k, os, ob, T, n, j, R, HC, HM⟩
  · exact Or.inl ⟨P, A, T, w, e, n, j, hO, CN_congr hO.1 r hc HC, MN_congr (fun a a1 _ => up2_row _ _ (by omega)) (fun k hk => up2_n _ _ (by omega)) HM⟩
  · exact Or.inr ⟨P, A, sum, k, os, ob, T, n, j, R, CR_congr R.1 (okR_len R) r hc HC, MR_thv v HM⟩
theorem rel_sheet (h : REL fl tg c σ) : ∃ P, Wf P ∧ ShC P fl σ ∧ ShM P σ ∧ TgO tg c := by
  rcases h with ⟨P, A, T, w, e, n, j, hO, HC, HM⟩ | ⟨P, A, sum, k, os, ob, T, n, j, R, HC, HM⟩
  · exact ⟨P, hO.1, HC.1, HM.1, HC.2.2.2.2.2.2.2.2.2.2.2⟩
  · exact ⟨P, R.1, HC.1, HM.1, HC.2.2.2.2.2.2.2.2.2.1⟩
theorem pq_at {h : dH} (H : StL t0 N h) (x y z : Int32) : (dm_obj h 0 6).isSome = true ∧ ∃ r1 h1 r2 h2, (∀ K : Int32 → dH → Option (Option Value × dH), dm_lat (dX tb (d + 2) 85 0 [.ref 0, .int x, .int y, .int z, .null] [] h) 295 K = K r1 h1) ∧ (dm_obj h1 270 7).isSome = true ∧ dX tb (d + 3) 135 0 [.ref 270, .int x, .int y, .int z] [] h1 = some (some (.int r2), h2) ∧ (dm_obj h2 270 7).isSome = true ∧ dX tb (d + 3) 90 0 [.ref 270] [] h2 = some (some (.int r1), h2) ∧ (r1 = 0 → ∃ z, dm_ldL h2 295 0 = some z ∧ lg_cmp z r2.toInt64 = 0) ∧ StL t0 (N + 1) h2 := by
  obtain ⟨c, t, g, fl, tg, σ, rfl, ⟨z0, hz⟩, hc, hr, b1, b2⟩ := H
  obtain ⟨P, W, C, M, hT⟩ := rel_sheet hr
  have k := kq_at (tb := tb) (d := d) (c := c) (t := t) (g := g) (tg := tg) C W x y z
  cases q : hasAt P x y
  · rw [q, cond_false] at k
    have m := mq_at (tb := tb) (d := d + 1) (c := c + 1) (t := t + 6) (g := g) (fl := fl) (tg := tg) M W x y z
    rw [q, cond_false] at m
    refine ⟨is_0, 1, (c + 1, t + 6, hp g (SH fl tg) σ), 0, (c + 1, t + 6, hp g (SH fl tg) (up2 σ 270 0 1)), fun K => by rw [k]; rfl, is_270, m, is_270, ?_, fun h => absurd h (by decide), c + 1, t + 6, g, fl, tg, _, rfl, ⟨z0, hz⟩, by omega, rel_v 1 (Nat.le_succ c) hr, by omega, by omega⟩
    rw [sg_X7_thrown_0, gi_270_0, bq_s, up2_s]
  · rw [q, cond_true] at k
    have m := mq_at (tb := tb) (d := d + 1) (c := c) (t := t) (g := va_up g 295 (some (.inl (4, 1, .inr (.inl (vp_updL z0 0 (ansAt P x y z).toInt64)))))) (fl := fl) (tg := tg) M W x y z
    rw [q, cond_true] at m
    refine ⟨is_0, 0, (c, t, hp (va_up g 295 (some (.inl (4, 1, .inr (.inl (vp_updL z0 0 (ansAt P x y z).toInt64)))))) (SH fl tg) σ), ansAt P x y z, _, fun K => ?_, is_270, m, is_270, ?_, fun _ => ⟨_, lon_ld hT (va_up_self _ _ _), ?_⟩, c, t, _, fl, tg, _, rfl, ⟨_, va_up_self _ _ _⟩, hc, rel_v 0 (Nat.le_refl c) hr, by omega, by omega⟩
    · rw [k]
      show Option.bind (dm_stL _ 295 0 _) _ = _
      rw [lon_st hT hz]; rfl
    · rw [sg_X7_thrown_0, gi_270_0, bq_s, up2_s]
    · rw [show vp_updL z0 0 (ansAt P x y z).toInt64 0 = (ansAt P x y z).toInt64 from if_pos rfl, lon_same]
end PA7
