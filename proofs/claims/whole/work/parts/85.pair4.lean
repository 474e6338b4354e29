/-! step, arm, count together -/
section PA4
variable {t0 N : Nat} {tb : dT} {d : Nat}
theorem pq_step {h : dH} (H : StL t0 N h) (x : Int32) : PQ t0 N h (fun h => dX tb (d + 5) 81 0 [.ref 0, .int x, .null] [] h) (fun h => dX tb (d + 5) 128 0 [.ref 270, .int x, .null, .null] [] h) := by
  obtain ⟨c, t, g, fl, tg, σ, rfl, hg, hc, hr, b1, b2⟩ := H
  refine ⟨is_0, ?_⟩
  rcases hr with ⟨P, A, T, w, e, n, j, hO, HC, HM⟩ | ⟨P, A, sum, k, os, ob, T, n, j, R, HC, HM⟩
  · exact ⟨-1, _, _, kn_stp HC.2.2.2.1 x, is_270, mn_stp HM.2.2.1 x, st_of hg hc (rel_thrN hO HC HM) b1 b2⟩
  · have K := kq_step (tb := tb) (d := d) (t := t) (g := g) R HC x
    cases q : inR 10001 x
    · exact ⟨-1, _, _, K.1 q, is_270, (mq_step (tb := tb) (d := d + 3) (c := c) (t := t) (g := g) (fl := fl) (tg := tg) R HM x).1 q, st_of hg hc (rel_thrR R HC HM) b1 b2⟩
    · obtain ⟨τ, k1, k2, k3, k4⟩ := K.2 q
      obtain ⟨τ', m1, m2, m3, m4⟩ := (mq_step (tb := tb) (d := d + 3) (c := c) (t := t) (g := g) (fl := fl) (tg := tg) R (MR_congr (fun a a1 _ => k2 a a1) HM) x).2 q
      refine ⟨_, _, _, k1, is_270, m1, st_of hg hc ?_ b1 b2⟩
      by_cases z : T + min (tot (phZ P A os ob k) - T) (tN x) < tot (phZ P A os ob k)
      · exact Or.inr ⟨P, A, sum, k, os, ob, _, n, j, ⟨R.1, R.2.1, R.2.2.1, R.2.2.2.1, R.2.2.2.2.1, R.2.2.2.2.2.1, z⟩, CR_congr R.1 (okR_len R) (fun a ha => m2 a (Or.inl ha)) (Nat.le_refl c) (k3 z), m3 z⟩
      · have z' : T + min (tot (phZ P A os ob k) - T) (tN x) = tot (phZ P A os ob k) := by have := R.2.2.2.2.2.2; omega
        have O := end_ok R.1 (pl_ok R.2.2.2.2.2.1 R.2.2.2.1 R.2.2.2.2.1).1 R.2.2.2.1 R.2.1 R.2.2.1
        exact Or.inl ⟨_, _, _, _, _, n, j, O, CN_congr O.1 (fun a ha => m2 a (Or.inl ha)) (Nat.le_refl c) (k4 z'), m4 z'⟩
theorem pq_arm {h : dH} (H : StL t0 N h) (x : Int32) : PQ t0 N h (fun h => dX tb (d + 3) 83 0 [.ref 0, .int x] [] h) (fun h => dX tb (d + 3) 132 0 [.ref 270, .int x, .null, .null, .null] [] h) := by
  obtain ⟨c, t, g, fl, tg, σ, rfl, hg, hc, hr, b1, b2⟩ := H
  refine ⟨is_0, ?_⟩
  rcases hr with ⟨P, A, T, w, e, n, j, hO, HC, HM⟩ | ⟨P, A, sum, k, os, ob, T, n, j, R, HC, HM⟩
  · exact ⟨_, _, _, kq_armN HC x, is_270, mq_armN hO.2.2.2.1 HM x, st_of hg hc (rel_thrN hO HC HM) b1 b2⟩
  · obtain ⟨pre, f, post, r1, r2, r3, r4⟩ := kq_armR (tb := tb) (d := d) (t := t) (g := g) R HC
    exact ⟨_, _, _, r4 x, is_270, mq_armR R HM r1 r2 r3 x, st_of hg hc (rel_thrR R HC HM) b1 b2⟩
theorem pq_count {h : dH} (H : StL t0 N h) (x : Int32) : PQ t0 N h (fun h => dX tb (d + 3) 86 0 [.ref 0, .int x] [] h) (fun h => dX tb (d + 3) 136 0 [.ref 270, .int x, .null, .null, .null] [] h) := by
  obtain ⟨c, t, g, fl, tg, σ, rfl, hg, hc, hr, b1, b2⟩ := H
  refine ⟨is_0, ?_⟩
  rcases hr with ⟨P, A, T, w, e, n, j, hO, HC, HM⟩ | ⟨P, A, sum, k, os, ob, T, n, j, R, HC, HM⟩
  · have H0 := MN_thr HM
    exact ⟨_, _, _, kq_count HC.1 hO.1 HC.2.1 HC.2.2.2.2.2.2.2.2.1 HC.2.2.2.2.2.2.2.2.2.1 x, is_270, mq_count H0.1 hO.1 (fun s hs => mh_leftN H0.1 hO.1 H0.2.2.1 hs) HM.2.2.2.2.2.2.1 HM.2.2.2.2.2.2.2 x, st_of hg hc (rel_thrN hO HC HM) b1 b2⟩
  · obtain ⟨pre, f, post, r1, r2, r3, r4, -⟩ := HC.2.2.2.2.2.2.2.2.2.2
    have H0 := MR_thr HM
    have W := R.1
    have hO := (pl_ok R.2.2.2.2.2.1 R.2.2.2.1 R.2.2.2.2.1).1
    have l2 := (phZ_len (A := A) W hO R.2.1 R.2.2.1).2
    have hT := R.2.2.2.2.2.2
    have ec := eJ_cut R r1 r2 r3
    have hb : ∀ v z, eoU os (enZ P A os ob) k v = some z → z ≤ 1000000 := fun v z hv => by have := (end_ok W hO R.2.2.2.1 R.2.1 R.2.2.1).2.2.2.2 v z hv; omega
    have Lc : LfC P (fun s => pLf P s && (cutE T (eoU os (enZ P A os ob) k) s).isNone) σ := fun s hs => by rw [← ec]; exact (r4.2.2.2.2.2 s hs).1
    exact ⟨_, _, _, kq_count HC.1 W Lc HC.2.2.2.2.2.2.2.1 HC.2.2.2.2.2.2.2.2.1 x, is_270, mq_count H0.1 W (fun s hs => mh_leftR H0.1 W H0.2.2.2.2.2.2.2.1 (by omega) H0.2.2.2.2.2.2.2.2.1 H0.2.2.2.1 hb hs) HM.2.2.2.2.2.2.2.2.2.1 HM.2.2.2.2.2.2.2.2.2.2 x, st_of hg hc (rel_thrR R HC HM) b1 b2⟩
theorem pq_told {h : dH} (H : StL t0 N h) (x y : Int32) : PQ t0 N h (fun h => dX tb (d + 3) 84 0 [.ref 0, .int x, .int y, .null] [] h) (fun h => dX tb (d + 3) 134 0 [.ref 270, .int x, .int y] [] h) := by
  obtain ⟨c, t, g, fl, tg, σ, rfl, hg, hc, hr, b1, b2⟩ := H
  refine ⟨is_0, ?_⟩
  rcases hr with ⟨P, A, T, w, e, n, j, hO, HC, HM⟩ | ⟨P, A, sum, k, os, ob, T, n, j, R, HC, HM⟩
  · have H0 := MN_thr HM
    have hb : ∀ v z, e v = some z → z ≤ 1000000 := fun v z hv => Nat.le_trans (hO.2.2.2.2 v z hv) hO.2.2.2.1
    have M := mq_told (tb := tb) (d := d + 1) (c := c) (t := t) (g := g) (fl := fl) (tg := tg) HM.1 H0.1 hO.1 (fun s hs => mh_leftN H0.1 hO.1 H0.2.2.1 hs) hO.2.2.2.1 HM.2.2.2.1 HM.2.2.2.2.2.1 hb x y
    rw [cutE_id hO.2.2.2.2] at M
    exact ⟨_, _, _, kq_told HC.1 hO.1 HC.2.1 HC.2.2.2.2.2.2.2.1 x y, is_270, M, st_of hg hc (rel_thrN hO HC HM) b1 b2⟩
  · obtain ⟨pre, f, post, r1, r2, r3, r4, -⟩ := HC.2.2.2.2.2.2.2.2.2.2
    have H0 := MR_thr HM
    have W := R.1
    have hO := (pl_ok R.2.2.2.2.2.1 R.2.2.2.1 R.2.2.2.2.1).1
    have l2 := (phZ_len (A := A) W hO R.2.1 R.2.2.1).2
    have hT := R.2.2.2.2.2.2
    have ec := eJ_cut R r1 r2 r3
    have hb : ∀ v z, eoU os (enZ P A os ob) k v = some z → z ≤ 1000000 := fun v z hv => by have := (end_ok W hO R.2.2.2.1 R.2.1 R.2.2.1).2.2.2.2 v z hv; omega
    have h3 : ∀ s, s < pM P → σ (5 + 5 * s) 3 = bI (pLf P s && (cutE T (eoU os (enZ P A os ob) k) s).isNone) := fun s hs => by rw [← ec]; exact (r4.2.2.2.2.2 s hs).1
    have h6 : ∀ s, s < pM P → σ (5 + 5 * s) 6 = encE (cutE T (eoU os (enZ P A os ob) k) s) := fun s hs => by rw [← ec]; exact (r4.2.2.2.2.2 s hs).2
    exact ⟨_, _, _, kq_told (lf := fun s => pLf P s && (cutE T (eoU os (enZ P A os ob) k) s).isNone) HC.1 W h3 h6 x y, is_270, mq_told HM.1 H0.1 W (fun s hs => mh_leftR H0.1 W H0.2.2.2.2.2.2.2.1 (by omega) H0.2.2.2.2.2.2.2.2.1 H0.2.2.2.1 hb hs) (by omega) HM.2.2.2.2.2.2.2.2.1 HM.2.2.2.1 hb x y, st_of hg hc (rel_thrR R HC HM) b1 b2⟩
end PA4
