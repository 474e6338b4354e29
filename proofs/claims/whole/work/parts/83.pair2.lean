/-! point, over, price, clear together -/
section PA2
variable {t0 N : Nat} {tb : dT} {L : Nat} {xs : Nat → Int32} {d : Nat}
theorem pq_point {h : dH} (H : StL t0 N h) (x y z : Int32) : PQ t0 N h (fun h => dX tb (d + 3) 72 0 [.ref 0, .int x, .int y, .int z] [] h) (fun h => dX tb (d + 3) 98 0 [.ref 270, .int x, .int y, .int z, .null] [] h) := by
  obtain ⟨c, t, g, fl, tg, σ, rfl, hg, hc, hr, b1, b2⟩ := H
  refine ⟨is_0, ?_⟩
  rcases hr with ⟨P, A, T, w, e, n, j, hO, HC, HM⟩ | ⟨P, A, sum, k, os, ob, T, n, j, R, HC, HM⟩
  · have K := kq_point (tb := tb) (d := d + 1) (t := t) (g := g) hO.1 HC x y z
    cases q : okPt P x y z
    · exact ⟨-1, _, _, K.1 q, is_270, (mq_point (tb := tb) (d := d + 1) (c := c) (t := t) (g := g) (fl := fl) (tg := tg) hO.1 HM x y z).1 q, st_of hg hc (rel_thrN hO HC HM) b1 b2⟩
    · obtain ⟨τ, k1, k2, k3⟩ := K.2 q
      obtain ⟨τ', m1, m2, m3⟩ := (mq_point (tb := tb) (d := d + 1) (c := c) (t := t) (g := g) (fl := fl) (tg := tg) hO.1 (MN_row (fun a a1 _ => k3 a a1) HM) x y z).2 q
      have q' := q
      unfold okPt at q'
      rw [Bool.and_eq_true, Bool.and_eq_true, Bool.and_eq_true, Bool.and_eq_true] at q'
      obtain ⟨q1, q2, q3, q4, q5⟩ := q'
      have hm := hO.1.1
      obtain ⟨s, hs, -, es⟩ := inR_ex (by omega) q1
      obtain ⟨u, hu, -, eu⟩ := inR_ex (by omega) q3
      obtain ⟨v, hv, -, ev⟩ := inR_ex (by omega) q4
      unfold takB at q5
      rw [Bool.and_eq_true, Bool.and_eq_true, Bool.and_eq_true, decide_eq_true_eq, Bool.not_eq_true', Bool.not_eq_true'] at q5
      have W' := ptP_Wf hO.1 (show tN x < pM P by omega) (show tN y ≤ 500 by omega) (show tN z ≤ 500 by omega) q5.2.2.1 q5.2.2.2
      exact ⟨_, _, _, k1, is_270, m1, st_of hg hc (Or.inl ⟨_, A, T, w, e, n, j, ⟨W', hO.2⟩, CN_congr W' (fun a ha => m3 a (Or.inl ha)) (Nat.le_refl c) k2, m2⟩) b1 b2⟩
  · exact ⟨-1, _, _, kr_pt HC.2.2.2.2.2.1 x y z, is_270, mr_pt HM.2.2.2.2.2.2.2.1 x y z, st_of hg hc (rel_thrR R HC HM) b1 b2⟩
theorem pq_over {h : dH} (H : StL t0 N h) (x y : Int32) (b : Bool) : PQ t0 N h (fun h => dX tb (d + 3) 73 0 [.ref 0, .int x, .int y, .int (bI b)] [] h) (fun h => dX tb (d + 3) 99 0 [.ref 270, .int x, .int y, .int (bI b)] [] h) := by
  obtain ⟨c, t, g, fl, tg, σ, rfl, hg, hc, hr, b1, b2⟩ := H
  refine ⟨is_0, ?_⟩
  rcases hr with ⟨P, A, T, w, e, n, j, hO, HC, HM⟩ | ⟨P, A, sum, k, os, ob, T, n, j, R, HC, HM⟩
  · have K := kq_over (tb := tb) (d := d + 1) (t := t) (g := g) hO.1 HC x y b
    cases q : okOv P x y b
    · exact ⟨0, _, _, K.1 q, is_270, (mq_over (tb := tb) (d := d + 2) (c := c) (t := t) (g := g) (fl := fl) (tg := tg) hO.1 HM x y b).1 q, st_of hg hc (rel_thrN hO HC HM) b1 b2⟩
    · obtain ⟨τ, k1, k2, k3⟩ := K.2 q
      obtain ⟨τ', m1, m2, m3⟩ := (mq_over (tb := tb) (d := d + 2) (c := c) (t := t) (g := g) (fl := fl) (tg := tg) hO.1 (MN_row (fun a a1 _ => k3 a a1) HM) x y b).2 q
      have q' := q
      unfold okOv at q'
      rw [Bool.and_eq_true, Bool.and_eq_true, Bool.and_eq_true, decide_eq_true_eq] at q'
      obtain ⟨q1, q2, q3, q4⟩ := q'
      have hm := hO.1.1
      obtain ⟨s, hs, -, es⟩ := inR_ex (by omega) q1
      obtain ⟨o, ho, -, eo⟩ := inR_ex (by omega) q2
      have W' := ovP_Wf (b := b) hO.1 (show tN x < pM P by omega) (show tN y < pM P by omega) q3
      exact ⟨_, _, _, k1, is_270, m1, st_of hg hc (Or.inl ⟨_, A, T, w, e, n, j, ⟨W', hO.2⟩, CN_congr W' (fun a ha => m3 a (Or.inl ha)) (Nat.le_refl c) k2, m2⟩) b1 b2⟩
  · exact ⟨0, _, _, kr_ov HC.2.2.2.2.2.1 x y _, is_270, mr_ov HM.2.2.2.2.2.2.2.1 x y _, st_of hg hc (rel_thrR R HC HM) b1 b2⟩
theorem pq_price {h : dH} (H : StL t0 N h) (x y : Int32) : PQ t0 N h (fun h => dX (dm_tb L xs) (d + 3) 74 0 [.ref 0, .int x, .int y] [] h) (fun h => dX (dm_tb L xs) (d + 3) 100 0 [.ref 270, .int x, .int y] [] h) := by
  obtain ⟨c, t, g, fl, tg, σ, rfl, hg, hc, hr, b1, b2⟩ := H
  refine ⟨is_0, ?_⟩
  rcases hr with ⟨P, A, T, w, e, n, j, hO, HC, HM⟩ | ⟨P, A, sum, k, os, ob, T, n, j, R, HC, HM⟩
  · have K := kq_price (L := L) (xs := xs) (d := d + 1) (t := t) (g := g) hO.1 HC x y
    cases q : okPr x y
    · exact ⟨0, _, _, K.1 q, is_270, (mq_price (tb := dm_tb L xs) (d := d + 2) (c := c) (t := t) (g := g) (fl := fl) (tg := tg) hO.1 HM x y).1 q, st_of hg hc (rel_thrN hO HC HM) b1 b2⟩
    · obtain ⟨τ, k1, k2, k3⟩ := K.2 q
      obtain ⟨τ', m1, m2, m3⟩ := (mq_price (tb := dm_tb L xs) (d := d + 2) (c := c) (t := t) (g := g) (fl := fl) (tg := tg) hO.1 (MN_row (fun a a1 _ => k3 a a1) HM) x y).2 q
      have q' := q
      unfold okPr at q'
      rw [Bool.and_eq_true] at q'
      obtain ⟨s, hs, -, es⟩ := inR_ex (by omega) q'.1
      have W' := (prP_ok hO.1 (show tN x < 5 by omega) q'.2).2
      exact ⟨_, _, _, k1, is_270, m1, st_of hg hc (Or.inl ⟨_, A, T, w, e, n, j, ⟨W', hO.2⟩, CN_congr W' (fun a ha => m3 a (Or.inl ha)) (Nat.le_refl c) k2, m2⟩) b1 b2⟩
  · exact ⟨0, _, _, kr_pr HC.2.2.2.2.2.1 x y, is_270, mr_pr HM.2.2.2.2.2.2.2.1 x y, st_of hg hc (rel_thrR R HC HM) b1 b2⟩
theorem pq_clear {h : dH} (H : StL t0 N h) : PQ t0 N h (fun h => dX tb (d + 3) 75 0 [.ref 0] [] h) (fun h => dX tb (d + 3) 101 0 [.ref 270] [] h) := by
  obtain ⟨c, t, g, fl, tg, σ, rfl, hg, hc, hr, b1, b2⟩ := H
  refine ⟨is_0, ?_⟩
  rcases hr with ⟨P, A, T, w, e, n, j, hO, HC, HM⟩ | ⟨P, A, sum, k, os, ob, T, n, j, R, HC, HM⟩
  · obtain ⟨τ, k1, k2, k3⟩ := kq_clear (tb := tb) (d := d + 1) (t := t) (g := g) hO.1 HC
    obtain ⟨τ', m1, m2, m3⟩ := mq_clear (tb := tb) (d := d + 3) (c := c) (t := t) (g := g) (fl := fl) (tg := tg) (MN_row (fun a a1 _ => k3 a a1) HM)
    have W' := clrP_Wf hO.1
    exact ⟨_, _, _, k1, is_270, m1, st_of hg hc (Or.inl ⟨_, _, T, w, e, n, j, ⟨W', Nat.zero_le _, Nat.zero_le _, hO.2.2.2⟩, CN_congr W' (fun a ha => m3 a (Or.inl ha)) (Nat.le_refl c) k2, m2⟩) b1 b2⟩
  · exact ⟨0, _, _, kr_clr HC.2.2.2.2.2.1, is_270, mr_clr HM.2.2.2.2.2.2.2.1, st_of hg hc (rel_thrR R HC HM) b1 b2⟩
end PA2
