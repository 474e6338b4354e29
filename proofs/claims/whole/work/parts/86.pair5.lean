/-! ticks, touch together -/
section PA5
variable {t0 N : Nat} {tb : dT} {d : Nat}
theorem pq_ticks {h : dH} (H : StL t0 N h) (x y : Int32) : PQ t0 N h (fun h => dX tb (d + 6) 78 0 [.ref 0, .int x, .int y, .null] [] h) (fun h => dX tb (d + 6) 108 0 [.ref 270, .int x, .int y] [] h) := by
  obtain ⟨c, t, g, fl, tg, σ, rfl, hg, hc, hr, b1, b2⟩ := H
  refine ⟨is_0, ?_⟩
  rcases hr with ⟨P, A, T, w, e, n, j, hO, HC, HM⟩ | ⟨P, A, sum, k, os, ob, T, n, j, R, HC, HM⟩
  · exact ⟨_, _, _, kq_ticks (d := d + 2) HC.1 hO.1 x y, is_270, mq_ticks HM.1 hO.1 x y, st_of hg hc (rel_thrN hO HC HM) b1 b2⟩
  · exact ⟨_, _, _, kq_ticks (d := d + 2) HC.1 R.1 x y, is_270, mq_ticks HM.1 R.1 x y, st_of hg hc (rel_thrR R HC HM) b1 b2⟩
theorem pq_touch {h : dH} (H : StL t0 N h) (x y : Int32) : PQ t0 N h (fun h => dX tb (d + 5) 79 0 [.ref 0, .int x, .int y, .null, .null] [] h) (fun h => dX tb (d + 5) 121 0 [.ref 270, .int x, .int y] [] h) := by
  obtain ⟨c, t, g, fl, tg, σ, rfl, hg, hc, hr, b1, b2⟩ := H
  refine ⟨is_0, ?_⟩
  rcases hr with ⟨P, A, T, w, e, n, j, hO, HC, HM⟩ | ⟨P, A, sum, k, os, ob, T, n, j, R, HC, HM⟩
  · exact ⟨_, _, _, kq_touch (d := d + 2) HC.1 hO.1 x y, is_270, mq_touch HM.1 hO.1 x y, st_of hg hc (rel_thrN hO HC HM) b1 b2⟩
  · exact ⟨_, _, _, kq_touch (d := d + 2) HC.1 R.1 x y, is_270, mq_touch HM.1 R.1 x y, st_of hg hc (rel_thrR R HC HM) b1 b2⟩
end PA5
