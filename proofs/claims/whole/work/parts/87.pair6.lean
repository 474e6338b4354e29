/-! jam together -/
section PA6
variable {t0 N : Nat} {tb : dT} {d : Nat}
theorem SH_none {fl : Nat → Bool} {tg c a : Nat} (hc : 296 ≤ c) (hg : TgO tg c) (ha : c ≤ a) : SH fl tg a = none := by
  have h : ∀ m, m ≤ a → Nat.blt a m = false := fun m hm => by
    cases q : Nat.blt a m
    · rfl
    · have := Nat.blt_eq.mp q; omega
  have hne : a ≠ tg ∧ a ≠ tg + 1 := by unfold TgO at hg; omega
  unfold SH
  rw [h 5 (by omega), h 45 (by omega), h 61 (by omega), h 270 (by omega), h 295 (by omega), show Nat.beq a tg = false from beq_f hne.1, show Nat.beq a (tg + 1) = false from beq_f hne.2]
  rfl
theorem pq_jam {h : dH} (H : StL t0 N h) : PQ t0 N h (fun h => dX tb (d + 4) 82 0 [.ref 0] [] h) (fun h => dX tb (d + 4) 129 0 [.ref 270, .null, .null] [] h) := by
  obtain ⟨c, t, g, fl, tg, σ, rfl, hg, hc, hr, b1, b2⟩ := H
  refine ⟨is_0, ?_⟩
  rcases hr with ⟨P, A, T, w, e, n, j, hO, HC, HM⟩ | ⟨P, A, sum, k, os, ob, T, n, j, R, HC, HM⟩
  · exact ⟨0, _, _, kn_jam HC.2.2.2.1, is_270, mn_jam HM.2.2.1, st_of hg hc (rel_thrN hO HC HM) b1 b2⟩
  · have hT := HC.2.2.2.2.2.2.2.2.2.1
    obtain ⟨pre, f, post, r1, r2, r3, τ, fl', k1, k2, k3⟩ := kq_jam (tb := tb) (d := d) (t := t) (g := g) R HC
    obtain ⟨τ', c', t', g', m1, m2, m3, m4⟩ := mq_jam (tb := tb) (d := d + 1) (c := c) (t := t) (g := g) (fl := fl') (tg := tg) R (MR_congr (fun a a1 _ => k2 a a1) HM) r1 r2 r3 (SH_none hc hT (Nat.le_refl c)) (SH_none hc hT (Nat.le_succ c))
    have O := (jam_ok R r1 r2 r3).1
    refine ⟨1, _, _, k1, is_270, m1, ?_⟩
    rcases m4 with ⟨rfl, rfl, rfl⟩ | ⟨rfl, rfl, fx, fy, rfl⟩
    · exact st_of hg hc (Or.inl ⟨_, _, T, _, _, n, j + 1, O, CN_congr O.1 (fun a ha => m2 a (Or.inl ha)) (Nat.le_refl _) k3, m3⟩) b1 b2
    · refine ⟨c + 2, t + 24, _, fl', tg, τ', rfl, ?_, by omega, Or.inl ⟨_, _, T, _, _, n, j + 1, O, CN_congr O.1 (fun a ha => m2 a (Or.inl ha)) (by omega) k3, m3⟩, by omega, by omega⟩
      obtain ⟨z, hz⟩ := hg
      exact ⟨z, by unfold G2; rw [va_up_ne _ _ (by omega), va_up_ne _ _ (by omega)]; exact hz⟩
end PA6
