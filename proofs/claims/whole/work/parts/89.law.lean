/-! THE LAW'S LOOP -/
section LAW
variable {t0 N L : Nat} {xs : Nat → Int32} {h : dH}
theorem pq_use {a b : dH → Option (Option Value × dH)} (Q : PQ t0 N h a b) (E : dH → Option (Option Value × dH)) : ∃ h2, StL t0 (N + 1) h2 ∧ (bif (dm_obj h 0 6).isSome then dm_asI (a h) fun r1 h1 => bif (dm_obj h1 270 7).isSome then dm_asI (b h1) fun r2 h2 => if r1 = r2 then E h2 else some (some (.int 0), h2) else none else none) = E h2 := by
  obtain ⟨i, r, h1, h2, e1, i2, e2, s⟩ := Q
  refine ⟨h2, s, ?_⟩
  rw [i, cond_true, e1, aq_I, i2, cond_true, e2, aq_I, if_pos rfl]
def LwS (t0 L : Nat) (xs : Nat → Int32) (N : Nat) (o : Option (Option Value × dH)) : Prop := ∃ h2 l5 l6, StL t0 (N + 1) h2 ∧ o = dX (dm_tb L xs) 11 142 675 [.float 3, .ref 0, .ref 270, .ref 295, .int (Int32.ofNat (4 * N)), l5, l6] [] h2
theorem lw_at0 (hN : 4 * N + 4 ≤ L) (hL : L ≤ 2048) {β : Type} (K : Int32 → Option β) : dm_at (Int32.ofNat (4 * N)) (dm_tb L xs 3).1 (dm_tb L xs 3).2 K = K (xs (4 * N)) := at_k (m := L) (f := xs) (by omega) (by omega)
theorem lw_at1 (hN : 4 * N + 4 ≤ L) (hL : L ≤ 2048) {β : Type} (K : Int32 → Option β) : dm_at (Int32.ofNat (4 * N) + 1) (dm_tb L xs 3).1 (dm_tb L xs 3).2 K = K (xs (4 * N + 1)) := by
  rw [show Int32.ofNat (4 * N) + 1 = Int32.ofNat (4 * N + 1) from i_addl _ 1]
  exact at_k (m := L) (f := xs) (by omega) (by omega)
theorem lw_at2 (hN : 4 * N + 4 ≤ L) (hL : L ≤ 2048) {β : Type} (K : Int32 → Option β) : dm_at (Int32.ofNat (4 * N) + 2) (dm_tb L xs 3).1 (dm_tb L xs 3).2 K = K (xs (4 * N + 2)) := by
  rw [show Int32.ofNat (4 * N) + 2 = Int32.ofNat (4 * N + 2) from i_addl _ 2]
  exact at_k (m := L) (f := xs) (by omega) (by omega)
theorem lw_at3 (hN : 4 * N + 4 ≤ L) (hL : L ≤ 2048) {β : Type} (K : Int32 → Option β) : dm_at (Int32.ofNat (4 * N) + 3) (dm_tb L xs 3).1 (dm_tb L xs 3).2 K = K (xs (4 * N + 3)) := by
  rw [show Int32.ofNat (4 * N) + 3 = Int32.ofNat (4 * N + 3) from i_addl _ 3]
  exact at_k (m := L) (f := xs) (by omega) (by omega)
theorem lw_stroke (hN : 4 * N + 4 ≤ L) (hL : L ≤ 2048) (H : StL t0 N h) (l5 l6 : Value) : LwS t0 L xs N (dX (dm_tb L xs) 11 142 116 [.float 3, .ref 0, .ref 270, .ref 295, .int (Int32.ofNat (4 * N)), l5, l6] [] h) := by
  obtain ⟨h2, s, e⟩ := pq_use (pq_stroke (tb := dm_tb L xs) (d := 7) H (xs (4 * N + 1)) (xs (4 * N + 2))) (fun h2 => dX (dm_tb L xs) 11 142 675 [.float 3, .ref 0, .ref 270, .ref 295, .int (Int32.ofNat (4 * N)), l5, l6] [] h2)
  refine ⟨h2, l5, l6, s, (sg_L_law_116 (dm_tb L xs) 9 0 270 295 (Int32.ofNat (4 * N)) l5 l6 h).trans ?_⟩
  simp only [lw_at1 hN hL, lw_at2 hN hL]
  exact e
theorem lw_point (hN : 4 * N + 4 ≤ L) (hL : L ≤ 2048) (H : StL t0 N h) (l5 l6 : Value) : LwS t0 L xs N (dX (dm_tb L xs) 11 142 153 [.float 3, .ref 0, .ref 270, .ref 295, .int (Int32.ofNat (4 * N)), l5, l6] [] h) := by
  obtain ⟨h2, s, e⟩ := pq_use (pq_point (tb := dm_tb L xs) (d := 7) H (xs (4 * N + 1)) (xs (4 * N + 2)) (xs (4 * N + 3))) (fun h2 => dX (dm_tb L xs) 11 142 675 [.float 3, .ref 0, .ref 270, .ref 295, .int (Int32.ofNat (4 * N)), l5, l6] [] h2)
  refine ⟨h2, l5, l6, s, (sg_L_law_153 (dm_tb L xs) 9 0 270 295 (Int32.ofNat (4 * N)) l5 l6 h).trans ?_⟩
  simp only [lw_at1 hN hL, lw_at2 hN hL, lw_at3 hN hL]
  exact e
theorem lw_price (hN : 4 * N + 4 ≤ L) (hL : L ≤ 2048) (H : StL t0 N h) (l5 l6 : Value) : LwS t0 L xs N (dX (dm_tb L xs) 11 142 267 [.float 3, .ref 0, .ref 270, .ref 295, .int (Int32.ofNat (4 * N)), l5, l6] [] h) := by
  obtain ⟨h2, s, e⟩ := pq_use (pq_price (L := L) (xs := xs) (d := 7) H (xs (4 * N + 1)) (xs (4 * N + 2))) (fun h2 => dX (dm_tb L xs) 11 142 675 [.float 3, .ref 0, .ref 270, .ref 295, .int (Int32.ofNat (4 * N)), l5, l6] [] h2)
  refine ⟨h2, l5, l6, s, (sg_L_law_267 (dm_tb L xs) 9 0 270 295 (Int32.ofNat (4 * N)) l5 l6 h).trans ?_⟩
  simp only [lw_at1 hN hL, lw_at2 hN hL]
  exact e
theorem lw_clear (hN : 4 * N + 4 ≤ L) (hL : L ≤ 2048) (H : StL t0 N h) (l5 l6 : Value) : LwS t0 L xs N (dX (dm_tb L xs) 11 142 304 [.float 3, .ref 0, .ref 270, .ref 295, .int (Int32.ofNat (4 * N)), l5, l6] [] h) := by
  obtain ⟨h2, s, e⟩ := pq_use (pq_clear (tb := dm_tb L xs) (d := 7) H ) (fun h2 => dX (dm_tb L xs) 11 142 675 [.float 3, .ref 0, .ref 270, .ref 295, .int (Int32.ofNat (4 * N)), l5, l6] [] h2)
  refine ⟨h2, l5, l6, s, (sg_L_law_304 (dm_tb L xs) 9 0 270 295 (Int32.ofNat (4 * N)) l5 l6 h).trans ?_⟩
  exact e
theorem lw_plan (hN : 4 * N + 4 ≤ L) (hL : L ≤ 2048) (H : StL t0 N h) (l5 l6 : Value) : LwS t0 L xs N (dX (dm_tb L xs) 11 142 317 [.float 3, .ref 0, .ref 270, .ref 295, .int (Int32.ofNat (4 * N)), l5, l6] [] h) := by
  obtain ⟨h2, s, e⟩ := pq_use (pq_plan (tb := dm_tb L xs) (d := 2) H ) (fun h2 => dX (dm_tb L xs) 11 142 675 [.float 3, .ref 0, .ref 270, .ref 295, .int (Int32.ofNat (4 * N)), l5, l6] [] h2)
  refine ⟨h2, l5, l6, s, (sg_L_law_317 (dm_tb L xs) 9 0 270 295 (Int32.ofNat (4 * N)) l5 l6 h).trans ?_⟩
  exact e
theorem lw_planned (hN : 4 * N + 4 ≤ L) (hL : L ≤ 2048) (H : StL t0 N h) (l5 l6 : Value) : LwS t0 L xs N (dX (dm_tb L xs) 11 142 330 [.float 3, .ref 0, .ref 270, .ref 295, .int (Int32.ofNat (4 * N)), l5, l6] [] h) := by
  obtain ⟨h2, s, e⟩ := pq_use (pq_planned (tb := dm_tb L xs) (d := 2) H (xs (4 * N + 1)) (xs (4 * N + 2))) (fun h2 => dX (dm_tb L xs) 11 142 675 [.float 3, .ref 0, .ref 270, .ref 295, .int (Int32.ofNat (4 * N)), l5, l6] [] h2)
  refine ⟨h2, l5, l6, s, (sg_L_law_330 (dm_tb L xs) 9 0 270 295 (Int32.ofNat (4 * N)) l5 l6 h).trans ?_⟩
  simp only [lw_at1 hN hL, lw_at2 hN hL]
  exact e
theorem lw_ticks (hN : 4 * N + 4 ≤ L) (hL : L ≤ 2048) (H : StL t0 N h) (l5 l6 : Value) : LwS t0 L xs N (dX (dm_tb L xs) 11 142 367 [.float 3, .ref 0, .ref 270, .ref 295, .int (Int32.ofNat (4 * N)), l5, l6] [] h) := by
  obtain ⟨h2, s, e⟩ := pq_use (pq_ticks (tb := dm_tb L xs) (d := 4) H (xs (4 * N + 1)) (xs (4 * N + 2))) (fun h2 => dX (dm_tb L xs) 11 142 675 [.float 3, .ref 0, .ref 270, .ref 295, .int (Int32.ofNat (4 * N)), l5, l6] [] h2)
  refine ⟨h2, l5, l6, s, (sg_L_law_367 (dm_tb L xs) 9 0 270 295 (Int32.ofNat (4 * N)) l5 l6 h).trans ?_⟩
  simp only [lw_at1 hN hL, lw_at2 hN hL]
  exact e
theorem lw_touch (hN : 4 * N + 4 ≤ L) (hL : L ≤ 2048) (H : StL t0 N h) (l5 l6 : Value) : LwS t0 L xs N (dX (dm_tb L xs) 11 142 404 [.float 3, .ref 0, .ref 270, .ref 295, .int (Int32.ofNat (4 * N)), l5, l6] [] h) := by
  obtain ⟨h2, s, e⟩ := pq_use (pq_touch (tb := dm_tb L xs) (d := 5) H (xs (4 * N + 1)) (xs (4 * N + 2))) (fun h2 => dX (dm_tb L xs) 11 142 675 [.float 3, .ref 0, .ref 270, .ref 295, .int (Int32.ofNat (4 * N)), l5, l6] [] h2)
  refine ⟨h2, l5, l6, s, (sg_L_law_404 (dm_tb L xs) 9 0 270 295 (Int32.ofNat (4 * N)) l5 l6 h).trans ?_⟩
  simp only [lw_at1 hN hL, lw_at2 hN hL]
  exact e
theorem lw_start (hN : 4 * N + 4 ≤ L) (hL : L ≤ 2048) (H : StL t0 N h) (l5 l6 : Value) : LwS t0 L xs N (dX (dm_tb L xs) 11 142 441 [.float 3, .ref 0, .ref 270, .ref 295, .int (Int32.ofNat (4 * N)), l5, l6] [] h) := by
  obtain ⟨h2, s, e⟩ := pq_use (pq_start (tb := dm_tb L xs) (d := 2) H ) (fun h2 => dX (dm_tb L xs) 11 142 675 [.float 3, .ref 0, .ref 270, .ref 295, .int (Int32.ofNat (4 * N)), l5, l6] [] h2)
  refine ⟨h2, l5, l6, s, (sg_L_law_441 (dm_tb L xs) 9 0 270 295 (Int32.ofNat (4 * N)) l5 l6 h).trans ?_⟩
  exact e
theorem lw_step (hN : 4 * N + 4 ≤ L) (hL : L ≤ 2048) (H : StL t0 N h) (l5 l6 : Value) : LwS t0 L xs N (dX (dm_tb L xs) 11 142 454 [.float 3, .ref 0, .ref 270, .ref 295, .int (Int32.ofNat (4 * N)), l5, l6] [] h) := by
  obtain ⟨h2, s, e⟩ := pq_use (pq_step (tb := dm_tb L xs) (d := 5) H (xs (4 * N + 1))) (fun h2 => dX (dm_tb L xs) 11 142 675 [.float 3, .ref 0, .ref 270, .ref 295, .int (Int32.ofNat (4 * N)), l5, l6] [] h2)
  refine ⟨h2, l5, l6, s, (sg_L_law_454 (dm_tb L xs) 9 0 270 295 (Int32.ofNat (4 * N)) l5 l6 h).trans ?_⟩
  simp only [lw_at1 hN hL]
  exact e
theorem lw_jam (hN : 4 * N + 4 ≤ L) (hL : L ≤ 2048) (H : StL t0 N h) (l5 l6 : Value) : LwS t0 L xs N (dX (dm_tb L xs) 11 142 479 [.float 3, .ref 0, .ref 270, .ref 295, .int (Int32.ofNat (4 * N)), l5, l6] [] h) := by
  obtain ⟨h2, s, e⟩ := pq_use (pq_jam (tb := dm_tb L xs) (d := 6) H ) (fun h2 => dX (dm_tb L xs) 11 142 675 [.float 3, .ref 0, .ref 270, .ref 295, .int (Int32.ofNat (4 * N)), l5, l6] [] h2)
  refine ⟨h2, l5, l6, s, (sg_L_law_479 (dm_tb L xs) 9 0 270 295 (Int32.ofNat (4 * N)) l5 l6 h).trans ?_⟩
  exact e
theorem lw_arm (hN : 4 * N + 4 ≤ L) (hL : L ≤ 2048) (H : StL t0 N h) (l5 l6 : Value) : LwS t0 L xs N (dX (dm_tb L xs) 11 142 492 [.float 3, .ref 0, .ref 270, .ref 295, .int (Int32.ofNat (4 * N)), l5, l6] [] h) := by
  obtain ⟨h2, s, e⟩ := pq_use (pq_arm (tb := dm_tb L xs) (d := 7) H (xs (4 * N + 1))) (fun h2 => dX (dm_tb L xs) 11 142 675 [.float 3, .ref 0, .ref 270, .ref 295, .int (Int32.ofNat (4 * N)), l5, l6] [] h2)
  refine ⟨h2, l5, l6, s, (sg_L_law_492 (dm_tb L xs) 9 0 270 295 (Int32.ofNat (4 * N)) l5 l6 h).trans ?_⟩
  simp only [lw_at1 hN hL]
  exact e
theorem lw_told (hN : 4 * N + 4 ≤ L) (hL : L ≤ 2048) (H : StL t0 N h) (l5 l6 : Value) : LwS t0 L xs N (dX (dm_tb L xs) 11 142 517 [.float 3, .ref 0, .ref 270, .ref 295, .int (Int32.ofNat (4 * N)), l5, l6] [] h) := by
  obtain ⟨h2, s, e⟩ := pq_use (pq_told (tb := dm_tb L xs) (d := 7) H (xs (4 * N + 1)) (xs (4 * N + 2))) (fun h2 => dX (dm_tb L xs) 11 142 675 [.float 3, .ref 0, .ref 270, .ref 295, .int (Int32.ofNat (4 * N)), l5, l6] [] h2)
  refine ⟨h2, l5, l6, s, (sg_L_law_517 (dm_tb L xs) 9 0 270 295 (Int32.ofNat (4 * N)) l5 l6 h).trans ?_⟩
  simp only [lw_at1 hN hL, lw_at2 hN hL]
  exact e
theorem lw_count (hN : 4 * N + 4 ≤ L) (hL : L ≤ 2048) (H : StL t0 N h) (l5 l6 : Value) : LwS t0 L xs N (dX (dm_tb L xs) 11 142 650 [.float 3, .ref 0, .ref 270, .ref 295, .int (Int32.ofNat (4 * N)), l5, l6] [] h) := by
  obtain ⟨h2, s, e⟩ := pq_use (pq_count (tb := dm_tb L xs) (d := 7) H (xs (4 * N + 1))) (fun h2 => dX (dm_tb L xs) 11 142 675 [.float 3, .ref 0, .ref 270, .ref 295, .int (Int32.ofNat (4 * N)), l5, l6] [] h2)
  refine ⟨h2, l5, l6, s, (sg_L_law_650 (dm_tb L xs) 9 0 270 295 (Int32.ofNat (4 * N)) l5 l6 h).trans ?_⟩
  simp only [lw_at1 hN hL]
  exact e
theorem lw_over (hN : 4 * N + 4 ≤ L) (hL : L ≤ 2048) (H : StL t0 N h) (l5 l6 : Value) : LwS t0 L xs N (dX (dm_tb L xs) 11 142 202 [.float 3, .ref 0, .ref 270, .ref 295, .int (Int32.ofNat (4 * N)), l5, l6] [] h) := by
  by_cases q : xs (4 * N + 3) = 0
  · obtain ⟨h2, s, e⟩ := pq_use (pq_over (tb := dm_tb L xs) (d := 7) H (xs (4 * N + 1)) (xs (4 * N + 2)) false) (fun h2 => dX (dm_tb L xs) 11 142 675 [.float 3, .ref 0, .ref 270, .ref 295, .int (Int32.ofNat (4 * N)), l5, l6] [] h2)
    refine ⟨h2, l5, l6, s, (sg_L_law_202 (dm_tb L xs) 9 0 270 295 (Int32.ofNat (4 * N)) l5 l6 h).trans ?_⟩
    simp only [lw_at1 hN hL, lw_at2 hN hL, lw_at3 hN hL, if_pos q]
    exact e
  · obtain ⟨h2, s, e⟩ := pq_use (pq_over (tb := dm_tb L xs) (d := 7) H (xs (4 * N + 1)) (xs (4 * N + 2)) true) (fun h2 => dX (dm_tb L xs) 11 142 675 [.float 3, .ref 0, .ref 270, .ref 295, .int (Int32.ofNat (4 * N)), l5, l6] [] h2)
    refine ⟨h2, l5, l6, s, (sg_L_law_202 (dm_tb L xs) 9 0 270 295 (Int32.ofNat (4 * N)) l5 l6 h).trans ?_⟩
    simp only [lw_at1 hN hL, lw_at2 hN hL, lw_at3 hN hL, if_neg q]
    exact e
theorem lw_ask (hN : 4 * N + 4 ≤ L) (hL : L ≤ 2048) (H : StL t0 N h) (l5 l6 : Value) : LwS t0 L xs N (dX (dm_tb L xs) 11 142 554 [.float 3, .ref 0, .ref 270, .ref 295, .int (Int32.ofNat (4 * N)), l5, l6] [] h) := by
  by_cases q : xs (4 * N + 3) = 0
  · obtain ⟨i, r1, h1, r2, h2, e1, i1, e2, i2, e3, e4, s⟩ := pq_at (tb := dm_tb L xs) (d := 7) H (xs (4 * N + 1)) (xs (4 * N + 2)) 0
    refine ⟨h2, .int r1, .int r2, s, (sg_L_law_554 (dm_tb L xs) 9 0 270 295 (Int32.ofNat (4 * N)) l5 l6 h).trans ?_⟩
    simp only [lw_at1 hN hL, lw_at2 hN hL, lw_at3 hN hL, if_pos q]
    rw [i, cond_true]
    refine (e1 _).trans ?_
    rw [i1, cond_true]
    refine (congrArg (fun o => dm_asI o _) e2).trans ?_
    rw [aq_I, i2, cond_true]
    refine (congrArg (fun o => dm_asI o _) e3).trans ?_
    rw [aq_I, if_pos rfl]
    by_cases q0 : r1 = 0
    · obtain ⟨z, z1, z2⟩ := e4 q0
      rw [if_pos q0, z1, bq_s, if_pos z2]
    · rw [if_neg q0]
  · obtain ⟨i, r1, h1, r2, h2, e1, i1, e2, i2, e3, e4, s⟩ := pq_at (tb := dm_tb L xs) (d := 7) H (xs (4 * N + 1)) (xs (4 * N + 2)) 1
    refine ⟨h2, .int r1, .int r2, s, (sg_L_law_554 (dm_tb L xs) 9 0 270 295 (Int32.ofNat (4 * N)) l5 l6 h).trans ?_⟩
    simp only [lw_at1 hN hL, lw_at2 hN hL, lw_at3 hN hL, if_neg q]
    rw [i, cond_true]
    refine (e1 _).trans ?_
    rw [i1, cond_true]
    refine (congrArg (fun o => dm_asI o _) e2).trans ?_
    rw [aq_I, i2, cond_true]
    refine (congrArg (fun o => dm_asI o _) e3).trans ?_
    rw [aq_I, if_pos rfl]
    by_cases q0 : r1 = 0
    · obtain ⟨z, z1, z2⟩ := e4 q0
      rw [if_pos q0, z1, bq_s, if_pos z2]
    · rw [if_neg q0]
theorem sw16 {α : Type} {x : Int32} {a0 a1 a2 a3 a4 a5 a6 a7 a8 a9 a10 a11 a12 a13 a14 a15 : Int} {D : Option α} {G : Int → Option α} (Q : Option α → Prop) (hD : Q D) (h0 : Q (G a0)) (h1 : Q (G a1)) (h2 : Q (G a2)) (h3 : Q (G a3)) (h4 : Q (G a4)) (h5 : Q (G a5)) (h6 : Q (G a6)) (h7 : Q (G a7)) (h8 : Q (G a8)) (h9 : Q (G a9)) (h10 : Q (G a10)) (h11 : Q (G a11)) (h12 : Q (G a12)) (h13 : Q (G a13)) (h14 : Q (G a14)) (h15 : Q (G a15)) : Q (if x.toInt < 0 ∨ 15 < x.toInt then D else (#[a0, a1, a2, a3, a4, a5, a6, a7, a8, a9, a10, a11, a12, a13, a14, a15][(x.toInt - 0).toNat]?).bind G) := by
  by_cases q0 : x = 0
  · subst q0; exact h0
  by_cases q1 : x = 1
  · subst q1; exact h1
  by_cases q2 : x = 2
  · subst q2; exact h2
  by_cases q3 : x = 3
  · subst q3; exact h3
  by_cases q4 : x = 4
  · subst q4; exact h4
  by_cases q5 : x = 5
  · subst q5; exact h5
  by_cases q6 : x = 6
  · subst q6; exact h6
  by_cases q7 : x = 7
  · subst q7; exact h7
  by_cases q8 : x = 8
  · subst q8; exact h8
  by_cases q9 : x = 9
  · subst q9; exact h9
  by_cases q10 : x = 10
  · subst q10; exact h10
  by_cases q11 : x = 11
  · subst q11; exact h11
  by_cases q12 : x = 12
  · subst q12; exact h12
  by_cases q13 : x = 13
  · subst q13; exact h13
  by_cases q14 : x = 14
  · subst q14; exact h14
  by_cases q15 : x = 15
  · subst q15; exact h15
  have f : ∀ z : Int32, x ≠ z → x.toInt ≠ z.toInt := fun z hz q => hz (Int32.toInt_inj.mp q)
  have f0 : x.toInt ≠ 0 := f 0 q0
  have f1 : x.toInt ≠ 1 := f 1 q1
  have f2 : x.toInt ≠ 2 := f 2 q2
  have f3 : x.toInt ≠ 3 := f 3 q3
  have f4 : x.toInt ≠ 4 := f 4 q4
  have f5 : x.toInt ≠ 5 := f 5 q5
  have f6 : x.toInt ≠ 6 := f 6 q6
  have f7 : x.toInt ≠ 7 := f 7 q7
  have f8 : x.toInt ≠ 8 := f 8 q8
  have f9 : x.toInt ≠ 9 := f 9 q9
  have f10 : x.toInt ≠ 10 := f 10 q10
  have f11 : x.toInt ≠ 11 := f 11 q11
  have f12 : x.toInt ≠ 12 := f 12 q12
  have f13 : x.toInt ≠ 13 := f 13 q13
  have f14 : x.toInt ≠ 14 := f 14 q14
  have f15 : x.toInt ≠ 15 := f 15 q15
  rw [if_pos (by omega)]; exact hD
theorem StL_up (H : StL t0 N h) : StL t0 (N + 1) h := by
  obtain ⟨c, t, g, fl, tg, σ, e, hg, hc, hr, b1, b2⟩ := H
  exact ⟨c, t, g, fl, tg, σ, e, hg, hc, hr, by omega, by omega⟩
theorem lw_end (hL : L ≤ 2048) (hN : N ≤ 512) : (Int32.ofNat (dm_tb L xs 3).1 - 4 < Int32.ofNat (4 * N)) = (L < 4 * N + 4) := by
  show (Int32.ofNat L - Int32.ofNat 4 < _) = _
  rw [i_sI, eq_iff_iff, Int32.lt_iff_toInt_lt, Int32.toInt_ofNat_of_lt (by omega), z_toI (by omega)]
  omega
theorem lw_one (hN : 4 * N + 4 ≤ L) (hL : L ≤ 2048) (H : StL t0 N h) (l5 l6 : Value) : LwS t0 L xs N (dX (dm_tb L xs) 11 142 23 [.float 3, .ref 0, .ref 270, .ref 295, .int (Int32.ofNat (4 * N)), l5, l6] [] h) := by
  rw [show dX (dm_tb L xs) 11 142 23 [.float 3, .ref 0, .ref 270, .ref 295, .int (Int32.ofNat (4 * N)), l5, l6] [] h = _ from sg_L_law_23 (dm_tb L xs) 9 0 270 295 (Int32.ofNat (4 * N)) l5 l6 h]
  rw [if_neg (by rw [lw_end hL (by omega)]; omega), lw_at0 hN hL]
  exact sw16 (LwS t0 L xs N) ⟨h, l5, l6, StL_up H, rfl⟩ (lw_stroke hN hL H l5 l6) (lw_point hN hL H l5 l6) (lw_over hN hL H l5 l6) (lw_price hN hL H l5 l6) (lw_clear hN hL H l5 l6) (lw_plan hN hL H l5 l6) (lw_planned hN hL H l5 l6) (lw_ticks hN hL H l5 l6) (lw_touch hN hL H l5 l6) (lw_start hN hL H l5 l6) (lw_step hN hL H l5 l6) (lw_jam hN hL H l5 l6) (lw_arm hN hL H l5 l6) (lw_told hN hL H l5 l6) (lw_ask hN hL H l5 l6) (lw_count hN hL H l5 l6)
theorem law_go (hL : L ≤ 2048) : ∀ (m N : Nat) (h : dH) (l5 l6 : Value), StL t0 N h → N ≤ 512 → L ≤ 4 * (N + m) + 3 → ∃ N' h', N' ≤ 512 ∧ StL t0 N' h' ∧ dX (dm_tb L xs) 11 142 23 [.float 3, .ref 0, .ref 270, .ref 295, .int (Int32.ofNat (4 * N)), l5, l6] [] h = some (some (.int 1), h') := by
  intro m
  induction m with
  | zero =>
    intro N h l5 l6 H hN hm
    refine ⟨N, h, hN, H, (sg_L_law_23 (dm_tb L xs) 9 0 270 295 (Int32.ofNat (4 * N)) l5 l6 h).trans ?_⟩
    rw [if_pos (by rw [lw_end hL hN]; omega)]
  | succ m ih =>
    intro N h l5 l6 H hN hm
    by_cases q : 4 * N + 4 ≤ L
    · obtain ⟨h2, l5', l6', s, e⟩ := lw_one (xs := xs) q hL H l5 l6
      obtain ⟨N', h', a1, a2, a3⟩ := ih (N + 1) h2 l5' l6' s (by omega) (by omega)
      refine ⟨N', h', a1, a2, e.trans ((sg_L_law_675 (dm_tb L xs) 9 0 270 295 (Int32.ofNat (4 * N)) l5' l6' h2).trans ?_)⟩
      rw [show Int32.ofNat (4 * N) + 4 = Int32.ofNat (4 * (N + 1)) from i_addl _ 4]
      exact a3
    · refine ⟨N, h, hN, H, (sg_L_law_23 (dm_tb L xs) 9 0 270 295 (Int32.ofNat (4 * N)) l5 l6 h).trans ?_⟩
      rw [if_pos (by rw [lw_end hL hN]; omega)]
end LAW
