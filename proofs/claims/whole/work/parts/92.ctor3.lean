/-! THE CONSTRUCTORS: the class whole, the law's beginning -/
section CT3
variable {L : Nat} {xs : Nat → Int32} {tb : dT} {d c t n : Nat} {H F : Nat → Option dE}
theorem k_X6 : ∃ t' H', dX (dm_tb L xs) (d + 4) 70 0 [.ref 0] [] (dm_new (0, t, F) 4 (.inr (6, dm_def 6))) = some (none, (270, t', H')) ∧ t' ≤ t + 4000 ∧ Bt F H' 0 270 := by
  have e := sg_X6_init_0 (dm_tb L xs) (d + 3) 0 (1, t + 4, va_up F 0 (some (.inr (6, dm_def 6))))
  obtain ⟨H1, e1, B1⟩ := k_X4 (L := L) (xs := xs) (d := d) (t := t + 4) (H := va_up F 0 (some (.inr (6, dm_def 6))))
  have v1 : H1 0 = some (.inr (6, [.null, .null, .null, .null])) := (B1.1 0 (by omega)).trans (va_up_self _ _ _)
  dsimp only at e
  rw [e1, aq_V, u_put v1 rfl, bq_s] at e
  dsimp only at e
  rw [n_0, k_X0b, aq_V] at e
  have v2 : va_up (va_up H1 0 (some (.inr (6, [Value.null, .null, .null, .null].set 0 (.ref 1))))) 45 (some (.inr (0, (dm_def 0).set 2 (.int (-1))))) 0 = some (.inr (6, [.ref 1, .null, .null, .null])) := rfl
  rw [u_put v2 rfl, bq_s] at e
  have v3 : va_up (va_up (va_up H1 0 (some (.inr (6, [Value.null, .null, .null, .null].set 0 (.ref 1))))) 45 (some (.inr (0, (dm_def 0).set 2 (.int (-1)))))) 0 (some (.inr (6, [Value.ref 1, .null, .null, .null].set 1 (.ref 45)))) 0 = some (.inr (6, [.ref 1, .ref 45, .null, .null])) := rfl
  have p1 : ∀ a, a ≠ 0 → a ≠ 45 → va_up (va_up (va_up H1 0 (some (.inr (6, [Value.null, .null, .null, .null].set 0 (.ref 1))))) 45 (some (.inr (0, (dm_def 0).set 2 (.int (-1)))))) 0 (some (.inr (6, [Value.ref 1, .null, .null, .null].set 1 (.ref 45)))) a = H1 a := fun a h1 h2 => by rw [va_up_ne _ _ h1, va_up_ne _ _ h2, va_up_ne _ _ h1]
  have p2 : va_up (va_up (va_up H1 0 (some (.inr (6, [Value.null, .null, .null, .null].set 0 (.ref 1))))) 45 (some (.inr (0, (dm_def 0).set 2 (.int (-1)))))) 0 (some (.inr (6, [Value.ref 1, .null, .null, .null].set 1 (.ref 45)))) 45 = cel 45 := rfl
  generalize va_up (va_up (va_up H1 0 (some (.inr (6, [Value.null, .null, .null, .null].set 0 (.ref 1))))) 45 (some (.inr (0, (dm_def 0).set 2 (.int (-1)))))) 0 (some (.inr (6, [Value.ref 1, .null, .null, .null].set 1 (.ref 45)))) = P2 at e v3 p1 p2
  have w : ∀ x, va_up P2 46 x 0 = some (.inr (6, [.ref 1, .ref 45, .null, .null])) := fun x => by rw [va_up_ne _ _ (by omega)]; exact v3
  obtain ⟨t3, H3, e3, b3, B3⟩ := k_X2 (tb := dm_tb L xs) (d := d + 1) (t := t + 4 + 497 + 4) (H := P2)
  rw [show dm_getR (dm_new (45 + 1, t + 4 + 497 + 4, P2) 17 (.inr (2, dm_def 2))) 0 6 0 = some 1 from u_get (w _) rfl, bq_s, show dm_getR (dm_new (45 + 1, t + 4 + 497 + 4, P2) 17 (.inr (2, dm_def 2))) 0 6 1 = some 45 from u_get (w _) rfl, bq_s] at e
  dsimp only at e
  rw [show dX (dm_tb L xs) (d + 3) 10 0 [.ref (45 + 1), .ref 1, .ref 45] [] (dm_new (45 + 1, t + 4 + 497 + 4, P2) 17 (.inr (2, dm_def 2))) = _ from e3, aq_V] at e
  have v4 : H3 0 = some (.inr (6, [.ref 1, .ref 45, .null, .null])) := (B3.1 0 (by omega)).trans v3
  rw [u_put v4 rfl, bq_s] at e
  have v5 : va_up H3 0 (some (.inr (6, [Value.ref 1, .ref 45, .null, .null].set 2 (.ref (45 + 1))))) 0 = some (.inr (6, [.ref 1, .ref 45, .ref 46, .null])) := rfl
  have p3 : ∀ a, a ≠ 0 → va_up H3 0 (some (.inr (6, [Value.ref 1, .ref 45, .null, .null].set 2 (.ref (45 + 1))))) a = H3 a := fun a h1 => by rw [va_up_ne _ _ h1]
  generalize va_up H3 0 (some (.inr (6, [Value.ref 1, .ref 45, .null, .null].set 2 (.ref (45 + 1))))) = P3 at e v5 p3
  have w' : ∀ x, va_up P3 57 x 0 = some (.inr (6, [.ref 1, .ref 45, .ref 46, .null])) := fun x => by rw [va_up_ne _ _ (by omega)]; exact v5
  obtain ⟨H4, e4, B4⟩ := k_X3 (tb := dm_tb L xs) (d := d + 1) (t := t3) (H := P3)
  rw [show dm_getR (dm_new (57, t3, P3) 15 (.inr (3, dm_def 3))) 0 6 0 = some 1 from u_get (w' _) rfl, bq_s, show dm_getR (dm_new (57, t3, P3) 15 (.inr (3, dm_def 3))) 0 6 1 = some 45 from u_get (w' _) rfl, bq_s] at e
  dsimp only at e
  rw [e4, aq_V] at e
  have v6 : H4 0 = some (.inr (6, [.ref 1, .ref 45, .ref 46, .null])) := (B4.1 0 (by omega)).trans v5
  rw [u_put v6 rfl, bq_s] at e
  refine ⟨_, _, e, by omega, fun a ha => ?_, fun a h1 h2 => ?_⟩
  · rw [va_up_ne _ _ (by omega), B4.1 a (by omega), p3 a (by omega), B3.1 a (by omega), p1 a (by omega) (by omega), B1.1 a (by omega), va_up_ne _ _ (by omega)]
  · by_cases q0 : a = 0
    · subst q0; rfl
    · rw [va_up_ne _ _ q0]
      rcases Nat.lt_or_ge a 57 with q1 | q1
      · rw [B4.1 a (by omega), p3 a q0]
        rcases Nat.lt_or_ge a 46 with q2 | q2
        · rw [B3.1 a (by omega)]
          by_cases q3 : a = 45
          · subst q3; exact p2
          · rw [p1 a q0 q3]; exact B1.2 a (by omega) (by omega)
        · exact B3.2 a q2 q1
      · exact B4.2 a q1 h2
theorem SH0_lt {a : Nat} {s : dSh} (h : SH0 a = some s) : a < 295 := by
  rcases Nat.lt_or_ge a 295 with q | q
  · exact q
  · unfold SH0 at h
    rw [SH_free q (by omega) (by omega)] at h; cases h
theorem hp_cel (h : ∀ a, a < 295 → H a = cel a) : H = hp H (SH (fun _ => false) 48) sg0 := by
  funext a
  unfold hp
  show H a = match SH0 a with
    | some s => some (hp_c s (sg0 a))
    | none => H a
  cases q : SH0 a with
  | none => rfl
  | some s =>
    rw [h a (SH0_lt q)]
    unfold cel
    rw [q]
theorem law_pre : ∃ t H, t ≤ 30800 ∧ dX (dm_tb L xs) 11 142 0 [.float 3, .null, .null, .null, .null, .null, .null] [] (0, 0, fun _ => none) = dX (dm_tb L xs) 11 142 23 [.float 3, .ref 0, .ref 270, .ref 295, .int (Int32.ofNat (4 * 0)), .null, .null] [] (296, t, hp H (SH (fun _ => false) 48) sg0) ∧ Lg1 H := by
  have e := sg_L_law_0 (dm_tb L xs) 9 (0, 0, fun _ => none)
  obtain ⟨t1, H1, e1, b1, B1⟩ := k_X6 (L := L) (xs := xs) (d := 6) (t := 0) (F := fun _ => none)
  obtain ⟨t2, H2, e2, b2, B2⟩ := k_X7 (tb := dm_tb L xs) (d := 9) (t := t1) (H := H1)
  dsimp only at e
  rw [show dX (dm_tb L xs) (9 + 1) 70 0 [.ref 0] [] (dm_new (0, 0, fun _ => none) 4 (.inr (6, dm_def 6))) = _ from e1, aq_V] at e
  dsimp only at e
  rw [e2, aq_V, n_0] at e
  dsimp only at e
  refine ⟨t2 + 1, va_up H2 295 (some (.inl (4, 1, .inr (.inl fun _ => 0)))), by omega, ?_, ⟨_, va_up_self _ _ _⟩⟩
  rw [← hp_cel (H := va_up H2 295 (some (.inl (4, 1, .inr (.inl fun _ => 0))))) fun a ha => ?_]
  · exact e
  · rw [va_up_ne _ _ (by omega)]
    rcases Nat.lt_or_ge a 270 with q | q
    · rw [B2.1 a (by omega), B1.2 a (by omega) q]
    · exact B2.2 a q ha
end CT3
