/-! THE CONSTRUCTORS: the rows of strokes and of legs -/
section CT2
variable {L : Nat} {xs : Nat → Int32} {tb : dT} {d c t n : Nat} {H G : Nat → Option dE} {fs : List Value}
theorem u_stR {a k n m v : Nat} {rf : Nat → Option Nat} (h : H a = some (.inl (k, n, .inr (.inr (.inr (.inr rf)))))) (hk : (Nat.beq k 2 || Nat.beq k 3) = true) (ho : H v = some (.inr (dm_ek k, fs))) (hm : m < n) (hb : m < 2 ^ 31) : dm_stR (c, t, H) a (Int32.ofNat m) v = some (c, t, va_up H a (some (.inl (k, n, .inr (.inr (.inr (.inr (va_up rf m (some v))))))))) := by
  unfold dm_stR dm_rowR dm_obj
  dsimp only
  rw [h]
  show Option.bind (bif Nat.beq k 2 || Nat.beq k 3 then some (k, n, rf) else none) _ = _
  rw [hk, cond_true, Option.bind_some]
  dsimp only
  rw [ho]
  show Option.bind (bif Nat.beq (dm_ek k) (dm_ek k) then some fs else none) _ = _
  rw [Nat.beq_refl, cond_true, Option.bind_some, i_at hm hb]
  rfl
def stk (a : Nat) : dE := bif Nat.beq ((a - 5) % 5) 0 then .inr (5, [.int 0, .int 0, .int 0, .int 0, .int 0, .int 0, .int 0, .ref (a + 1), .ref (a + 2), .ref (a + 3), .ref (a + 4)]) else .inl (0, 12, .inl fun _ => 0)
def rf8 (i : Nat) : Nat → Option Nat := fun s => bif Nat.blt s i then some (5 + 5 * s) else none
theorem rf8_s (i : Nat) : va_up (rf8 i) i (some (5 + 5 * i)) = rf8 (i + 1) := by
  funext s
  by_cases q : s = i
  · subst q; rw [va_up_self]; unfold rf8; rw [Nat.blt_eq.mpr (by omega), cond_true]
  · rw [va_up_ne _ _ q]; unfold rf8
    rcases Nat.lt_or_ge s i with q2 | q2
    · rw [Nat.blt_eq.mpr q2, Nat.blt_eq.mpr (show s < i + 1 by omega)]
    · rw [blt_f q2, blt_f (by omega)]
def skH (G : Nat → Option dE) (i : Nat) : Nat → Option dE := fun a => bif Nat.beq a 2 then some (.inl (3, 8, .inr (.inr (.inr (.inr (rf8 i)))))) else bif Nat.blt a 5 then G a else bif Nat.blt a (5 + 5 * i) then some (stk a) else G a
theorem sk_lo {i a : Nat} (h : a ≠ 2) (h5 : a < 5) : skH G i a = G a := by unfold skH; rw [beq_f h, cond_false, Nat.blt_eq.mpr h5, cond_true]
theorem sk_in {i a : Nat} (h5 : 5 ≤ a) (h : a < 5 + 5 * i) : skH G i a = some (stk a) := by unfold skH; rw [beq_f (by omega), cond_false, blt_f h5, cond_false, Nat.blt_eq.mpr h, cond_true]
theorem sk_hi {i a : Nat} (h : 5 + 5 * i ≤ a) : skH G i a = G a := by unfold skH; rw [beq_f (by omega), cond_false, blt_f (by omega), cond_false, blt_f h, cond_false]
theorem sk_0 (h : G 2 = some (.inl (3, 8, .inr (.inr (.inr (.inr fun _ => none)))))) : skH G 0 = G := by
  funext a
  by_cases q : a = 2
  · subst q; rw [h]
    show some (Sum.inl (3, 8, Sum.inr (Sum.inr (Sum.inr (Sum.inr (rf8 0)))))) = _
    rw [show rf8 0 = fun _ => none from funext fun s => by unfold rf8; rw [blt_f (Nat.zero_le s), cond_false]]
  · rcases Nat.lt_or_ge a 5 with q5 | q5
    · exact sk_lo q q5
    · exact sk_hi q5
theorem k_strk (h1 : G 1 = some (.inr (4, fs))) (hf : fs[0]? = some (.ref 2)) : ∀ q i t, i + q = 8 → dX tb (d + 3) 46 30 [.ref 1, .int (Int32.ofNat i)] [] (5 + 5 * i, t, skH G i) = dX tb (d + 3) 46 57 [.ref 1, .int 0] [] (45, t + 59 * q, skH G 8) := by
  intro q
  induction q with
  | zero =>
    intro i t hi
    have e : i = 8 := hi
    subst e
    rw [sg_X4_init_30, if_pos (by decide)]; rfl
  | succ q ih =>
    intro i t hi
    obtain ⟨H', e, a1, a2, a3⟩ := k_X5 (tb := tb) (d := d + 1) (c := 5 + 5 * i) (t := t) (H := skH G i)
    rw [sg_X4_init_30, if_neg (by rw [Int32.not_le, show (Int32.ofNat i < 8) = (i < 8) from i_ltl (by omega) (by decide)]; omega), u_get (fs := fs) (by rw [sk_lo (by omega) (by omega)]; exact h1) hf, bq_s]
    dsimp only
    rw [e, aq_V, u_stR (rf := rf8 i) (k := 3) (n := 8) (by rw [a1 2 (by omega)]; rfl) rfl a2 (by omega) (by omega), bq_s, ia_1]
    have f : va_up H' 2 (some (Sum.inl (3, 8, Sum.inr (Sum.inr (Sum.inr (Sum.inr (va_up (rf8 i) i (some (5 + 5 * i))))))))) = skH G (i + 1) := by
      rw [rf8_s]
      funext a
      by_cases q2 : a = 2
      · subst q2; rw [va_up_self]; rfl
      · rw [va_up_ne _ _ q2]
        rcases Nat.lt_or_ge a 5 with q5 | q5
        · rw [a1 a (by omega), sk_lo q2 q5, sk_lo q2 q5]
        · rcases Nat.lt_or_ge a (5 + 5 * i) with q6 | q6
          · rw [a1 a (by omega), sk_in q5 q6, sk_in q5 (by omega)]
          · rcases Nat.lt_or_ge a (10 + 5 * i) with q7 | q7
            · rw [sk_in q5 (by omega)]
              by_cases q8 : a = 5 + 5 * i
              · subst q8; rw [a2]; unfold stk; rw [show (5 + 5 * i - 5) % 5 = 0 by omega]; rfl
              · rw [a3 a (by omega) (by omega)]; unfold stk; rw [beq_f (show (a - 5) % 5 ≠ 0 by omega), cond_false]
            · rw [a1 a (by omega), sk_hi (by omega), sk_hi (by omega)]
    rw [f, show 5 + 5 * i + 5 = 5 + 5 * (i + 1) by omega, ih (i + 1) (t + 59) (by omega), show t + 59 + 59 * q = t + 59 * (q + 1) by omega]
theorem at_0 {β : Type} {s : Nat} {K : Int32 → Option β} (hs : s < 5) : dm_at (Int32.ofNat s) (dm_tb L xs 0).1 (dm_tb L xs 0).2 K = K (([2, 1, 5, 30, 3] : List Int32).getD s 0) := at_k (m := 5) (by omega) hs
theorem k_pri1 {f : Nat → Int32} (h1 : H 1 = some (.inr (4, fs))) (hf : fs[2]? = some (.ref 4)) (h4 : H 4 = some (.inl (0, 5, .inl f))) {i : Nat} (hi : i < 5) : dX (dm_tb L xs) (d + 1) 46 57 [.ref 1, .int (Int32.ofNat i)] [] (c, t, H) = dX (dm_tb L xs) (d + 1) 46 57 [.ref 1, .int (Int32.ofNat (i + 1))] [] (c, t, va_up H 4 (some (.inl (0, 5, .inl (upd f i (([2, 1, 5, 30, 3] : List Int32).getD i 0)))))) := by
  rw [sg_X4_init_57, if_neg (by rw [Int32.not_le, show (Int32.ofNat i < 5) = (i < 5) from i_ltl (by omega) (by decide)]; omega), u_get h1 hf, bq_s, at_0 hi, u_stI h4 hi (by omega), bq_s, ia_1]
theorem k_pri (h1 : H 1 = some (.inr (4, fs))) (hf : fs[2]? = some (.ref 4)) (h4 : H 4 = some (.inl (0, 5, .inl fun _ => 0))) : dX (dm_tb L xs) (d + 1) 46 57 [.ref 1, .int 0] [] (c, t, H) = some (none, (c, t, va_up H 4 (some (.inl (0, 5, .inl prc))))) := by
  have g : ∀ x, va_up H 4 x 1 = some (.inr (4, fs)) := fun x => by rw [va_up_ne _ _ (by omega)]; exact h1
  show dX (dm_tb L xs) (d + 1) 46 57 [.ref 1, .int (Int32.ofNat 0)] [] (c, t, H) = _
  rw [k_pri1 h1 hf h4 (by omega), k_pri1 (g _) hf (va_up_self _ _ _) (by omega), va_again, k_pri1 (g _) hf (va_up_self _ _ _) (by omega), va_again, k_pri1 (g _) hf (va_up_self _ _ _) (by omega), va_again, k_pri1 (g _) hf (va_up_self _ _ _) (by omega), va_again, sg_X4_init_57, if_pos (by decide)]
  rfl
def G4 (H : Nat → Option dE) : Nat → Option dE := va_up (va_up (va_up (va_up H 2 (some (.inl (3, 8, .inr (.inr (.inr (.inr fun _ => none))))))) 3 (some (.inl (0, 8, .inl fun _ => 0)))) 4 (some (.inl (0, 5, .inl fun _ => 0)))) 1 (some (.inr (4, [.ref 2, .ref 3, .ref 4, .int 0])))
theorem k_X4 : ∃ H', dX (dm_tb L xs) (d + 3) 46 0 [.ref 1, .null] [] (dm_new (1, t, H) 4 (.inr (4, dm_def 4))) = some (none, (45, t + 497, H')) ∧ Bt H H' 1 45 := by
  have e := sg_X4_init_0 (dm_tb L xs) (d + 2) 1 (2, t + 4, va_up H 1 (some (.inr (4, dm_def 4))))
  simp (disch := first | omega | decide | (simp only [List.length_set]; decide)) only [n_C, p_C, bq_s] at e
  have e2 : dX (dm_tb L xs) (d + 3) 46 0 [.ref 1, .null] [] (dm_new (1, t, H) 4 (.inr (4, dm_def 4))) = dX (dm_tb L xs) (d + 3) 46 30 [.ref 1, .int (Int32.ofNat 0)] [] (5 + 5 * 0, t + 25, G4 H) := e
  have e3 := k_strk (tb := dm_tb L xs) (d := d) (G := G4 H) (fs := [.ref 2, .ref 3, .ref 4, .int 0]) rfl rfl 8 0 (t + 25) rfl
  rw [sk_0 (G := G4 H) rfl] at e3
  rw [k_pri (fs := [.ref 2, .ref 3, .ref 4, .int 0]) rfl rfl rfl] at e3
  refine ⟨_, (e2.trans e3).trans (by rw [show t + 25 + 59 * 8 = t + 497 by omega]), fun a ha => ?_, fun a h1 h2 => ?_⟩
  · by_cases q : a = 0
    · subst q; rfl
    · rw [va_up_ne _ _ (by omega), sk_hi (by omega)]
      unfold G4
      simp (disch := omega) only [va_up_ne]
  · have h : a = 1 ∨ a = 2 ∨ a = 3 ∨ a = 4 ∨ a = 5 ∨ a = 6 ∨ a = 7 ∨ a = 8 ∨ a = 9 ∨ a = 10 ∨ a = 11 ∨ a = 12 ∨ a = 13 ∨ a = 14 ∨ a = 15 ∨ a = 16 ∨ a = 17 ∨ a = 18 ∨ a = 19 ∨ a = 20 ∨ a = 21 ∨ a = 22 ∨ a = 23 ∨ a = 24 ∨ a = 25 ∨ a = 26 ∨ a = 27 ∨ a = 28 ∨ a = 29 ∨ a = 30 ∨ a = 31 ∨ a = 32 ∨ a = 33 ∨ a = 34 ∨ a = 35 ∨ a = 36 ∨ a = 37 ∨ a = 38 ∨ a = 39 ∨ a = 40 ∨ a = 41 ∨ a = 42 ∨ a = 43 ∨ a = 44 := by omega
    rcases h with rfl | rfl | rfl | rfl | rfl | rfl | rfl | rfl | rfl | rfl | rfl | rfl | rfl | rfl | rfl | rfl | rfl | rfl | rfl | rfl | rfl | rfl | rfl | rfl | rfl | rfl | rfl | rfl | rfl | rfl | rfl | rfl | rfl | rfl | rfl | rfl | rfl | rfl | rfl | rfl | rfl | rfl | rfl | rfl <;> rfl
def rfl9 (i : Nat) : Nat → Option Nat := fun s => bif Nat.blt s i then some (61 + s) else none
theorem rfl9_s (i : Nat) : va_up (rfl9 i) i (some (61 + i)) = rfl9 (i + 1) := by
  funext s
  by_cases q : s = i
  · subst q; rw [va_up_self]; unfold rfl9; rw [Nat.blt_eq.mpr (by omega), cond_true]
  · rw [va_up_ne _ _ q]; unfold rfl9
    rcases Nat.lt_or_ge s i with q2 | q2
    · rw [Nat.blt_eq.mpr q2, Nat.blt_eq.mpr (show s < i + 1 by omega)]
    · rw [blt_f q2, blt_f (by omega)]
def lgH (G : Nat → Option dE) (i : Nat) : Nat → Option dE := fun a => bif Nat.beq a 58 then some (.inl (2, 209, .inr (.inr (.inr (.inr (rfl9 i)))))) else bif Nat.blt a 61 then G a else bif Nat.blt a (61 + i) then some (.inr (1, dm_def 1)) else G a
theorem lg_lo {i a : Nat} (h : a ≠ 58) (h5 : a < 61) : lgH G i a = G a := by unfold lgH; rw [beq_f h, cond_false, Nat.blt_eq.mpr h5, cond_true]
theorem lg_in {i a : Nat} (h5 : 61 ≤ a) (h : a < 61 + i) : lgH G i a = some (.inr (1, dm_def 1)) := by unfold lgH; rw [beq_f (by omega), cond_false, blt_f h5, cond_false, Nat.blt_eq.mpr h, cond_true]
theorem lg_hi {i a : Nat} (h : 61 + i ≤ a) : lgH G i a = G a := by unfold lgH; rw [beq_f (by omega), cond_false, blt_f (by omega), cond_false, blt_f h, cond_false]
theorem lg_0 (h : G 58 = some (.inl (2, 209, .inr (.inr (.inr (.inr fun _ => none)))))) : lgH G 0 = G := by
  funext a
  by_cases q : a = 58
  · subst q; rw [h]
    show some (Sum.inl (2, 209, Sum.inr (Sum.inr (Sum.inr (Sum.inr (rfl9 0)))))) = _
    rw [show rfl9 0 = fun _ => none from funext fun s => by unfold rfl9; rw [blt_f (Nat.zero_le s), cond_false]]
  · rcases Nat.lt_or_ge a 61 with q5 | q5
    · exact lg_lo q q5
    · exact lg_hi q5
theorem k_legs {l1 l2 : Nat} (h1 : G 57 = some (.inr (3, fs))) (hf : fs[2]? = some (.ref 58)) : ∀ q i t, i + q = 209 → dX tb (d + 2) 26 45 [.ref 57, .ref l1, .ref l2, .int (Int32.ofNat i)] [] (61 + i, t, lgH G i) = some (none, (270, t + 11 * q, lgH G 209)) := by
  intro q
  induction q with
  | zero =>
    intro i t hi
    have e : i = 209 := hi
    subst e
    rw [sg_X3_init_45, if_pos (by decide)]; rfl
  | succ q ih =>
    intro i t hi
    rw [sg_X3_init_45, if_neg (by rw [Int32.not_le, show (Int32.ofNat i < 209) = (i < 209) from i_ltl (by omega) (by decide)]; omega), u_get (fs := fs) (by rw [lg_lo (by omega) (by omega)]; exact h1) hf, bq_s]
    dsimp only
    rw [sg_X1_init_0, aq_V, n_0, u_stR (H := va_up (lgH G i) (61 + i) (some (Sum.inr (1, dm_def 1)))) (a := 58) (m := i) (v := 61 + i) (rf := rfl9 i) (k := 2) (n := 209) (fs := dm_def 1) (by rw [va_up_ne _ _ (by omega)]; rfl) rfl (va_up_self (lgH G i) (61 + i) (some (Sum.inr (1, dm_def 1)))) (by omega) (by omega), bq_s, ia_1]
    have f : va_up (va_up (lgH G i) (61 + i) (some (Sum.inr (1, dm_def 1)))) 58 (some (Sum.inl (2, 209, Sum.inr (Sum.inr (Sum.inr (Sum.inr (va_up (rfl9 i) i (some (61 + i))))))))) = lgH G (i + 1) := by
      rw [rfl9_s]
      funext a
      by_cases q2 : a = 58
      · subst q2; rw [va_up_self]; rfl
      · rw [va_up_ne _ _ q2]
        by_cases q3 : a = 61 + i
        · subst q3; rw [va_up_self, lg_in (by omega) (by omega)]
        · rw [va_up_ne _ _ q3]
          rcases Nat.lt_or_ge a 61 with q5 | q5
          · rw [lg_lo q2 q5, lg_lo q2 q5]
          · rcases Nat.lt_or_ge a (61 + i) with q6 | q6
            · rw [lg_in q5 q6, lg_in q5 (by omega)]
            · rw [lg_hi (by omega), lg_hi (by omega)]
    rw [f, show 61 + i + 1 = 61 + (i + 1) by omega, ih (i + 1) (t + 11) (by omega), show t + 11 + 11 * q = t + 11 * (q + 1) by omega]
def G3 (H : Nat → Option dE) : Nat → Option dE := va_up (va_up (va_up (va_up H 58 (some (.inl (2, 209, .inr (.inr (.inr (.inr fun _ => none))))))) 59 (some (.inr (0, [.int 0, .int 0, .int (-1), .int 0])))) 60 (some (.inl (0, 8, .inl fun _ => 0)))) 57 (some (.inr (3, [.ref 1, .ref 45, .ref 58, .int 0, .int 0, .ref 59, .int 0, .ref 60, .int 0, .int 0, .int 0, .int 0, .int 0, .int 0, .int 0])))
theorem cel_leg {a : Nat} (h1 : 61 ≤ a) (h2 : a < 270) : cel a = some (.inr (1, dm_def 1)) := by
  obtain ⟨i, rfl⟩ : ∃ i, a = 61 + i := ⟨a - 61, by omega⟩
  unfold cel SH0
  rw [SH_leg (by omega), show sg0 (61 + i) = fun _ => 0 by unfold sg0; rw [beq_f (by omega), beq_f (by omega), beq_f (by omega), beq_f (by omega), beq_f (by omega), beq_f (by omega)]; rfl]
  rfl
theorem k_X3 : ∃ H', dX tb (d + 2) 26 0 [.ref 57, .ref 1, .ref 45, .null] [] (dm_new (57, t, H) 15 (.inr (3, dm_def 3))) = some (none, (270, t + 2535, H')) ∧ Bt H H' 57 270 := by
  have e := sg_X3_init_0 tb (d + 1) 57 1 45 (58, t + 15, va_up H 57 (some (.inr (3, dm_def 3))))
  simp (disch := first | omega | decide | (simp only [List.length_set]; decide)) only [n_C, p_C, k_X0, aq_V, bq_s] at e
  have e2 : dX tb (d + 2) 26 0 [.ref 57, .ref 1, .ref 45, .null] [] (dm_new (57, t, H) 15 (.inr (3, dm_def 3))) = dX tb (d + 2) 26 45 [.ref 57, .ref 1, .ref 45, .int (Int32.ofNat 0)] [] (61 + 0, t + 236, G3 H) := e
  have e3 := k_legs (tb := tb) (d := d) (l1 := 1) (l2 := 45) (G := G3 H) (fs := [.ref 1, .ref 45, .ref 58, .int 0, .int 0, .ref 59, .int 0, .ref 60, .int 0, .int 0, .int 0, .int 0, .int 0, .int 0, .int 0]) rfl rfl 209 0 (t + 236) rfl
  rw [lg_0 (G := G3 H) rfl] at e3
  refine ⟨_, (e2.trans e3).trans (by rw [show t + 236 + 11 * 209 = t + 2535 by omega]), fun a ha => ?_, fun a h1 h2 => ?_⟩
  · rcases ha with ha | ha
    · rw [lg_lo (by omega) (by omega)]
      unfold G3
      simp (disch := omega) only [va_up_ne]
    · rw [lg_hi (by omega)]
      unfold G3
      simp (disch := omega) only [va_up_ne]
  · rcases Nat.lt_or_ge a 61 with q | q
    · have h : a = 57 ∨ a = 58 ∨ a = 59 ∨ a = 60 := by omega
      rcases h with rfl | rfl | rfl | rfl <;> rfl
    · rw [lg_in q (by omega), cel_leg q h2]
end CT2
