/-! A RUN AS IT GOES ON: what is so behind each phase -/
section AUT
abbrev dZ : Type := Nat × Nat × Int32 × Bool × Nat × Nat × Nat × (Nat → Nat) × (Nat → Option Nat) × Nat
def zX (z : dZ) : Nat := z.1
def zY (z : dZ) : Nat := z.2.1
def zP (z : dZ) : Int32 := z.2.2.1
def zD (z : dZ) : Bool := z.2.2.2.1
def zI (z : dZ) : Nat := z.2.2.2.2.1
def zU (z : dZ) : Nat := z.2.2.2.2.2.1
def zW (z : dZ) : Nat := z.2.2.2.2.2.2.1
def zC (z : dZ) : Nat → Nat := z.2.2.2.2.2.2.2.1
def zE (z : dZ) : Nat → Option Nat := z.2.2.2.2.2.2.2.2.1
def zT (z : dZ) : Nat := z.2.2.2.2.2.2.2.2.2
/-- a phase done: by its kind -/
def fin (P : dP) (z : dZ) (f : dF) : dZ := match fK f with
  | 0 => (gX f, gY f, zP z, false, zI z, zU z, zW z, zC z, zE z, zT z + fL f)
  | 1 => (gX f, gY f, Int32.ofNat (pPen P (fS f)), zD z, zI z, zU z, zW z, zC z, zE z, zT z + fL f)
  | 3 => (gX f, gY f, zP z, true, zI z, zU z, zW z, zC z, zE z, zT z + fL f)
  | 4 => (gX f, gY f, zP z, zD z, zI z, zU z, zW z + fL f, zC z, zE z, zT z + fL f)
  | 5 => if zI z + 1 + 1 < pN P (fS f) then (gX f, gY f, zP z, zD z, zI z + 1, zU z + fW f, zW z, fun v => if v = fS f then zC z v + 1 else zC z v, zE z, zT z + fL f)
      else (gX f, gY f, zP z, zD z, 0, 0, zW z, fun v => if v = fS f then zC z v + 1 else zC z v, fun v => if v = fS f then some (zT z + fL f) else zE z v, zT z + fL f)
  | _ => (gX f, gY f, zP z, zD z, zI z, zU z, zW z, zC z, zE z, zT z + fL f)
def wsU (P : dP) (s b : Nat) : Nat → Nat
  | 0 => 0
  | k + 1 => wsU P s b k + way1 P s b k
def dwK (k : Nat) : Bool := Nat.beq k 0 || Nat.ble 4 k
/-- what holds as a phase begins -/
def okF (P : dP) (z : dZ) (f : dF) : Prop := fK f ≤ 6 ∧ fX f = zX z ∧ fY f = zY z ∧ fP f = zP z ∧ zD z = dwK (fK f) ∧ (fK f < 5 → zI z = 0 ∧ zU z = 0 ∧ (fS f < 8 → zC z (fS f) = 0)) ∧ (5 ≤ fK f → zI z = fJ f ∧ zC z (fS f) = fJ f ∧ zU z = wsU P (fS f) (fB f) (fJ f) ∧ fJ f + 1 < pN P (fS f) ∧ zE z (fS f) = none) ∧ (fK f ≠ 2 → fK f ≠ 5 → gX f = fX f ∧ gY f = fY f) ∧ (fK f = 2 ∨ fK f = 5 → fL f = fU P f * fW f) ∧ (fS f = 8 ∨ (fS f < pM P ∧ fB f < bgn P (fS f) ∧ 2 ≤ pN P (fS f))) ∧ (fK f ≠ 0 → fS f ≠ 8) ∧ (fK f = 5 → f = drP P (fS f) (fB f) (fJ f)) ∧ (fX f ≤ 500 ∧ fY f ≤ 500 ∧ gX f ≤ 500 ∧ gY f ≤ 500)
def okL (P : dP) : dZ → List dF → Prop
  | _, [] => True
  | z, f :: l => okF P z f ∧ okL P (fin P z f) l
theorem okL_app {P : dP} {l m : List dF} : ∀ z, okL P z (l ++ m) ↔ okL P z l ∧ okL P (l.foldl (fin P) z) m := by
  induction l with
  | nil => intro z; exact ⟨fun h => ⟨trivial, h⟩, fun h => h.2⟩
  | cons f l ih =>
    intro z
    show okF P z f ∧ okL P (fin P z f) (l ++ m) ↔ (okF P z f ∧ okL P (fin P z f) l) ∧ okL P (l.foldl (fin P) (fin P z f)) m
    rw [ih]
    exact ⟨fun ⟨a, b, c⟩ => ⟨⟨a, b⟩, c⟩, fun ⟨⟨a, b⟩, c⟩ => ⟨a, b, c⟩⟩
variable {P : dP} {A : dA} {os ob : Nat → Nat}
theorem fin_T (z : dZ) (f : dF) : zT (fin P z f) = zT z + fL f := by
  unfold fin
  split <;> first | rfl | (split <;> rfl)
theorem fold_T (l : List dF) : ∀ z, zT (l.foldl (fin P) z) = zT z + tot l := by
  induction l with
  | nil => intro z; rfl
  | cons f l ih =>
    intro z
    show zT (l.foldl (fin P) (fin P z f)) = zT z + (fL f + tot l)
    rw [ih, fin_T]
    omega
/-- how the state stands as a stroke's phases begin -/
def stB (z : dZ) (s x y : Nat) (pen : Int32) (dwn : Bool) : Prop := zX z = x ∧ zY z = y ∧ zP z = pen ∧ zD z = dwn ∧ zI z = 0 ∧ zU z = 0 ∧ zC z s = 0 ∧ zE z s = none
theorem bg_ok (W : Wf P) {s b x y : Nat} {pen : Int32} {dwn : Bool} (hs : s < pM P) (hb : b < bgn P s) (h2 : 2 ≤ pN P s) (hx : x ≤ 500) (hy : y ≤ 500) {z : dZ} (h : stB z s x y pen dwn) : okL P z (bgP P s b x y pen dwn) ∧ stB ((bgP P s b x y pen dwn).foldl (fin P) z) s (dXn P s b 0) (dYn P s b 0) (Int32.ofNat (pPen P s)) true ∧ zC ((bgP P s b x y pen dwn).foldl (fin P) z) = zC z ∧ zE ((bgP P s b x y pen dwn).foldl (fin P) z) = zE z := by
  have hm := W.1
  have X0 := dXn_le (b := b) (k := 0) W hs (by omega)
  have Y0 := dYn_le (b := b) (k := 0) W hs (by omega)
  obtain ⟨a1, a2, a3, a4, a5, a6, a7, a8⟩ := h
  have hs8 : ¬ s = 8 := by omega
  unfold bgP
  cases hq : (dwn && (decide (pen = Int32.ofNat (pPen P s)) && (decide (x = dXn P s b 0) && decide (y = dYn P s b 0))))
  · rw [cond_false]
    cases hdw : dwn
    · subst hdw
      by_cases hp : pen = Int32.ofNat (pPen P s)
      · rw [decide_eq_true hp]
        simp only [cond_false, cond_true, List.nil_append, List.append_nil, List.cons_append, okL, okF, fin, fK, fL, fS, fB, fJ, fX, fY, gX, gY, fP, fW, fU, zX, zY, zP, zD, zI, zU, zW, zC, zE, zT, List.foldl_cons, List.foldl_nil, stB] at a1 a2 a3 a4 a5 a6 a7 a8 ⊢
        simp [a1, a2, a3, a4, a5, a6, a7, a8, hp, dwK, hs8, hs, hb, h2, hx, hy, X0, Y0]
        decide
      · rw [decide_eq_false hp]
        simp only [cond_false, cond_true, List.nil_append, List.append_nil, List.cons_append, okL, okF, fin, fK, fL, fS, fB, fJ, fX, fY, gX, gY, fP, fW, fU, zX, zY, zP, zD, zI, zU, zW, zC, zE, zT, List.foldl_cons, List.foldl_nil, stB] at a1 a2 a3 a4 a5 a6 a7 a8 ⊢
        simp [a1, a2, a3, a4, a5, a6, a7, a8, hp, dwK, hs8, hs, hb, h2, hx, hy, X0, Y0]
        decide
    · subst hdw
      by_cases hp : pen = Int32.ofNat (pPen P s)
      · rw [decide_eq_true hp]
        simp only [cond_false, cond_true, List.nil_append, List.append_nil, List.cons_append, okL, okF, fin, fK, fL, fS, fB, fJ, fX, fY, gX, gY, fP, fW, fU, zX, zY, zP, zD, zI, zU, zW, zC, zE, zT, List.foldl_cons, List.foldl_nil, stB] at a1 a2 a3 a4 a5 a6 a7 a8 ⊢
        simp [a1, a2, a3, a4, a5, a6, a7, a8, hp, dwK, hs8, hs, hb, h2, hx, hy, X0, Y0]
        decide
      · rw [decide_eq_false hp]
        simp only [cond_false, cond_true, List.nil_append, List.append_nil, List.cons_append, okL, okF, fin, fK, fL, fS, fB, fJ, fX, fY, gX, gY, fP, fW, fU, zX, zY, zP, zD, zI, zU, zW, zC, zE, zT, List.foldl_cons, List.foldl_nil, stB] at a1 a2 a3 a4 a5 a6 a7 a8 ⊢
        simp [a1, a2, a3, a4, a5, a6, a7, a8, hp, dwK, hs8, hs, hb, h2, hx, hy, X0, Y0]
        decide
  · rw [cond_true]
    rw [Bool.and_eq_true, Bool.and_eq_true, Bool.and_eq_true, decide_eq_true_eq, decide_eq_true_eq, decide_eq_true_eq] at hq
    obtain ⟨q1, q2, q3, q4⟩ := hq
    refine ⟨trivial, ⟨?_, ?_, ?_, ?_, a5, a6, a7, a8⟩, rfl, rfl⟩
    · rw [← q3]; exact a1
    · rw [← q4]; exact a2
    · rw [← q2]; exact a3
    · rw [q1] at a4; exact a4
theorem wt_ok (W : Wf P) {s b w : Nat} (hs : s < pM P) (hb : b < bgn P s) (h2 : 2 ≤ pN P s) {z : dZ} (h : stB z s (dXn P s b 0) (dYn P s b 0) (Int32.ofNat (pPen P s)) true) : okF P z (wtP P s b w) ∧ stB (fin P z (wtP P s b w)) s (dXn P s b 0) (dYn P s b 0) (Int32.ofNat (pPen P s)) true ∧ zC (fin P z (wtP P s b w)) = zC z ∧ zE (fin P z (wtP P s b w)) = zE z := by
  have hm := W.1
  have X0 := dXn_le (b := b) (k := 0) W hs (by omega)
  have Y0 := dYn_le (b := b) (k := 0) W hs (by omega)
  obtain ⟨a1, a2, a3, a4, a5, a6, a7, a8⟩ := h
  have hs8 : ¬ s = 8 := by omega
  simp only [wtP, okF, fin, fK, fL, fS, fB, fJ, fX, fY, gX, gY, fP, fW, fU, zX, zY, zP, zD, zI, zU, zW, zC, zE, zT, stB] at a1 a2 a3 a4 a5 a6 a7 a8 ⊢
  simp [a1, a2, a3, a4, a5, a6, a7, a8, dwK, hs8, hs, hb, h2, X0, Y0]
/-- within the pieces of a stroke -/
def stP (P : dP) (z : dZ) (s b k : Nat) : Prop := zX z = dXn P s b k ∧ zY z = dYn P s b k ∧ zP z = Int32.ofNat (pPen P s) ∧ zD z = true ∧ zI z = k ∧ zU z = wsU P s b k ∧ zC z s = k ∧ zE z s = none
theorem cr_ok (W : Wf P) {s b k : Nat} (hs : s < pM P) (hb : b < bgn P s) (h2 : 2 ≤ pN P s) (hk : k + 1 < pN P s) {z : dZ} (h : stP P z s b k) : okF P z (crP P s b k) ∧ stP P (fin P z (crP P s b k)) s b k ∧ zC (fin P z (crP P s b k)) = zC z ∧ zE (fin P z (crP P s b k)) = zE z := by
  have hm := W.1
  have X0 := dXn_le (b := b) (k := k) W hs (by omega)
  have Y0 := dYn_le (b := b) (k := k) W hs (by omega)
  obtain ⟨a1, a2, a3, a4, a5, a6, a7, a8⟩ := h
  have hs8 : ¬ s = 8 := by omega
  simp only [crP, okF, fin, fK, fL, fS, fB, fJ, fX, fY, gX, gY, fP, fW, fU, zX, zY, zP, zD, zI, zU, zW, zC, zE, zT, stP] at a1 a2 a3 a4 a5 a6 a7 a8 ⊢
  simp [a1, a2, a3, a4, a5, a6, a7, a8, dwK, hs8, hs, hb, h2, X0, Y0, hk]
theorem dr_ok (W : Wf P) {s b k : Nat} (hs : s < pM P) (hb : b < bgn P s) (h2 : 2 ≤ pN P s) (hk : k + 1 < pN P s) {z : dZ} (h : stP P z s b k) : okF P z (drP P s b k) := by
  have hm := W.1
  have X0 := dXn_le (b := b) (k := k) W hs (by omega)
  have Y0 := dYn_le (b := b) (k := k) W hs (by omega)
  have X1 := dXn_le (b := b) (k := k + 1) W hs (by omega)
  have Y1 := dYn_le (b := b) (k := k + 1) W hs (by omega)
  obtain ⟨a1, a2, a3, a4, a5, a6, a7, a8⟩ := h
  have hs8 : ¬ s = 8 := by omega
  simp only [drP, okF, fin, fK, fL, fS, fB, fJ, fX, fY, gX, gY, fP, fW, fU, zX, zY, zP, zD, zI, zU, zW, zC, zE, zT, stP, way1] at a1 a2 a3 a4 a5 a6 a7 a8 ⊢
  simp [a1, a2, a3, a4, a5, a6, a7, a8, dwK, hs8, hs, hb, h2, X0, Y0, X1, Y1, hk]
theorem dr_st {s b k : Nat} {z : dZ} (h : stP P z s b k) : (k + 2 < pN P s → stP P (fin P z (drP P s b k)) s b (k + 1) ∧ zE (fin P z (drP P s b k)) = zE z) ∧ (¬ k + 2 < pN P s → zX (fin P z (drP P s b k)) = dXn P s b (k + 1) ∧ zY (fin P z (drP P s b k)) = dYn P s b (k + 1) ∧ zP (fin P z (drP P s b k)) = Int32.ofNat (pPen P s) ∧ zD (fin P z (drP P s b k)) = true ∧ zI (fin P z (drP P s b k)) = 0 ∧ zU (fin P z (drP P s b k)) = 0 ∧ zE (fin P z (drP P s b k)) = fun v => if v = s then some (zT z + fL (drP P s b k)) else zE z v) ∧ ∀ v, v ≠ s → zC (fin P z (drP P s b k)) v = zC z v := by
  obtain ⟨a1, a2, a3, a4, a5, a6, a7, a8⟩ := h
  have e : fin P z (drP P s b k) = if zI z + 1 + 1 < pN P s then (dXn P s b (k + 1), dYn P s b (k + 1), zP z, zD z, zI z + 1, zU z + way1 P s b k, zW z, fun v => if v = s then zC z v + 1 else zC z v, zE z, zT z + fL (drP P s b k)) else (dXn P s b (k + 1), dYn P s b (k + 1), zP z, zD z, 0, 0, zW z, fun v => if v = s then zC z v + 1 else zC z v, fun v => if v = s then some (zT z + fL (drP P s b k)) else zE z v, zT z + fL (drP P s b k)) := rfl
  rw [e, a5]
  refine ⟨fun hq => ?_, fun hq => ?_, fun v hv => ?_⟩
  · rw [if_pos (by omega)]
    refine ⟨⟨rfl, rfl, a3, a4, rfl, ?_, ?_, a8⟩, rfl⟩
    · show zU z + way1 P s b k = wsU P s b k + way1 P s b k
      rw [a6]
    · show (if s = s then zC z s + 1 else zC z s) = k + 1
      rw [if_pos rfl, a7]
  · rw [if_neg (by omega)]
    exact ⟨rfl, rfl, a3, a4, rfl, rfl, rfl⟩
  · split
    · show (if v = s then zC z v + 1 else zC z v) = _
      rw [if_neg hv]
    · show (if v = s then zC z v + 1 else zC z v) = _
      rw [if_neg hv]
theorem pc_ok (W : Wf P) {s b : Nat} (hs : s < pM P) (hb : b < bgn P s) (h2 : 2 ≤ pN P s) {z : dZ} (h : stP P z s b 0) : ∀ k, k + 1 ≤ pN P s → okL P z (pcP P s b k) ∧ (k + 1 < pN P s → stP P ((pcP P s b k).foldl (fin P) z) s b k ∧ zE ((pcP P s b k).foldl (fin P) z) = zE z) ∧ (k + 1 = pN P s → zX ((pcP P s b k).foldl (fin P) z) = dXn P s b k ∧ zY ((pcP P s b k).foldl (fin P) z) = dYn P s b k ∧ zP ((pcP P s b k).foldl (fin P) z) = Int32.ofNat (pPen P s) ∧ zD ((pcP P s b k).foldl (fin P) z) = true ∧ zI ((pcP P s b k).foldl (fin P) z) = 0 ∧ zU ((pcP P s b k).foldl (fin P) z) = 0 ∧ zE ((pcP P s b k).foldl (fin P) z) = fun v => if v = s then some (zT z + tot (pcP P s b k)) else zE z v) ∧ ∀ v, v ≠ s → zC ((pcP P s b k).foldl (fin P) z) v = zC z v := by
  intro k
  induction k with
  | zero => intro _; exact ⟨trivial, fun _ => ⟨h, rfl⟩, fun z => by omega, fun _ _ => rfl⟩
  | succ k ih =>
    intro hk
    obtain ⟨i1, i2, -, i4⟩ := ih (by omega)
    obtain ⟨j1, j2⟩ := i2 (by omega)
    have e : pcP P s b (k + 1) = pcP P s b k ++ ((bif cor1 P s b k then [crP P s b k] else []) ++ [drP P s b k]) := List.append_assoc _ _ _
    generalize hz : (pcP P s b k).foldl (fin P) z = z1 at *
    have hT1 : zT z1 = zT z + tot (pcP P s b k) := by rw [← hz]; exact fold_T _ _
    obtain ⟨z2, q1, q2, q3, q4, q5⟩ : ∃ z2, okL P z1 (bif cor1 P s b k then [crP P s b k] else []) ∧ (bif cor1 P s b k then [crP P s b k] else []).foldl (fin P) z1 = z2 ∧ stP P z2 s b k ∧ zC z2 = zC z1 ∧ zE z2 = zE z1 := by
      cases cor1 P s b k
      · exact ⟨z1, trivial, rfl, j1, rfl, rfl⟩
      · obtain ⟨c1, c2, c3, c4⟩ := cr_ok W hs hb h2 (show k + 1 < pN P s by omega) j1
        exact ⟨_, ⟨c1, trivial⟩, rfl, c2, c3, c4⟩
    have hT2 : zT z2 = zT z1 + tot (bif cor1 P s b k then [crP P s b k] else []) := by rw [← q2]; exact fold_T _ _
    have d1 := dr_ok W hs hb h2 (show k + 1 < pN P s by omega) q3
    obtain ⟨d2, d3, d4⟩ := dr_st (P := P) q3
    have ef : (pcP P s b (k + 1)).foldl (fin P) z = fin P z2 (drP P s b k) := by rw [e, List.foldl_append, hz, List.foldl_append, q2]; rfl
    rw [ef]
    refine ⟨?_, fun hq => ?_, fun hq => ?_, fun v hv => ?_⟩
    · rw [e, okL_app, hz, okL_app, q2]
      exact ⟨i1, q1, d1, trivial⟩
    · obtain ⟨x1, x2⟩ := d2 (by omega)
      exact ⟨x1, by rw [x2, q5, j2]⟩
    · obtain ⟨x1, x2, x3, x4, x5, x6, x7⟩ := d3 (by omega)
      refine ⟨x1, x2, x3, x4, x5, x6, ?_⟩
      rw [x7, q5, j2, hT2, hT1, e, tot_app, tot_app, tot_one]
      funext v
      rw [show zT z + tot (pcP P s b k) + tot (bif cor1 P s b k then [crP P s b k] else []) + fL (drP P s b k) = zT z + (tot (pcP P s b k) + (tot (bif cor1 P s b k then [crP P s b k] else []) + fL (drP P s b k))) by omega]
    · rw [d4 v hv, q4, i4 v hv]
end AUT
