/-! THE PHASES OF A RUN: kind, how long, stroke (8: none), beginning, piece, from where, to where, with which pen -/
section PHS
abbrev dF : Type := Nat × Nat × Nat × Nat × Nat × Nat × Nat × Nat × Nat × Int32
def fK (f : dF) : Nat := f.1
def fL (f : dF) : Nat := f.2.1
def fS (f : dF) : Nat := f.2.2.1
def fB (f : dF) : Nat := f.2.2.2.1
def fJ (f : dF) : Nat := f.2.2.2.2.1
def fX (f : dF) : Nat := f.2.2.2.2.2.1
def fY (f : dF) : Nat := f.2.2.2.2.2.2.1
def gX (f : dF) : Nat := f.2.2.2.2.2.2.2.1
def gY (f : dF) : Nat := f.2.2.2.2.2.2.2.2.1
def fP (f : dF) : Int32 := f.2.2.2.2.2.2.2.2.2
def tot : List dF → Nat
  | [] => 0
  | f :: l => fL f + tot l
theorem tot_app (l m : List dF) : tot (l ++ m) = tot l + tot m := by
  induction l with
  | nil => show tot m = 0 + tot m; omega
  | cons f l ih => show fL f + tot (l ++ m) = fL f + tot l + tot m; omega
theorem tot_one (f : dF) : tot [f] = fL f := rfl
def bgP (P : dP) (s b x y : Nat) (pen : Int32) (dwn : Bool) : List dF :=
  bif dwn && (decide (pen = Int32.ofNat (pPen P s)) && (decide (x = dXn P s b 0) && decide (y = dYn P s b 0))) then [] else
    (bif dwn then [(0, pPr P 2, s, b, 0, x, y, x, y, pen)] else []) ++ (bif decide (pen = Int32.ofNat (pPen P s)) then [] else [(1, pPr P 3, s, b, 0, x, y, x, y, pen)]) ++ [(2, pPr P 1 * wayN x y (dXn P s b 0) (dYn P s b 0), s, b, 0, x, y, dXn P s b 0, dYn P s b 0, Int32.ofNat (pPen P s))] ++ [(3, pPr P 2, s, b, 0, dXn P s b 0, dYn P s b 0, dXn P s b 0, dYn P s b 0, Int32.ofNat (pPen P s))]
def wtP (P : dP) (s b w : Nat) : dF := (4, w, s, b, 0, dXn P s b 0, dYn P s b 0, dXn P s b 0, dYn P s b 0, Int32.ofNat (pPen P s))
def crP (P : dP) (s b k : Nat) : dF := (6, pPr P 4, s, b, k, dXn P s b k, dYn P s b k, dXn P s b k, dYn P s b k, Int32.ofNat (pPen P s))
def drP (P : dP) (s b k : Nat) : dF := (5, pPr P 0 * way1 P s b k, s, b, k, dXn P s b k, dYn P s b k, dXn P s b (k + 1), dYn P s b (k + 1), Int32.ofNat (pPen P s))
def pcP (P : dP) (s b : Nat) : Nat → List dF
  | 0 => []
  | k + 1 => pcP P s b k ++ (bif cor1 P s b k then [crP P s b k] else []) ++ [drP P s b k]
noncomputable def rdU (P : dP) (os en : Nat → Nat) (s : Nat) : Nat → Nat
  | 0 => 0
  | j + 1 => max (rdU P os en s j) (bif dcd (tch P s (os j)) then en j + pWet P (os j) else 0)
def pvX (P : dP) (A : dA) (os ob : Nat → Nat) : Nat → Nat
  | 0 => A.1
  | i + 1 => dXn P (os i) (ob i) (pN P (os i) - 1)
def pvY (P : dP) (A : dA) (os ob : Nat → Nat) : Nat → Nat
  | 0 => A.2.1
  | i + 1 => dYn P (os i) (ob i) (pN P (os i) - 1)
def pvP (P : dP) (A : dA) (os : Nat → Nat) : Nat → Int32
  | 0 => A.2.2
  | i + 1 => Int32.ofNat (pPen P (os i))
def bg1 (P : dP) (A : dA) (os ob : Nat → Nat) (i : Nat) : List dF := bgP P (os i) (ob i) (pvX P A os ob i) (pvY P A os ob i) (pvP P A os i) (Nat.blt 0 i)
noncomputable def blk (P : dP) (A : dA) (os ob en : Nat → Nat) (i W : Nat) : List dF := bg1 P A os ob i ++ [wtP P (os i) (ob i) (rdU P os en (os i) i - (W + tot (bg1 P A os ob i)))] ++ pcP P (os i) (ob i) (pN P (os i) - 1)
noncomputable def phE (P : dP) (A : dA) (os ob : Nat → Nat) : Nat → List dF × (Nat → Nat)
  | 0 => ([], fun _ => 0)
  | i + 1 => ((phE P A os ob i).1 ++ blk P A os ob (phE P A os ob i).2 i (tot (phE P A os ob i).1), fun j => if j = i then tot ((phE P A os ob i).1 ++ blk P A os ob (phE P A os ob i).2 i (tot (phE P A os ob i).1)) else (phE P A os ob i).2 j)
def ltP (P : dP) (A : dA) (os ob : Nat → Nat) (k : Nat) : dF := (0, pPr P 2, 8, 0, 0, pvX P A os ob k, pvY P A os ob k, pvX P A os ob k, pvY P A os ob k, pvP P A os k)
noncomputable def phZ (P : dP) (A : dA) (os ob : Nat → Nat) (k : Nat) : List dF := (phE P A os ob k).1 ++ [ltP P A os ob k]
def encS (s : Nat) : Int32 := if s = 8 then -1 else Int32.ofNat s
/-- the order of a plan: strokes that are there, with their beginnings, each but once -/
def OkO (P : dP) (os ob : Nat → Nat) (k : Nat) : Prop := k ≤ 8 ∧ (∀ i, i < k → os i < pM P ∧ ob i < bgn P (os i) ∧ 2 ≤ pN P (os i)) ∧ ∀ i j, i < k → j < k → os i = os j → i = j
variable {P : dP} {A : dA} {os ob : Nat → Nat}
theorem bgP_le (W : Wf P) {s b x y : Nat} {pen : Int32} {dwn : Bool} (hs : s < pM P) (h2 : 2 ≤ pN P s) (hx : x ≤ 500) (hy : y ≤ 500) : tot (bgP P s b x y pen dwn) ≤ 5697 ∧ (bgP P s b x y pen dwn).length ≤ 4 := by
  have X0 := dXn_le (b := b) (k := 0) W hs (by omega)
  have Y0 := dYn_le (b := b) (k := 0) W hs (by omega)
  have h1 := mul_9 (way_le hx hy X0 Y0) W.2.2.2.1.2
  rw [Nat.mul_comm] at h1
  have h3 := W.2.2.2.2.1
  have h4 := W.2.2.2.2.2.1
  unfold bgP
  cases (dwn && (decide (pen = Int32.ofNat (pPen P s)) && (decide (x = dXn P s b 0) && decide (y = dYn P s b 0))))
  · rw [cond_false]
    cases dwn <;> cases decide (pen = Int32.ofNat (pPen P s)) <;> simp only [cond_true, cond_false, tot_app, tot, fL, List.nil_append, List.length_append, List.length_cons, List.length_nil] <;> omega
  · exact ⟨Nat.zero_le _, Nat.zero_le _⟩
theorem pcP_tot (P : dP) (s b k : Nat) : tot (pcP P s b k) = tkU P s b k := by
  induction k with
  | zero => rfl
  | succ k ih =>
    show tot (pcP P s b k ++ (bif cor1 P s b k then [crP P s b k] else []) ++ [drP P s b k]) = tkU P s b k + way1 P s b k * pPr P 0 + (bif cor1 P s b k then pPr P 4 else 0)
    rw [tot_app, tot_app, ih, tot_one]
    have e : fL (drP P s b k) = way1 P s b k * pPr P 0 := Nat.mul_comm _ _
    cases cor1 P s b k
    · show tkU P s b k + 0 + fL (drP P s b k) = tkU P s b k + way1 P s b k * pPr P 0 + 0
      omega
    · show tkU P s b k + (pPr P 4 + 0) + fL (drP P s b k) = tkU P s b k + way1 P s b k * pPr P 0 + pPr P 4
      omega
theorem pcP_len (P : dP) (s b k : Nat) : (pcP P s b k).length ≤ 2 * k - (if k = 0 then 0 else 1) := by
  induction k with
  | zero => exact Nat.le_refl _
  | succ k ih =>
    show (pcP P s b k ++ (bif cor1 P s b k then [crP P s b k] else []) ++ [drP P s b k]).length ≤ _
    rw [List.length_append, List.length_append, List.length_singleton, if_neg (by omega)]
    by_cases hk : k = 0
    · subst hk
      exact Nat.le_refl 1
    · rw [if_neg hk] at ih
      cases cor1 P s b k
      · show _ + 0 + 1 ≤ _; omega
      · show _ + 1 + 1 ≤ _; omega
theorem pv_le (W : Wf P) {k i : Nat} (hO : OkO P os ob k) (hx : A.1 ≤ 500) (hy : A.2.1 ≤ 500) (hi : i ≤ k) : pvX P A os ob i ≤ 500 ∧ pvY P A os ob i ≤ 500 := by
  cases i with
  | zero => exact ⟨hx, hy⟩
  | succ i =>
    obtain ⟨h1, h2, h3⟩ := hO.2.1 i (by omega)
    exact ⟨dXn_le W h1 (by omega), dYn_le W h1 (by omega)⟩
theorem rdU_le {en : Nat → Nat} {s i w : Nat} (h : ∀ j, j < i → en j + pWet P (os j) ≤ w) : rdU P os en s i ≤ w := by
  induction i with
  | zero => exact Nat.zero_le _
  | succ i ih =>
    show max (rdU P os en s i) (bif dcd (tch P s (os i)) then en i + pWet P (os i) else 0) ≤ w
    have h1 := ih fun j hj => h j (by omega)
    have h2 := h i (by omega)
    cases dcd (tch P s (os i))
    · show max _ 0 ≤ w; omega
    · show max _ (en i + pWet P (os i)) ≤ w; omega
theorem phE_en (i j : Nat) (h : j < i) : (phE P A os ob i).2 j = tot (phE P A os ob (j + 1)).1 := by
  induction i with
  | zero => omega
  | succ i ih =>
    show (if j = i then _ else (phE P A os ob i).2 j) = _
    by_cases e : j = i
    · subst e; rw [if_pos rfl]; rfl
    · rw [if_neg e]; exact ih (by omega)
theorem phE_app (i : Nat) : (phE P A os ob (i + 1)).1 = (phE P A os ob i).1 ++ blk P A os ob (phE P A os ob i).2 i (tot (phE P A os ob i).1) := rfl
theorem phE_mono {i j : Nat} (h : j ≤ i) : tot (phE P A os ob j).1 ≤ tot (phE P A os ob i).1 := by
  induction i with
  | zero => rw [show j = 0 by omega]; exact Nat.le_refl _
  | succ i ih =>
    by_cases e : j = i + 1
    · rw [e]; exact Nat.le_refl _
    · rw [phE_app, tot_app]
      have := ih (by omega)
      omega
theorem blk_le (W : Wf P) {k i : Nat} (hO : OkO P os ob k) (hx : A.1 ≤ 500) (hy : A.2.1 ≤ 500) (hi : i < k) : tot (blk P A os ob (phE P A os ob i).2 i (tot (phE P A os ob i).1)) ≤ 57286 ∧ (blk P A os ob (phE P A os ob i).2 i (tot (phE P A os ob i).1)).length ≤ 26 := by
  obtain ⟨h1, h2, h3⟩ := hO.2.1 i hi
  have pv := pv_le (A := A) W hO hx hy (show i ≤ k by omega)
  have hb := bgP_le (b := ob i) (pen := pvP P A os i) (dwn := Nat.blt 0 i) W h1 h3 pv.1 pv.2
  have hn := (W.2.1 _ h1).1
  have hr : rdU P os (phE P A os ob i).2 (os i) i ≤ tot (phE P A os ob i).1 + 1000 := rdU_le fun j hj => by
    rw [phE_en i j hj]
    have := phE_mono (P := P) (A := A) (os := os) (ob := ob) (show j + 1 ≤ i by omega)
    have := (W.2.1 _ (hO.2.1 j (by omega)).1).2.2.1
    omega
  have ht := tkU_le (b := ob i) (j := pN P (os i) - 1) W h1 (by omega)
  have hl := pcP_len P (os i) (ob i) (pN P (os i) - 1)
  rw [if_neg (by omega)] at hl
  unfold blk
  rw [tot_app, tot_app, pcP_tot, tot_one, List.length_append, List.length_append, List.length_singleton]
  unfold bg1
  constructor
  · show _ + (rdU P os (phE P A os ob i).2 (os i) i - (tot (phE P A os ob i).1 + _)) + _ ≤ _
    omega
  · omega
theorem phE_le (W : Wf P) {k : Nat} (hO : OkO P os ob k) (hx : A.1 ≤ 500) (hy : A.2.1 ≤ 500) : ∀ i, i ≤ k → tot (phE P A os ob i).1 ≤ 57286 * i ∧ (phE P A os ob i).1.length ≤ 26 * i := by
  intro i
  induction i with
  | zero => intro _; exact ⟨Nat.le_refl _, Nat.le_refl _⟩
  | succ i ih =>
    intro hi
    have h1 := ih (by omega)
    have h2 := blk_le (A := A) W hO hx hy (show i < k by omega)
    rw [phE_app, tot_app, List.length_append]
    omega
end PHS
