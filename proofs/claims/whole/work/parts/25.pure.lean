/-! THE PICTURE: strokes, points, pens, wet, left, cut, over, prices, as plain numbers; what both sides compute of it -/
section PURE
abbrev dP : Type := Nat × (Nat → Nat) × (Nat → Nat → Nat) × (Nat → Nat → Nat) × (Nat → Nat) × (Nat → Nat) × (Nat → Bool) × (Nat → Bool) × (Nat → Nat → Bool) × (Nat → Nat)
def pM (P : dP) : Nat := P.1
def pN (P : dP) (s : Nat) : Nat := P.2.1 s
def pX (P : dP) (s k : Nat) : Nat := P.2.2.1 s k
def pY (P : dP) (s k : Nat) : Nat := P.2.2.2.1 s k
def pPen (P : dP) (s : Nat) : Nat := P.2.2.2.2.1 s
def pWet (P : dP) (s : Nat) : Nat := P.2.2.2.2.2.1 s
def pLf (P : dP) (s : Nat) : Bool := P.2.2.2.2.2.2.1 s
def pCut (P : dP) (s : Nat) : Bool := P.2.2.2.2.2.2.2.1 s
def pOv (P : dP) (s o : Nat) : Bool := P.2.2.2.2.2.2.2.2.1 s o
def pPr (P : dP) (j : Nat) : Nat := P.2.2.2.2.2.2.2.2.2 j
def clo (P : dP) (s : Nat) : Bool := !pCut P s && (decide (4 ≤ pN P s) && (decide (pX P s 0 = pX P s (pN P s - 1)) && decide (pY P s 0 = pY P s (pN P s - 1))))
def bgn (P : dP) (s : Nat) : Nat := bif clo P s then pN P s - 1 else 2
def drw (P : dP) (s b k : Nat) : Nat := bif clo P s then (b + k) % (pN P s - 1) else if b = 0 then k else pN P s - 1 - k
def dXn (P : dP) (s b k : Nat) : Nat := pX P s (drw P s b k)
def dYn (P : dP) (s b k : Nat) : Nat := pY P s (drw P s b k)
def ad (a b : Nat) : Nat := (a - b) + (b - a)
def wayN (a b c d : Nat) : Nat := max (ad a c) (ad b d)
def cornI (ux uy vx vy : Int) : Bool := decide (ux * vy ≠ uy * vx) || decide (ux * vx + uy * vy < 0)
def cor (P : dP) (s b k : Nat) : Bool := cornI ((dXn P s b k : Int) - dXn P s b (k - 1)) ((dYn P s b k : Int) - dYn P s b (k - 1)) ((dXn P s b (k + 1) : Int) - dXn P s b k) ((dYn P s b (k + 1) : Int) - dYn P s b k)
def way1 (P : dP) (s b j : Nat) : Nat := wayN (dXn P s b j) (dYn P s b j) (dXn P s b (j + 1)) (dYn P s b (j + 1))
def cor1 (P : dP) (s b j : Nat) : Bool := Nat.blt 0 j && cor P s b j
def tkU (P : dP) (s b : Nat) : Nat → Nat
  | 0 => 0
  | j + 1 => tkU P s b j + way1 P s b j * pPr P 0 + (bif cor1 P s b j then pPr P 4 else 0)
def tkN (P : dP) (s b : Nat) : Nat := tkU P s b (pN P s - 1)
/-- over as a mask -/
def ovm (P : dP) (s : Nat) : Nat → Nat
  | 0 => 0
  | o + 1 => ovm P s o + (bif pOv P s o then 2 ^ o else 0)
/-- what holds of every picture -/
def Wfs (P : dP) (s : Nat) : Prop := pN P s ≤ 12 ∧ pPen P s ≤ 3 ∧ pWet P s ≤ 1000 ∧ (∀ k, k < pN P s → pX P s k ≤ 500 ∧ pY P s k ≤ 500) ∧ (∀ k, k + 1 < pN P s → pX P s k ≠ pX P s (k + 1) ∨ pY P s k ≠ pY P s (k + 1))
def Wf (P : dP) : Prop := pM P ≤ 8 ∧ (∀ s, s < pM P → Wfs P s) ∧ (1 ≤ pPr P 0 ∧ pPr P 0 ≤ 9) ∧ (1 ≤ pPr P 1 ∧ pPr P 1 ≤ 9) ∧ pPr P 2 ≤ 99 ∧ pPr P 3 ≤ 999 ∧ pPr P 4 ≤ 99 ∧ ∀ s o, pOv P s o = true → s < pM P ∧ o < pM P ∧ s ≠ o
theorem i_sI (a b : Nat) : Int32.ofNat a - Int32.ofNat b = Int32.ofInt ((a : Int) - b) := by rw [Int32.ofInt_sub, Int32.ofInt_eq_ofNat, Int32.ofInt_eq_ofNat]
theorem z_mul (a b : Int) : Int32.ofInt a * Int32.ofInt b = Int32.ofInt (a * b) := (Int32.ofInt_mul a b).symm
theorem z_add (a b : Int) : Int32.ofInt a + Int32.ofInt b = Int32.ofInt (a + b) := (Int32.ofInt_add a b).symm
theorem z_sub (a b : Int) : Int32.ofInt a - Int32.ofInt b = Int32.ofInt (a - b) := (Int32.ofInt_sub a b).symm
theorem z_toI {z : Int} (h : -2147483648 ≤ z ∧ z < 2147483648) : (Int32.ofInt z).toInt = z := Int32.toInt_ofInt_of_le (by omega) (by omega)
theorem z_lt {a b : Int} (ha : -2147483648 ≤ a ∧ a < 2147483648) (hb : -2147483648 ≤ b ∧ b < 2147483648) : (Int32.ofInt a < Int32.ofInt b) = (a < b) := by rw [Int32.lt_iff_toInt_lt, z_toI ha, z_toI hb]
theorem z_le {a b : Int} (ha : -2147483648 ≤ a ∧ a < 2147483648) (hb : -2147483648 ≤ b ∧ b < 2147483648) : (Int32.ofInt a ≤ Int32.ofInt b) = (a ≤ b) := by rw [Int32.le_iff_toInt_le, z_toI ha, z_toI hb]
theorem z_eq {a b : Int} (ha : -2147483648 ≤ a ∧ a < 2147483648) (hb : -2147483648 ≤ b ∧ b < 2147483648) : (Int32.ofInt a = Int32.ofInt b) = (a = b) := by rw [← Int32.toInt_inj, z_toI ha, z_toI hb]
theorem z_0 : (0 : Int32) = Int32.ofInt 0 := rfl
theorem mulb {a b : Int} (ha : -500 ≤ a ∧ a ≤ 500) (hb : -500 ≤ b ∧ b ≤ 500) : -250000 ≤ a * b ∧ a * b ≤ 250000 := by
  have h1 : a.natAbs ≤ 500 := by omega
  have h2 : b.natAbs ≤ 500 := by omega
  have h3 := Nat.mul_le_mul h1 h2
  rw [← Int.natAbs_mul] at h3
  omega
theorem i_abs {a b : Nat} (ha : a ≤ 500) (hb : b ≤ 500) : (if 0 ≤ Int32.ofNat a - Int32.ofNat b then Int32.ofNat a - Int32.ofNat b else 0 - (Int32.ofNat a - Int32.ofNat b)) = Int32.ofNat (ad a b) := by
  simp (disch := omega) only [i_sI, z_0, z_le, z_sub]
  rw [← Int32.ofInt_eq_ofNat, ad]
  split
  · congr 1; omega
  · congr 1; omega
theorem i_max {a b : Nat} (ha : a < 2 ^ 31) (hb : b < 2 ^ 31) : (if Int32.ofNat a < Int32.ofNat b then Int32.ofNat b else Int32.ofNat a) = Int32.ofNat (max a b) := by
  simp only [i_lt ha hb]
  split
  · rw [Nat.max_eq_right (by omega)]
  · rw [Nat.max_eq_left (by omega)]
theorem i_min {a b : Nat} (ha : a < 2 ^ 31) (hb : b < 2 ^ 31) : (if Int32.ofNat b < Int32.ofNat a then Int32.ofNat b else Int32.ofNat a) = Int32.ofNat (min a b) := by
  simp only [i_lt hb ha]
  split
  · rw [Nat.min_eq_right (by omega)]
  · rw [Nat.min_eq_left (by omega)]
theorem ad_le {a b : Nat} (ha : a ≤ 500) (hb : b ≤ 500) : ad a b ≤ 500 := by unfold ad; omega
theorem ad_comm (a b : Nat) : ad a b = ad b a := by unfold ad; omega
theorem ad_0 {a b : Nat} : ad a b = 0 ↔ a = b := by unfold ad; omega
theorem way_le {a b c d : Nat} (ha : a ≤ 500) (hb : b ≤ 500) (hc : c ≤ 500) (hd : d ≤ 500) : wayN a b c d ≤ 500 := Nat.max_le.mpr ⟨ad_le ha hc, ad_le hb hd⟩
theorem way_comm (a b c d : Nat) : wayN a b c d = wayN c d a b := by unfold wayN; rw [ad_comm a c, ad_comm b d]
theorem way_0 {a b c d : Nat} : wayN a b c d = 0 ↔ a = c ∧ b = d := by
  unfold wayN ad
  omega
theorem i_way {a b c d : Nat} (ha : a ≤ 500) (hb : b ≤ 500) (hc : c ≤ 500) (hd : d ≤ 500) : (if (if 0 ≤ Int32.ofNat a - Int32.ofNat c then Int32.ofNat a - Int32.ofNat c else 0 - (Int32.ofNat a - Int32.ofNat c)) < (if 0 ≤ Int32.ofNat b - Int32.ofNat d then Int32.ofNat b - Int32.ofNat d else 0 - (Int32.ofNat b - Int32.ofNat d)) then (if 0 ≤ Int32.ofNat b - Int32.ofNat d then Int32.ofNat b - Int32.ofNat d else 0 - (Int32.ofNat b - Int32.ofNat d)) else (if 0 ≤ Int32.ofNat a - Int32.ofNat c then Int32.ofNat a - Int32.ofNat c else 0 - (Int32.ofNat a - Int32.ofNat c))) = Int32.ofNat (wayN a b c d) := by
  have h1 := ad_le ha hc
  have h2 := ad_le hb hd
  rw [i_abs ha hc, i_abs hb hd, i_max (by omega) (by omega), wayN]
variable {P : dP} (W : Wf P)
theorem clo_n {s : Nat} (h : clo P s = true) : 4 ≤ pN P s := by
  simp only [clo, Bool.and_eq_true, decide_eq_true_eq] at h
  exact h.2.1
theorem bgn_le {s : Nat} (h2 : 2 ≤ pN P s) (h12 : pN P s ≤ 12) : 2 ≤ bgn P s ∧ bgn P s ≤ 11 := by
  unfold bgn
  cases h : clo P s
  · show 2 ≤ 2 ∧ 2 ≤ 11
    omega
  · have := clo_n h
    show 2 ≤ pN P s - 1 ∧ pN P s - 1 ≤ 11
    omega
theorem drw_lt {s b k : Nat} (hk : k < pN P s) : drw P s b k < pN P s := by
  unfold drw
  cases h : clo P s
  · show (if b = 0 then k else pN P s - 1 - k) < _
    split <;> omega
  · have := clo_n h
    show (b + k) % (pN P s - 1) < _
    have h2 := Nat.mod_lt (b + k) (show 0 < pN P s - 1 by omega)
    omega
theorem pX_le {s k : Nat} (W : Wf P) (hs : s < pM P) (hk : k < pN P s) : pX P s k ≤ 500 := ((W.2.1 s hs).2.2.2.1 k hk).1
theorem pY_le {s k : Nat} (W : Wf P) (hs : s < pM P) (hk : k < pN P s) : pY P s k ≤ 500 := ((W.2.1 s hs).2.2.2.1 k hk).2
theorem dXn_le {s b k : Nat} (W : Wf P) (hs : s < pM P) (hk : k < pN P s) : dXn P s b k ≤ 500 := pX_le W hs (drw_lt hk)
theorem dYn_le {s b k : Nat} (W : Wf P) (hs : s < pM P) (hk : k < pN P s) : dYn P s b k ≤ 500 := pY_le W hs (drw_lt hk)
theorem way1_le {s b j : Nat} (W : Wf P) (hs : s < pM P) (hj : j + 1 < pN P s) : way1 P s b j ≤ 500 := way_le (dXn_le W hs (by omega)) (dYn_le W hs (by omega)) (dXn_le W hs hj) (dYn_le W hs hj)
theorem mul_9 {a b : Nat} (ha : a ≤ 500) (hb : b ≤ 9) : a * b ≤ 4500 := Nat.mul_le_mul ha hb
theorem tkU_le {s b j : Nat} (W : Wf P) (hs : s < pM P) (hj : j < pN P s) : tkU P s b j ≤ j * 4599 := by
  induction j with
  | zero => exact Nat.le_refl _
  | succ j ih =>
    have h1 := ih (by omega)
    have h2 := mul_9 (way1_le (b := b) W hs hj) W.2.2.1.2
    have h3 := W.2.2.2.2.2.2.1
    show tkU P s b j + way1 P s b j * pPr P 0 + (bif cor1 P s b j then pPr P 4 else 0) ≤ (j + 1) * 4599
    cases cor1 P s b j
    · show _ + 0 ≤ _
      omega
    · show _ + pPr P 4 ≤ _
      omega
theorem tkN_le {s b : Nat} (W : Wf P) (hs : s < pM P) (h1 : 1 ≤ pN P s) : tkN P s b ≤ 50589 := by
  have h := tkU_le (b := b) (j := pN P s - 1) W hs (by omega)
  have h2 := (W.2.1 s hs).1
  unfold tkN
  omega
theorem i_corn {a b a' b' c e : Nat} (h1 : a ≤ 500) (h2 : b ≤ 500) (h3 : a' ≤ 500) (h4 : b' ≤ 500) (h5 : c ≤ 500) (h6 : e ≤ 500) {α : Type} (F T : α) :
    (if (Int32.ofNat a - Int32.ofNat a') * (Int32.ofNat e - Int32.ofNat b) = (Int32.ofNat b - Int32.ofNat b') * (Int32.ofNat c - Int32.ofNat a) then (if 0 ≤ (Int32.ofNat a - Int32.ofNat a') * (Int32.ofNat c - Int32.ofNat a) + (Int32.ofNat b - Int32.ofNat b') * (Int32.ofNat e - Int32.ofNat b) then F else T) else T)
      = bif cornI ((a : Int) - a') ((b : Int) - b') ((c : Int) - a) ((e : Int) - b) then T else F := by
  have m1 := mulb (a := (a : Int) - a') (b := (e : Int) - b) (by omega) (by omega)
  have m2 := mulb (a := (b : Int) - b') (b := (c : Int) - a) (by omega) (by omega)
  have m3 := mulb (a := (a : Int) - a') (b := (c : Int) - a) (by omega) (by omega)
  have m4 := mulb (a := (b : Int) - b') (b := (e : Int) - b) (by omega) (by omega)
  simp (disch := omega) only [i_sI, z_mul, z_add, z_0, z_eq, z_le]
  unfold cornI
  by_cases q1 : ((a : Int) - a') * ((e : Int) - b) = ((b : Int) - b') * ((c : Int) - a)
  · by_cases q2 : 0 ≤ ((a : Int) - a') * ((c : Int) - a) + ((b : Int) - b') * ((e : Int) - b)
    · rw [if_pos q1, if_pos q2, decide_eq_false (show ¬ _ ≠ _ from fun z => z q1), decide_eq_false (by omega)]
      rfl
    · rw [if_pos q1, if_neg q2, decide_eq_true (show _ < (0 : Int) by omega), Bool.or_true]
      rfl
  · rw [if_neg q1, decide_eq_true (show _ ≠ _ from q1)]
    rfl
end PURE
