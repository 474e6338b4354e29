/-! THE PLAN: what is the least sum, which order is the due one, and that there is but one such -/
section PLN
abbrev dA : Type := Nat × Nat × Int32
def tbW (P : dP) (down same : Bool) (w : Nat) : Nat := bif down && (same && decide (w = 0)) then 0 else (bif down then pPr P 2 else 0) + (bif same then 0 else pPr P 3) + w * pPr P 1 + pPr P 2
def tbF (P : dP) (A : dA) (f s b : Nat) : Nat := if f = 88 then tbW P false (decide (A.2.2 = Int32.ofNat (pPen P s))) (wayN A.1 A.2.1 (dXn P s b 0) (dYn P s b 0)) else tbW P true (decide (pPen P (f / 11) = pPen P s)) (wayN (dXn P (f / 11) (f % 11) (pN P (f / 11) - 1)) (dYn P (f / 11) (f % 11) (pN P (f / 11) - 1)) (dXn P s b 0) (dYn P s b 0))
def cand (P : dP) (all set s : Nat) : Prop := s < pM P ∧ all.testBit s = true ∧ set.testBit s = false ∧ ∀ o, o < pM P → pOv P s o = true → all.testBit o = true → set.testBit o = true
abbrev dTab : Type := Nat → Nat → Option Nat
def IsB (P : dP) (A : dA) (all : Nat) (R : dTab) (set f : Nat) (v : Option Nat) : Prop :=
  (set = all → v = some (if f = 88 then 0 else pPr P 2)) ∧ (set ≠ all → (∀ w, v = some w → ∃ s b r, cand P all set s ∧ b < bgn P s ∧ R (set ||| 2 ^ s) (11 * s + b) = some r ∧ w = tbF P A f s b + tkN P s b + r) ∧
    ∀ s b r, cand P all set s → b < bgn P s → R (set ||| 2 ^ s) (11 * s + b) = some r → ∃ w, v = some w ∧ w ≤ tbF P A f s b + tkN P s b + r)
def sub (a b : Nat) : Prop := ∀ s, a.testBit s = true → b.testBit s = true
def inO (P : dP) (all set : Nat) : Prop := ∀ s, set.testBit s = true → ∀ o, o < pM P → pOv P s o = true → all.testBit o = true → set.testBit o = true
def TabI (P : dP) (A : dA) (all : Nat) (R : dTab) : Prop := ∀ set, set < 256 → sub set all → inO P all set → ∀ s b, set.testBit s = true → b < bgn P s → IsB P A all R set (11 * s + b) (R set (11 * s + b))
variable {P : dP} {A : dA} {all set f s b : Nat} {R R' : dTab}
theorem IsB_uniq {v v' : Option Nat} (h : IsB P A all R set f v) (h' : IsB P A all R' set f v') (e : ∀ s b, cand P all set s → b < bgn P s → R (set ||| 2 ^ s) (11 * s + b) = R' (set ||| 2 ^ s) (11 * s + b)) : v = v' := by
  by_cases hs : set = all
  · rw [h.1 hs, h'.1 hs]
  · obtain ⟨a1, a2⟩ := h.2 hs
    obtain ⟨b1, b2⟩ := h'.2 hs
    cases v with
    | none =>
      cases v' with
      | none => rfl
      | some w =>
        obtain ⟨s, b, r, c1, c2, c3, -⟩ := b1 w rfl
        obtain ⟨w2, c5, -⟩ := a2 s b r c1 c2 (by rw [e s b c1 c2]; exact c3)
        cases c5
    | some w =>
      obtain ⟨s, b, r, c1, c2, c3, c4⟩ := a1 w rfl
      obtain ⟨w2, c5, c6⟩ := b2 s b r c1 c2 (by rw [← e s b c1 c2]; exact c3)
      subst c5
      obtain ⟨s', b', r', d1, d2, d3, d4⟩ := b1 w2 rfl
      obtain ⟨w3, d5, d6⟩ := a2 s' b' r' d1 d2 (by rw [e s' b' d1 d2]; exact d3)
      cases d5
      rw [show w = w2 by omega]
theorem IsB_congr {v : Option Nat} (h : IsB P A all R set f v) (e : ∀ s b, cand P all set s → b < bgn P s → R (set ||| 2 ^ s) (11 * s + b) = R' (set ||| 2 ^ s) (11 * s + b)) : IsB P A all R' set f v := by
  refine ⟨h.1, fun hs => ?_⟩
  obtain ⟨a1, a2⟩ := h.2 hs
  refine ⟨fun w hw => ?_, fun s b r h1 h2 h3 => a2 s b r h1 h2 (by rw [e s b h1 h2]; exact h3)⟩
  obtain ⟨s, b, r, c1, c2, c3, c4⟩ := a1 w hw
  exact ⟨s, b, r, c1, c2, by rw [← e s b c1 c2]; exact c3, c4⟩
theorem or_tb (a s q : Nat) : (a ||| 2 ^ s).testBit q = (a.testBit q || decide (s = q)) := by rw [Nat.testBit_or, Nat.testBit_two_pow]
theorem or_lt {a s : Nat} (ha : a < 256) (hs : s < 8) : a ||| 2 ^ s < 256 := Nat.or_lt_two_pow (n := 8) ha (Nat.pow_lt_pow_right (by decide) hs)
theorem or_gt {a s : Nat} (h : a.testBit s = false) : a < a ||| 2 ^ s := by
  have h1 : a ≤ a ||| 2 ^ s := Nat.left_le_or
  have h2 : a ≠ a ||| 2 ^ s := fun z => by
    have := congrArg (fun n => n.testBit s) z
    simp only [or_tb, h, decide_true, Bool.or_true] at this
    cases this
  omega
theorem cand_sub (h : cand P all set s) (hs : sub set all) : sub (set ||| 2 ^ s) all := fun q hq => by
  rw [or_tb, Bool.or_eq_true, decide_eq_true_eq] at hq
  rcases hq with hq | rfl
  · exact hs q hq
  · exact h.2.1
theorem cand_inO (h : cand P all set s) (hs : inO P all set) : inO P all (set ||| 2 ^ s) := fun q hq o ho h1 h2 => by
  rw [or_tb, Bool.or_eq_true, decide_eq_true_eq] at hq
  rw [or_tb, Bool.or_eq_true]
  rcases hq with hq | rfl
  · exact Or.inl (hs q hq o ho h1 h2)
  · exact Or.inl (h.2.2.2 o ho h1 h2)
theorem cand_tb (P : dP) (set s : Nat) : (set ||| 2 ^ s).testBit s = true := by rw [or_tb, decide_eq_true rfl, Bool.or_true]
theorem Tab_uniq (W : Wf P) (h : TabI P A all R) (h' : TabI P A all R') : ∀ n set, 256 ≤ n + set → set < 256 → sub set all → inO P all set → ∀ s b, set.testBit s = true → b < bgn P s → R set (11 * s + b) = R' set (11 * s + b) := by
  intro n
  induction n with
  | zero => intro set h1 h2; omega
  | succ n ih =>
    intro set h1 h2 h3 h4 s b hs hb
    refine IsB_uniq (h set h2 h3 h4 s b hs hb) (h' set h2 h3 h4 s b hs hb) fun q c hq hc => ?_
    have hq8 : q < 8 := Nat.lt_of_lt_of_le hq.1 W.1
    exact ih _ (by have := or_gt hq.2.2.1; omega) (or_lt h2 hq8) (cand_sub hq h3) (cand_inO hq h4) q c (cand_tb P set q) hc
def IsF (P : dP) (A : dA) (all : Nat) (R : dTab) (set f s b : Nat) : Prop := cand P all set s ∧ b < bgn P s ∧ ∃ r, R (set ||| 2 ^ s) (11 * s + b) = some r ∧ IsB P A all R set f (some (tbF P A f s b + tkN P s b + r)) ∧ ∀ s' b' r', cand P all set s' → b' < bgn P s' → 11 * s' + b' < 11 * s + b → R (set ||| 2 ^ s') (11 * s' + b') = some r' → tbF P A f s b + tkN P s b + r < tbF P A f s' b' + tkN P s' b' + r'
theorem IsF_uniq {s' b' : Nat} (h : IsF P A all R set f s b) (h' : IsF P A all R' set f s' b') (e : ∀ s b, cand P all set s → b < bgn P s → R (set ||| 2 ^ s) (11 * s + b) = R' (set ||| 2 ^ s) (11 * s + b)) : 11 * s + b = 11 * s' + b' := by
  obtain ⟨c1, c2, r, c3, c4, c5⟩ := h
  obtain ⟨d1, d2, r', d3, d4, d5⟩ := h'
  have ev := IsB_uniq c4 d4 e
  rcases Nat.lt_trichotomy (11 * s + b) (11 * s' + b') with q | q | q
  · have := d5 s b r c1 c2 q (by rw [← e s b c1 c2]; exact c3)
    injection ev with ev; omega
  · exact q
  · have := c5 s' b' r' d1 d2 q (by rw [e s' b' d1 d2]; exact d3)
    injection ev with ev; omega
def pS (os : Nat → Nat) : Nat → Nat
  | 0 => 0
  | i + 1 => pS os i ||| 2 ^ os i
def pF (os ob : Nat → Nat) : Nat → Nat
  | 0 => 88
  | i + 1 => 11 * os i + ob i
/-- the due plan: its sum, how many, which strokes, with which beginnings -/
def IsPlan (P : dP) (A : dA) (all : Nat) (sum : Option Nat) (k : Nat) (os ob : Nat → Nat) : Prop :=
  ∃ R, TabI P A all R ∧ IsB P A all R 0 88 sum ∧ (sum = none → k = 0) ∧ (sum ≠ none → pS os k = all ∧ ∀ i, i < k → IsF P A all R (pS os i) (pF os ob i) (os i) (ob i))
theorem pS_ok (W : Wf P) {os ob : Nat → Nat} {k : Nat} (h : ∀ i, i < k → IsF P A all R (pS os i) (pF os ob i) (os i) (ob i)) : ∀ i, i ≤ k → pS os i < 256 ∧ sub (pS os i) all ∧ inO P all (pS os i) := by
  intro i
  induction i with
  | zero =>
    intro _
    have z : ∀ s, (pS os 0).testBit s = true → False := fun s hs => by
      rw [show pS os 0 = 0 from rfl, Nat.zero_testBit] at hs
      exact absurd hs (by decide)
    exact ⟨(by decide : (0 : Nat) < 256), fun s hs => (z s hs).elim, fun s hs => (z s hs).elim⟩
  | succ i ih =>
    intro hi
    obtain ⟨a, b, c⟩ := ih (by omega)
    have hc := (h i (by omega)).1
    exact ⟨or_lt a (Nat.lt_of_lt_of_le hc.1 W.1), cand_sub hc b, cand_inO hc c⟩
theorem sub_eq {a b : Nat} (h : a = b) (hc : cand P b a s) : False := by
  subst h
  have h1 := hc.2.1
  rw [hc.2.2.1] at h1
  exact absurd h1 (by decide)
theorem IsPlan_uniq (W : Wf P) {sum sum' : Option Nat} {k k' : Nat} {os ob os' ob' : Nat → Nat} (hb11 : ∀ s, s < pM P → all.testBit s = true → bgn P s ≤ 11) (h : IsPlan P A all sum k os ob) (h' : IsPlan P A all sum' k' os' ob') : sum = sum' ∧ k = k' ∧ ∀ i, i < k → os i = os' i ∧ ob i = ob' i := by
  obtain ⟨R, t1, t2, t3, t4⟩ := h
  obtain ⟨R', u1, u2, u3, u4⟩ := h'
  have e0 : ∀ set, set < 256 → sub set all → inO P all set → ∀ s b, cand P all set s → b < bgn P s → R (set ||| 2 ^ s) (11 * s + b) = R' (set ||| 2 ^ s) (11 * s + b) := fun set a1 a2 a3 s b hs hb =>
    Tab_uniq W t1 u1 256 _ (by omega) (or_lt a1 (Nat.lt_of_lt_of_le hs.1 W.1)) (cand_sub hs a2) (cand_inO hs a3) s b (cand_tb P set s) hb
  have z : ∀ s, (0 : Nat).testBit s = true → False := fun s hs => by rw [Nat.zero_testBit] at hs; cases hs
  have es : sum = sum' := IsB_uniq t2 u2 (e0 0 (by decide) (fun s hs => absurd hs (z s)) (fun s hs => absurd hs (z s)))
  refine ⟨es, ?_⟩
  cases hsum : sum with
  | none => rw [t3 hsum, u3 (es ▸ hsum)]; exact ⟨rfl, fun i hi => absurd hi (Nat.not_lt_zero i)⟩
  | some w =>
    obtain ⟨p1, p2⟩ := t4 (by rw [hsum]; exact Option.some_ne_none w)
    obtain ⟨q1, q2⟩ := u4 (by rw [← es, hsum]; exact Option.some_ne_none w)
    have ok := pS_ok W p2
    have step : ∀ i, i ≤ k → i ≤ k' → (∀ j, j < i → os j = os' j ∧ ob j = ob' j) ∧ pS os i = pS os' i ∧ pF os ob i = pF os' ob' i := by
      intro i
      induction i with
      | zero => intro _ _; exact ⟨fun j hj => absurd hj (Nat.not_lt_zero j), rfl, rfl⟩
      | succ i ih =>
        intro h1 h2
        obtain ⟨a1, a2, a3⟩ := ih (by omega) (by omega)
        obtain ⟨o1, o2, o3⟩ := ok i (by omega)
        have f1 := p2 i (by omega)
        have f2 := q2 i (by omega)
        rw [← a2, ← a3] at f2
        have f3 := IsF_uniq f1 f2 (e0 _ o1 o2 o3)
        have b1 := hb11 (os i) f1.1.1 f1.1.2.1
        have b2 := hb11 (os' i) f2.1.1 f2.1.2.1
        have b3 := f1.2.1
        have b4 := f2.2.1
        have hs : os i = os' i := by omega
        have hb : ob i = ob' i := by omega
        refine ⟨fun j hj => ?_, ?_, ?_⟩
        · by_cases hji : j = i
          · subst hji; exact ⟨hs, hb⟩
          · exact a1 j (by omega)
        · show pS os i ||| 2 ^ os i = pS os' i ||| 2 ^ os' i
          rw [a2, hs]
        · show 11 * os i + ob i = 11 * os' i + ob' i
          rw [hs, hb]
    have hk : k = k' := by
      rcases Nat.lt_trichotomy k k' with hlt | heq | hgt
      · have := (step k (Nat.le_refl _) (by omega)).2.1
        exact (sub_eq (this ▸ p1) (q2 k hlt).1).elim
      · exact heq
      · have := (step k' (by omega) (Nat.le_refl _)).2.1
        exact (sub_eq (this ▸ q1 : pS os k' = all) (p2 k' hgt).1).elim
    exact ⟨hk, (step k (Nat.le_refl _) (by omega)).1⟩
theorem tbW_le (W : Wf P) {down same : Bool} {w : Nat} (hw : w ≤ 500) : tbW P down same w ≤ 5697 := by
  have h1 := mul_9 hw W.2.2.2.1.2
  have h2 := W.2.2.2.2.1
  have h3 := W.2.2.2.2.2.1
  unfold tbW
  cases down <;> cases same <;> simp only [cond_true, cond_false, Bool.false_and, Bool.true_and] <;> try omega
  cases decide (w = 0) <;> simp only [cond_true, cond_false] <;> omega
end PLN
