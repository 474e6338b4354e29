/-! A PLAN THAT CAN BE DRAWN, AND ITS PHASES -/
section RNP
variable {P : dP} {A : dA} {os ob : Nat → Nat}
theorem pS_tb : ∀ j i, i < j → (pS os j).testBit (os i) = true := by
  intro j
  induction j with
  | zero => intro i hi; omega
  | succ j ih =>
    intro i hi
    show (pS os j ||| 2 ^ os j).testBit (os i) = true
    rw [Nat.testBit_or]
    by_cases q : i = j
    · subst q; rw [Nat.testBit_two_pow_self, Bool.or_true]
    · rw [ih i (by omega), Bool.true_or]
theorem pl_ok {sum : Option Nat} {k : Nat} (h : IsPl P A sum k os ob) (hk : 0 < k) (h8 : k ≤ 8) : OkO P os ob k ∧ (∀ i, i < k → pLf P (os i) = true) ∧ ¬ shrt P ∧ sum ≠ none ∧ pS os k = allM P := by
  rcases h with h | ⟨hs, R, -, -, h1, h2⟩
  · omega
  · have hn : sum ≠ none := fun q => by have := h1 q; omega
    obtain ⟨a1, a2⟩ := h2 hn
    refine ⟨⟨h8, fun i hi => ?_, fun i j hi hj e => ?_⟩, fun i hi => ?_, hs, hn, a1⟩
    · obtain ⟨c1, c2, -⟩ := a2 i hi
      have := allM_ok hs (os i) c1.2.1
      exact ⟨this.1, c2, this.2⟩
    · rcases Nat.lt_trichotomy i j with q | q | q
      · have c := (a2 j hj).1.2.2.1
        rw [← e, pS_tb j i q] at c; cases c
      · exact q
      · have c := (a2 i hi).1.2.2.1
        rw [e, pS_tb i j q] at c; cases c
    · have c := (a2 i hi).1.2.1
      rw [allM_tb, Bool.and_eq_true] at c
      exact c.2
theorem wayN_pos {a b c d : Nat} (h : a ≠ c ∨ b ≠ d) : 1 ≤ wayN a b c d := by unfold wayN ad; omega
theorem way1_pos (W : Wf P) {s b : Nat} (hs : s < pM P) (h2 : 2 ≤ pN P s) (hb : b < bgn P s) : 1 ≤ way1 P s b 0 := by
  have w := (W.2.1 s hs).2.2.2.2
  unfold way1
  apply wayN_pos
  unfold dXn dYn drw
  unfold bgn at hb
  cases hc : clo P s
  · rw [hc, cond_false] at hb
    simp only [cond_false]
    by_cases h0 : b = 0
    · rw [if_pos h0, if_pos h0]; exact w 0 (by omega)
    · rw [if_neg h0, if_neg h0]
      have := w (pN P s - 2) (by omega)
      rw [show pN P s - 2 + 1 = pN P s - 1 by omega] at this
      rw [show pN P s - 1 - 0 = pN P s - 1 by omega, show pN P s - 1 - (0 + 1) = pN P s - 2 by omega]
      rcases this with q | q
      · exact Or.inl (fun z => q z.symm)
      · exact Or.inr (fun z => q z.symm)
  · rw [hc, cond_true] at hb
    simp only [cond_true]
    rw [Nat.add_zero, Nat.mod_eq_of_lt hb]
    by_cases q : b + 1 < pN P s - 1
    · rw [show b + (0 + 1) = b + 1 by omega, Nat.mod_eq_of_lt q]; exact w b (by omega)
    · rw [show b + (0 + 1) = pN P s - 1 by omega, Nat.mod_self]
      unfold clo at hc
      rw [Bool.and_eq_true, Bool.and_eq_true, Bool.and_eq_true, decide_eq_true_eq, decide_eq_true_eq, decide_eq_true_eq] at hc
      have := w b (by omega)
      rw [show b + 1 = pN P s - 1 by omega] at this
      rw [hc.2.2.1, hc.2.2.2]; exact this
theorem tkU_mono {s b : Nat} : ∀ k, 1 ≤ k → way1 P s b 0 * pPr P 0 ≤ tkU P s b k := by
  intro k
  induction k with
  | zero => intro h; omega
  | succ k ih =>
    intro _
    show _ ≤ tkU P s b k + way1 P s b k * pPr P 0 + _
    by_cases q : k = 0
    · subst q; show _ ≤ 0 + way1 P s b 0 * pPr P 0 + _; omega
    · have := ih (by omega); omega
theorem phZ_pos (W : Wf P) {k : Nat} (hO : OkO P os ob k) (hk : 0 < k) : 0 < tot (phZ P A os ob k) := by
  obtain ⟨o1, o2, o3⟩ := hO.2.1 0 hk
  have h1 : 1 ≤ way1 P (os 0) (ob 0) 0 * pPr P 0 := Nat.mul_pos (way1_pos W o1 o3 o2) W.2.2.1.1
  have h2 := tkU_mono (P := P) (s := os 0) (b := ob 0) (pN P (os 0) - 1) (by omega)
  have h3 := phE_mono (P := P) (A := A) (os := os) (ob := ob) (i := k) (j := 1) hk
  unfold phZ
  rw [tot_app]
  have h4 : tkU P (os 0) (ob 0) (pN P (os 0) - 1) ≤ tot (phE P A os ob 1).1 := by
    rw [phE_app, tot_app]
    unfold blk
    rw [tot_app, pcP_tot]; omega
  omega
theorem phZ_len (W : Wf P) {k : Nat} (hO : OkO P os ob k) (hx : A.1 ≤ 500) (hy : A.2.1 ≤ 500) : (phZ P A os ob k).length ≤ 209 ∧ tot (phZ P A os ob k) ≤ 1000000 := by
  have h := phE_le (A := A) W hO hx hy k (Nat.le_refl k)
  have h8 := hO.1
  have hp := W.2.2.2.2.1
  unfold phZ
  rw [List.length_append, tot_app, tot_one]
  refine ⟨?_, ?_⟩
  · show _ + 1 ≤ 209; omega
  · show _ + pPr P 2 ≤ 1000000; omega
theorem fil_split {l : List dF} : ∀ {p : Nat} {f : dF}, (l.filter nz)[p]? = some f → ∃ pre post, l = pre ++ f :: post ∧ pre.filter nz = (l.filter nz).take p := by
  induction l with
  | nil => intro p f h; cases h
  | cons a l ih =>
    intro p f h
    cases q : nz a
    · rw [List.filter_cons_of_neg (by rw [q]; decide)] at h
      obtain ⟨pre, post, e1, e2⟩ := ih h
      refine ⟨a :: pre, post, by rw [e1]; rfl, ?_⟩
      rw [List.filter_cons_of_neg (by rw [q]; decide), List.filter_cons_of_neg (by rw [q]; decide)]; exact e2
    · rw [List.filter_cons_of_pos q] at h
      cases p with
      | zero =>
        have e : a = f := by rw [List.getElem?_cons_zero] at h; exact Option.some.inj h
        subst e
        exact ⟨[], l, rfl, rfl⟩
      | succ p =>
        rw [List.getElem?_cons_succ] at h
        obtain ⟨pre, post, e1, e2⟩ := ih h
        refine ⟨a :: pre, post, by rw [e1]; rfl, ?_⟩
        rw [List.filter_cons_of_pos q, List.filter_cons_of_pos q, List.take_succ_cons, e2]
theorem split_fil {pre post : List dF} {f : dF} (h : 0 < fL f) : ((pre ++ f :: post).filter nz)[(pre.filter nz).length]? = some f ∧ ((pre ++ f :: post).filter nz).take (pre.filter nz).length = pre.filter nz ∧ (pre.filter nz).length < ((pre ++ f :: post).filter nz).length := by
  have hz : nz f = true := by
    unfold nz
    rw [show Nat.beq (fL f) 0 = false from beq_f (by omega), Bool.and_false]; rfl
  rw [List.filter_append, List.filter_cons_of_pos hz]
  exact ⟨get_pre, take_pre, by rw [List.length_append, List.length_cons]; omega⟩
/-- where in the list a time below its length falls -/
theorem tot_split (l : List dF) : ∀ T, T < tot l → ∃ pre f post, l = pre ++ f :: post ∧ tot pre ≤ T ∧ T < tot pre + fL f := by
  induction l with
  | nil => intro T h; exact absurd h (Nat.not_lt_zero T)
  | cons a l ih =>
    intro T h
    by_cases q : T < fL a
    · exact ⟨[], a, l, rfl, Nat.zero_le _, by show T < 0 + fL a; omega⟩
    · have h' : T < fL a + tot l := h
      obtain ⟨pre, f, post, e1, e2, e3⟩ := ih (T - fL a) (by omega)
      exact ⟨a :: pre, f, post, by rw [e1]; rfl, by show fL a + tot pre ≤ T; omega, by show T < fL a + tot pre + fL f; omega⟩
/-- and that this is so in one way only -/
theorem split_uniq {T : Nat} : ∀ {pre pre' post post' : List dF} {f f' : dF}, pre ++ f :: post = pre' ++ f' :: post' → tot pre ≤ T → T < tot pre + fL f → tot pre' ≤ T → T < tot pre' + fL f' → pre = pre' ∧ f = f' ∧ post = post' := by
  intro pre
  induction pre generalizing T with
  | nil =>
    intro pre' post post' f f' e h1 h2 h3 h4
    cases pre' with
    | nil => cases e; exact ⟨rfl, rfl, rfl⟩
    | cons a pre' =>
      cases e
      have : fL f + tot pre' ≤ T := h3
      have : T < 0 + fL f := h2
      omega
  | cons b pre ih =>
    intro pre' post post' f f' e h1 h2 h3 h4
    have h1' : fL b + tot pre ≤ T := h1
    have h2' : T < fL b + tot pre + fL f := h2
    cases pre' with
    | nil =>
      cases e
      have : T < 0 + fL b := h4
      omega
    | cons a pre' =>
      obtain ⟨e1, e2⟩ := List.cons.inj e
      subst e1
      have h3' : fL b + tot pre' ≤ T := h3
      have h4' : T < fL b + tot pre' + fL f' := h4
      obtain ⟨r1, r2, r3⟩ := ih (T := T - fL b) e2 (by omega) (by omega) (by omega) (by omega)
      exact ⟨by rw [r1], r2, r3⟩
end RNP
