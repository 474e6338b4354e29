/-! A RUN AS IT GOES ON, third part: the pieces of a stroke among all phases -/
section AU3
variable {P : dP} {A : dA} {os ob : Nat → Nat}
def isD (s : Nat) (f : dF) : Bool := Nat.beq (fK f) 5 && Nat.beq (fS f) s
theorem isD_iff {s : Nat} {f : dF} : isD s f = true ↔ fK f = 5 ∧ fS f = s := by
  unfold isD
  rw [Bool.and_eq_true]
  exact ⟨fun h => ⟨Nat.eq_of_beq_eq_true h.1, Nat.eq_of_beq_eq_true h.2⟩, fun h => by rw [h.1, h.2]; exact ⟨rfl, Nat.beq_refl _⟩⟩
theorem isD_f {s : Nat} {f : dF} (h : ¬ (fK f = 5 ∧ fS f = s)) : isD s f = false := by
  cases e : isD s f
  · rfl
  · exact absurd (isD_iff.mp e) h
theorem fin_C (z : dZ) (f : dF) (s : Nat) : zC (fin P z f) s = zC z s + (bif isD s f then 1 else 0) := by
  by_cases h5 : fK f = 5
  · rw [fin_5 h5]
    have e : ∀ (a b : dZ) (p : Prop) [Decidable p], zC a = (fun v => if v = fS f then zC z v + 1 else zC z v) → zC b = (fun v => if v = fS f then zC z v + 1 else zC z v) → zC (if p then a else b) s = zC z s + (bif isD s f then 1 else 0) := by
      intro a b p _ ha hb
      have : zC (if p then a else b) = (fun v => if v = fS f then zC z v + 1 else zC z v) := by split <;> assumption
      rw [this]
      dsimp only
      by_cases q : s = fS f
      · rw [if_pos q, isD_iff.mpr ⟨h5, q.symm⟩]; rfl
      · rw [if_neg q, isD_f (fun w => q w.2.symm)]; rfl
    exact e _ _ _ rfl rfl
  · rw [isD_f (fun w => h5 w.1)]
    show zC (fin P z f) s = zC z s + 0
    unfold fin
    split <;> first | rfl | (rename_i q; exact absurd q h5)
theorem fold_C (l : List dF) (s : Nat) : ∀ z, zC (l.foldl (fin P) z) s = zC z s + (l.filter (isD s)).length := by
  induction l with
  | nil => intro z; rfl
  | cons f l ih =>
    intro z
    show zC (l.foldl (fin P) (fin P z f)) s = _
    rw [ih, fin_C, List.filter_cons]
    cases isD s f
    · show _ + 0 + _ = _; rw [if_neg (by decide)]; omega
    · show _ + 1 + _ = _; rw [if_pos rfl, List.length_cons]; omega
def drR (P : dP) (s b j : Nat) : Nat → List dF
  | 0 => []
  | m + 1 => drP P s b j :: drR P s b (j + 1) m
theorem drR_app (P : dP) (s b : Nat) : ∀ m j, drR P s b j (m + 1) = drR P s b j m ++ [drP P s b (j + m)] := by
  intro m
  induction m with
  | zero => intro j; rfl
  | succ m ih =>
    intro j
    show drP P s b j :: drR P s b (j + 1) (m + 1) = drP P s b j :: (drR P s b (j + 1) m ++ [drP P s b (j + (m + 1))])
    rw [ih, show j + 1 + m = j + (m + 1) by omega]
theorem drR_len (P : dP) (s b : Nat) : ∀ m j, (drR P s b j m).length = m := by
  intro m
  induction m with
  | zero => intro j; rfl
  | succ m ih => intro j; show (drR P s b (j + 1) m).length + 1 = m + 1; rw [ih]
theorem drR_split (P : dP) (s b : Nat) {l1 l2 : List dF} : ∀ m j, l1 ++ l2 = drR P s b j m → l1 = drR P s b j l1.length ∧ l2 = drR P s b (j + l1.length) (m - l1.length) := by
  induction l1 with
  | nil => intro m j h; exact ⟨rfl, h⟩
  | cons f l ih =>
    intro m j h
    cases m with
    | zero => cases h
    | succ m =>
      injection h with h1 h2
      obtain ⟨a, b⟩ := ih m (j + 1) h2
      refine ⟨?_, ?_⟩
      · show f :: l = drP P s _ j :: drR P s _ (j + 1) l.length
        rw [h1, ← a]
      · show l2 = drR P s _ (j + (l.length + 1)) (m + 1 - (l.length + 1))
        rw [show j + (l.length + 1) = j + 1 + l.length by omega, show m + 1 - (l.length + 1) = m - l.length by omega]
        exact b
theorem pcD (P : dP) (s b k v : Nat) : (pcP P s b k).filter (isD v) = if v = s then drR P s b 0 k else [] := by
  induction k with
  | zero => show [] = _; split <;> rfl
  | succ k ih =>
    show (pcP P s b k ++ (bif cor1 P s b k then [crP P s b k] else []) ++ [drP P s b k]).filter (isD v) = _
    rw [List.filter_append, List.filter_append, ih]
    have e1 : (bif cor1 P s b k then [crP P s b k] else []).filter (isD v) = [] := by cases cor1 P s b k <;> rfl
    rw [e1, List.append_nil]
    by_cases q : v = s
    · subst q
      rw [if_pos rfl, if_pos rfl, drR_app, List.filter_cons, show isD v (drP P v b k) = true from isD_iff.mpr ⟨rfl, rfl⟩, Nat.zero_add]
      rfl
    · rw [if_neg q, if_neg q, List.filter_cons, isD_f (fun w => q w.2.symm)]
      rfl
theorem bgD (P : dP) (s b x y : Nat) (pen : Int32) (dwn : Bool) (v : Nat) : (bgP P s b x y pen dwn).filter (isD v) = [] := by
  unfold bgP
  cases (dwn && (decide (pen = Int32.ofNat (pPen P s)) && (decide (x = dXn P s b 0) && decide (y = dYn P s b 0))))
  · rw [cond_false]
    cases dwn <;> cases decide (pen = Int32.ofNat (pPen P s)) <;> rfl
  · rfl
theorem blkD (i v : Nat) : (blk P A os ob (phE P A os ob i).2 i (tot (phE P A os ob i).1)).filter (isD v) = if v = os i then drR P (os i) (ob i) 0 (pN P (os i) - 1) else [] := by
  rw [blk_eq, List.filter_append, List.filter_append, pcD]
  have e1 : (bg1 P A os ob i).filter (isD v) = [] := bgD _ _ _ _ _ _ _ _
  rw [e1]
  rfl
theorem phD {k : Nat} (hO : OkO P os ob k) : ∀ i, i ≤ k → (∀ j, j < i → (phE P A os ob i).1.filter (isD (os j)) = drR P (os j) (ob j) 0 (pN P (os j) - 1)) ∧ ∀ v, (∀ j, j < i → os j ≠ v) → (phE P A os ob i).1.filter (isD v) = [] := by
  intro i
  induction i with
  | zero => intro _; exact ⟨fun j hj => absurd hj (Nat.not_lt_zero j), fun _ _ => rfl⟩
  | succ i ih =>
    intro hi
    obtain ⟨h1, h2⟩ := ih (by omega)
    refine ⟨fun j hj => ?_, fun v hv => ?_⟩
    · rw [phE_app, List.filter_append, blkD]
      by_cases e : j = i
      · subst e
        rw [if_pos rfl, h2 (os j) (fun q hq z => by have := hO.2.2 q j (by omega) (by omega) z; omega)]
        rfl
      · rw [if_neg (fun z => e (hO.2.2 j i (by omega) (by omega) z)), List.append_nil]
        exact h1 j (by omega)
    · rw [phE_app, List.filter_append, blkD, if_neg (fun z => hv i (by omega) z.symm), List.append_nil]
      exact h2 v fun j hj => hv j (by omega)
theorem phZD {k j : Nat} (hO : OkO P os ob k) (hj : j < k) : (phZ P A os ob k).filter (isD (os j)) = drR P (os j) (ob j) 0 (pN P (os j) - 1) := by
  unfold phZ
  rw [List.filter_append, (phD (A := A) hO k (Nat.le_refl _)).1 j hj]
  show _ ++ [] = _
  rw [List.append_nil]
/-- a stroke's units by a tick -/
def unT (P : dP) (s T : Nat) : Nat → List dF → Nat
  | _, [] => 0
  | w, f :: l => (bif isD s f then min (fL f) (T - w) / pPr P 0 else 0) + unT P s T (w + fL f) l
def sumW : List dF → Nat
  | [] => 0
  | f :: l => fW f + sumW l
theorem unT_app {s T : Nat} (l m : List dF) : ∀ w, unT P s T w (l ++ m) = unT P s T w l + unT P s T (w + tot l) m := by
  induction l with
  | nil => intro w; show unT P s T w m = 0 + unT P s T (w + 0) m; rw [Nat.add_zero, Nat.zero_add]
  | cons f l ih =>
    intro w
    show (bif isD s f then min (fL f) (T - w) / pPr P 0 else 0) + unT P s T (w + fL f) (l ++ m) = (bif isD s f then min (fL f) (T - w) / pPr P 0 else 0) + unT P s T (w + fL f) l + unT P s T (w + (fL f + tot l)) m
    rw [ih, show w + (fL f + tot l) = w + fL f + tot l by omega]
    omega
theorem unT_pre {s T : Nat} (h0 : 0 < pPr P 0) (l : List dF) (hl : ∀ f, f ∈ l → isD s f = true → fL f = pPr P 0 * fW f) : ∀ w, w + tot l ≤ T → unT P s T w l = sumW (l.filter (isD s)) := by
  induction l with
  | nil => intro w _; rfl
  | cons f l ih =>
    intro w h
    have h' : w + (fL f + tot l) ≤ T := h
    show (bif isD s f then min (fL f) (T - w) / pPr P 0 else 0) + unT P s T (w + fL f) l = _
    rw [ih (fun q hq => hl q (List.mem_cons_of_mem _ hq)) (w + fL f) (by omega), List.filter_cons]
    cases e : isD s f
    · rw [if_neg (by decide)]; show 0 + _ = _; omega
    · rw [if_pos rfl, Nat.min_eq_left (by omega), hl f List.mem_cons_self e]
      show pPr P 0 * fW f / pPr P 0 + _ = fW f + _
      rw [Nat.mul_div_cancel_left _ h0]
theorem unT_post {s T : Nat} (l : List dF) : ∀ w, T ≤ w → unT P s T w l = 0 := by
  induction l with
  | nil => intro w _; rfl
  | cons f l ih =>
    intro w h
    show (bif isD s f then min (fL f) (T - w) / pPr P 0 else 0) + unT P s T (w + fL f) l = 0
    rw [ih (w + fL f) (by omega), show T - w = 0 by omega, Nat.min_zero, Nat.zero_div]
    cases isD s f <;> rfl
theorem sumW_drR (P : dP) (s b : Nat) : ∀ m, sumW (drR P s b 0 m) = wsU P s b m := by
  have app : ∀ l m : List dF, sumW (l ++ m) = sumW l + sumW m := by
    intro l m
    induction l with
    | nil => show sumW m = 0 + sumW m; omega
    | cons f l ih => show fW f + sumW (l ++ m) = fW f + sumW l + sumW m; omega
  intro m
  induction m with
  | zero => rfl
  | succ m ih =>
    rw [drR_app, app, ih, Nat.zero_add]
    show wsU P s b m + (fW (drP P s b m) + 0) = wsU P s b m + way1 P s b m
    rfl
theorem okL_mem {l : List dF} : ∀ {z : dZ}, okL P z l → ∀ f, f ∈ l → fK f = 5 → fL f = pPr P 0 * fW f := by
  induction l with
  | nil => intro z _ f hf; cases hf
  | cons g l ih =>
    intro z h f hf h5
    rcases List.mem_cons.mp hf with rfl | hf
    · have := h.1.2.2.2.2.2.2.2.2.1 (Or.inr h5)
      rw [this]
      unfold fU
      rw [h5]
      rfl
    · exact ih h.2 f hf h5
/-- at a tick: of the stroke at hand, the pieces over and those to come -/
theorem at_hand (W : Wf P) {k T : Nat} (hO : OkO P os ob k) (hk : 0 < k) (hx : A.1 ≤ 500) (hy : A.2.1 ≤ 500) {pre post : List dF} {f : dF} (he : phZ P A os ob k = pre ++ f :: post) (h1 : tot pre ≤ T) (h2 : T < tot pre + fL f) (hf : fS f ≠ 8) (hj : ∃ j, j < k ∧ os j = fS f ∧ ob j = fB f) : unT P (fS f) T 0 (phZ P A os ob k) = (if 5 ≤ fK f then wsU P (fS f) (fB f) (fJ f) else 0) + (if fK f = 5 then (T - tot pre) / pPr P 0 else 0) ∧ (5 ≤ fK f → (f :: post).filter (isD (fS f)) = drR P (fS f) (fB f) (fJ f) (pN P (fS f) - 1 - fJ f)) := by
  have ok := (phZ_ok (A := A) W hO hk hx hy).1
  rw [he] at ok
  obtain ⟨o1, o2⟩ := (okL_app (z0 A)).mp ok
  obtain ⟨j, j1, j2, j3⟩ := hj
  have hD := phZD (A := A) hO j1
  rw [j2, j3, he, List.filter_append] at hD
  obtain ⟨s1, s2⟩ := drR_split P (fS f) (fB f) _ _ hD
  have hc := fold_C (P := P) pre (fS f) (z0 A)
  have hz : zC (z0 A) (fS f) = 0 := rfl
  rw [hz, Nat.zero_add] at hc
  have of := o2.1
  have hpr : 0 < pPr P 0 := W.2.2.1.1
  have hs8 : fS f < 8 := by
    rcases of.2.2.2.2.2.2.2.2.2.1 with q | q
    · exact absurd q hf
    · have := W.1; omega
  have hu : unT P (fS f) T 0 (pre ++ f :: post) = wsU P (fS f) (fB f) (zC (pre.foldl (fin P) (z0 A)) (fS f)) + (if fK f = 5 then (T - tot pre) / pPr P 0 else 0) := by
    rw [unT_app, unT_pre hpr pre (fun q hq hd => okL_mem o1 q hq (isD_iff.mp hd).1) 0 (by omega), s1, sumW_drR, hc, Nat.zero_add]
    show _ + ((bif isD (fS f) f then min (fL f) (T - tot pre) / pPr P 0 else 0) + unT P (fS f) T (tot pre + fL f) post) = _
    rw [unT_post post _ (by omega), Nat.min_eq_right (by omega), Nat.add_zero]
    by_cases q : fK f = 5
    · rw [isD_iff.mpr ⟨q, rfl⟩, if_pos q]; rfl
    · rw [isD_f (fun w => q w.1), if_neg q]; rfl
  refine ⟨?_, fun h5 => ?_⟩
  · rw [he, hu]
    by_cases h5 : 5 ≤ fK f
    · rw [if_pos h5, (of.2.2.2.2.2.2.1 h5).2.1]
    · rw [if_neg h5, (of.2.2.2.2.2.1 (by omega)).2.2 hs8]
      rfl
  · rw [s2, ← hc, (of.2.2.2.2.2.2.1 h5).2.1, Nat.zero_add]
theorem bgM (P : dP) (s b x y : Nat) (pen : Int32) (dwn : Bool) : ∀ f, f ∈ bgP P s b x y pen dwn → fS f = s ∧ fB f = b := by
  intro f hf
  unfold bgP at hf
  cases hq : (dwn && (decide (pen = Int32.ofNat (pPen P s)) && (decide (x = dXn P s b 0) && decide (y = dYn P s b 0))))
  · rw [hq, cond_false] at hf
    revert hf
    cases dwn <;> cases decide (pen = Int32.ofNat (pPen P s)) <;> simp only [cond_true, cond_false, List.nil_append, List.cons_append, List.mem_cons, List.not_mem_nil, or_false] <;> intro hf <;> rcases hf with rfl | hf <;> first | exact ⟨rfl, rfl⟩ | (rcases hf with rfl | hf <;> first | exact ⟨rfl, rfl⟩ | (rcases hf with rfl | hf <;> first | exact ⟨rfl, rfl⟩ | (subst hf; exact ⟨rfl, rfl⟩))) | (subst hf; exact ⟨rfl, rfl⟩)
  · rw [hq, cond_true] at hf; cases hf
theorem pcM (P : dP) (s b k : Nat) : ∀ f, f ∈ pcP P s b k → fS f = s ∧ fB f = b := by
  induction k with
  | zero => intro f hf; cases hf
  | succ k ih =>
    intro f hf
    rw [show pcP P s b (k + 1) = pcP P s b k ++ (bif cor1 P s b k then [crP P s b k] else []) ++ [drP P s b k] from rfl, List.mem_append, List.mem_append, List.mem_singleton] at hf
    rcases hf with (hf | hf) | rfl
    · exact ih f hf
    · revert hf
      cases cor1 P s b k
      · intro hf; cases hf
      · intro hf; rw [cond_true, List.mem_singleton] at hf; subst hf; exact ⟨rfl, rfl⟩
    · exact ⟨rfl, rfl⟩
theorem phM (i : Nat) : ∀ f, f ∈ (phE P A os ob i).1 → ∃ j, j < i ∧ os j = fS f ∧ ob j = fB f := by
  induction i with
  | zero => intro f hf; cases hf
  | succ i ih =>
    intro f hf
    rw [phE_app, blk_eq, List.mem_append, List.mem_append, List.mem_append, List.mem_singleton] at hf
    rcases hf with hf | (hf | rfl) | hf
    · obtain ⟨j, j1, j2⟩ := ih f hf
      exact ⟨j, by omega, j2⟩
    · have := bgM _ _ _ _ _ _ _ f hf
      exact ⟨i, by omega, this.1.symm, this.2.symm⟩
    · exact ⟨i, by omega, rfl, rfl⟩
    · have := pcM _ _ _ _ f hf
      exact ⟨i, by omega, this.1.symm, this.2.symm⟩
theorem phZM {k : Nat} : ∀ f, f ∈ phZ P A os ob k → fS f ≠ 8 → ∃ j, j < k ∧ os j = fS f ∧ ob j = fB f := by
  intro f hf h8
  unfold phZ at hf
  rw [List.mem_append, List.mem_singleton] at hf
  rcases hf with hf | rfl
  · exact phM k f hf
  · exact absurd rfl h8
end AU3
