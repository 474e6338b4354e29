/-! A RUN AS IT GOES ON, second part: all phases are in order; what a tick shows -/
section AU2
variable {P : dP} {A : dA} {os ob : Nat → Nat}
theorem fin_5 {z : dZ} {f : dF} (h : fK f = 5) : fin P z f = if zI z + 1 + 1 < pN P (fS f) then (gX f, gY f, zP z, zD z, zI z + 1, zU z + fW f, zW z, fun v => if v = fS f then zC z v + 1 else zC z v, zE z, zT z + fL f)
      else (gX f, gY f, zP z, zD z, 0, 0, zW z, fun v => if v = fS f then zC z v + 1 else zC z v, fun v => if v = fS f then some (zT z + fL f) else zE z v, zT z + fL f) := by
  unfold fin
  rw [h]
  rfl
theorem fin_4 {z : dZ} {f : dF} (h : fK f = 4) : fin P z f = (gX f, gY f, zP z, zD z, zI z, zU z, zW z + fL f, zC z, zE z, zT z + fL f) := by
  unfold fin
  rw [h]
  rfl
theorem fin_n5 {z : dZ} {f : dF} (h : fK f ≠ 5) : zE (fin P z f) = zE z := by
  unfold fin
  split <;> first | rfl | (rename_i q; exact absurd q h)
def z0 (A : dA) : dZ := (A.1, A.2.1, A.2.2, false, 0, 0, 0, fun _ => 0, fun _ => none, 0)
theorem eoU_none {en : Nat → Nat} {i v : Nat} (h : ∀ j, j < i → os j ≠ v) : eoU os en i v = none := by
  cases e : eoU os en i v with
  | none => rfl
  | some x =>
    obtain ⟨j, j1, j2, -⟩ := eoU_some e
    exact absurd j2 (h j j1)
theorem phE_ok (W : Wf P) {k : Nat} (hO : OkO P os ob k) (hx : A.1 ≤ 500) (hy : A.2.1 ≤ 500) : ∀ i, i ≤ k → okL P (z0 A) (phE P A os ob i).1 ∧ zX ((phE P A os ob i).1.foldl (fin P) (z0 A)) = pvX P A os ob i ∧ zY ((phE P A os ob i).1.foldl (fin P) (z0 A)) = pvY P A os ob i ∧ zP ((phE P A os ob i).1.foldl (fin P) (z0 A)) = pvP P A os i ∧ zD ((phE P A os ob i).1.foldl (fin P) (z0 A)) = Nat.blt 0 i ∧ zI ((phE P A os ob i).1.foldl (fin P) (z0 A)) = 0 ∧ zU ((phE P A os ob i).1.foldl (fin P) (z0 A)) = 0 ∧ (∀ j, i ≤ j → j < k → zC ((phE P A os ob i).1.foldl (fin P) (z0 A)) (os j) = 0) ∧ zE ((phE P A os ob i).1.foldl (fin P) (z0 A)) = eoU os (enZ P A os ob) i := by
  intro i
  induction i with
  | zero => intro _; exact ⟨trivial, rfl, rfl, rfl, rfl, rfl, rfl, fun _ _ _ => rfl, rfl⟩
  | succ i ih =>
    intro hi
    obtain ⟨h1, h2, h3, h4, h5, h6, h7, h8, h9⟩ := ih (by omega)
    obtain ⟨hs, hb, hn2⟩ := hO.2.1 i (by omega)
    have pv := pv_le (A := A) W hO hx hy (show i ≤ k by omega)
    generalize hz : (phE P A os ob i).1.foldl (fin P) (z0 A) = z at *
    have hT : zT z = tot (phE P A os ob i).1 := by rw [← hz, fold_T]; show 0 + _ = _; omega
    have hE0 : zE z (os i) = none := by rw [h9]; exact eoU_none fun j hj e => by have := hO.2.2 j i (by omega) (by omega) e; omega
    obtain ⟨b1, b2, b3, b4⟩ := bg_ok W hs hb hn2 pv.1 pv.2 (z := z) ⟨h2, h3, h4, h5, h6, h7, h8 i (Nat.le_refl _) (by omega), hE0⟩
    have eb : bgP P (os i) (ob i) (pvX P A os ob i) (pvY P A os ob i) (pvP P A os i) (Nat.blt 0 i) = bg1 P A os ob i := rfl
    rw [eb] at b1 b2 b3 b4
    generalize hz1 : (bg1 P A os ob i).foldl (fin P) z = z1 at *
    obtain ⟨w1, w2, w3, w4⟩ := wt_ok W hs hb hn2 (w := rdU P os (enZ P A os ob) (os i) i - (tot (phE P A os ob i).1 + tot (bg1 P A os ob i))) b2
    generalize hz2 : fin P z1 (wtP P (os i) (ob i) (rdU P os (enZ P A os ob) (os i) i - (tot (phE P A os ob i).1 + tot (bg1 P A os ob i)))) = z2 at *
    obtain ⟨q1, q2, q3, q4, q5, q6, q7, q8⟩ := w2
    obtain ⟨p1, -, p3, p4⟩ := pc_ok W hs hb hn2 (z := z2) ⟨q1, q2, q3, q4, q5, q6, q7, q8⟩ (pN P (os i) - 1) (by omega)
    obtain ⟨r1, r2, r3, r4, r5, r6, r7⟩ := p3 (by omega)
    have hT2 : zT z2 = tot (phE P A os ob i).1 + tot (bg1 P A os ob i) + fL (wtP P (os i) (ob i) (rdU P os (enZ P A os ob) (os i) i - (tot (phE P A os ob i).1 + tot (bg1 P A os ob i)))) := by
      rw [← hz2, fin_T, ← hz1, fold_T, hT]
    have ef : (phE P A os ob (i + 1)).1.foldl (fin P) (z0 A) = (pcP P (os i) (ob i) (pN P (os i) - 1)).foldl (fin P) z2 := by
      rw [phE_app, blk_eq, List.foldl_append, hz, List.foldl_append, List.foldl_append, hz1]
      show _ = _
      rw [← hz2]
      rfl
    have eT : tot (phE P A os ob (i + 1)).1 = zT z2 + tot (pcP P (os i) (ob i) (pN P (os i) - 1)) := by
      rw [phE_app, blk_eq, tot_app, tot_app, tot_app, tot_one, hT2]
      omega
    rw [ef]
    refine ⟨?_, r1, r2, r3, r4.trans (Nat.blt_eq.mpr (Nat.succ_pos i)).symm, r5, r6, fun j hj hjk => ?_, ?_⟩
    · rw [phE_app, blk_eq, okL_app, hz, okL_app, okL_app, List.foldl_append, hz1]
      refine ⟨h1, ⟨b1, w1, trivial⟩, ?_⟩
      rw [List.foldl_cons, List.foldl_nil, hz2]
      exact p1
    · have hne : os j ≠ os i := fun e => by have := hO.2.2 j i hjk (by omega) e; omega
      rw [p4 (os j) hne, w3, b3]
      exact h8 j (by omega) hjk
    · rw [r7, w4, b4, h9, ← eT]
      rfl
theorem phZ_ok (W : Wf P) {k : Nat} (hO : OkO P os ob k) (hk : 0 < k) (hx : A.1 ≤ 500) (hy : A.2.1 ≤ 500) : okL P (z0 A) (phZ P A os ob k) ∧ zE ((phZ P A os ob k).foldl (fin P) (z0 A)) = eoU os (enZ P A os ob) k ∧ zX ((phZ P A os ob k).foldl (fin P) (z0 A)) = pvX P A os ob k ∧ zY ((phZ P A os ob k).foldl (fin P) (z0 A)) = pvY P A os ob k ∧ zP ((phZ P A os ob k).foldl (fin P) (z0 A)) = pvP P A os k ∧ zD ((phZ P A os ob k).foldl (fin P) (z0 A)) = false := by
  obtain ⟨h1, h2, h3, h4, h5, h6, h7, h8, h9⟩ := phE_ok (A := A) W hO hx hy k (Nat.le_refl _)
  have pv := pv_le (A := A) W hO hx hy (Nat.le_refl k)
  unfold phZ
  rw [okL_app, List.foldl_append]
  generalize (phE P A os ob k).1.foldl (fin P) (z0 A) = z at *
  refine ⟨⟨h1, ⟨?_, trivial⟩⟩, h9, rfl, rfl, h4, rfl⟩
  have e1 : Nat.blt 0 k = true := Nat.blt_eq.mpr hk
  rw [e1] at h5
  refine ⟨by show 0 ≤ 6; omega, h2.symm, h3.symm, h4.symm, h5, fun _ => ⟨h6, h7, fun z => absurd z (by show ¬ 8 < 8; omega)⟩, fun z => absurd z (by show ¬ 5 ≤ 0; omega), fun _ _ => ⟨rfl, rfl⟩, fun z => absurd z (by show ¬ (0 = 2 ∨ 0 = 5); omega), Or.inl rfl, fun z => absurd rfl z, fun z => absurd z (by show ¬ 0 = 5; omega), ⟨pv.1, pv.2, pv.1, pv.2⟩⟩
theorem nz_f {z : dZ} {f : dF} (ho : okF P z f) (h : nz f = false) : fin P z f = z := by
  have h4 : fK f = 4 := by
    cases e : Nat.beq (fK f) 4
    · unfold nz at h; rw [e, Bool.false_and] at h; exact absurd h (by decide)
    · exact Nat.eq_of_beq_eq_true e
  have h0 : fL f = 0 := by
    cases e : Nat.beq (fL f) 0
    · unfold nz at h; rw [e, Bool.and_false] at h; exact absurd h (by decide)
    · exact Nat.eq_of_beq_eq_true e
  obtain ⟨g1, g2⟩ := ho.2.2.2.2.2.2.2.1 (by omega) (by omega)
  have e1 : gX f = zX z := g1.trans ho.2.1
  have e2 : gY f = zY z := g2.trans ho.2.2.1
  rw [fin_4 h4, h0, e1, e2]
  rfl
theorem nz_fold {l : List dF} : ∀ {z : dZ}, okL P z l → (l.filter nz).foldl (fin P) z = l.foldl (fin P) z := by
  induction l with
  | nil => intro z _; rfl
  | cons f l ih =>
    intro z h
    rw [List.filter_cons]
    cases e : nz f
    · have e2 := nz_f h.1 e
      show (l.filter nz).foldl (fin P) z = l.foldl (fin P) (fin P z f)
      have := h.2
      rw [e2] at this ⊢
      exact ih this
    · exact ih h.2
/-- waits -/
def wtS : List dF → Nat
  | [] => 0
  | f :: l => (if fK f = 4 then fL f else 0) + wtS l
def wtT (T : Nat) : Nat → List dF → Nat
  | _, [] => 0
  | w, f :: l => (if fK f = 4 then min (fL f) (T - w) else 0) + wtT T (w + fL f) l
theorem fin_W (z : dZ) (f : dF) : zW (fin P z f) = zW z + (if fK f = 4 then fL f else 0) := by
  unfold fin
  split <;> rename_i h <;> first | (rw [h]; rfl) | skip
  · rw [h]; split <;> rfl
  · rw [if_neg (by omega)]; rfl
theorem fold_W (l : List dF) : ∀ z, zW (l.foldl (fin P) z) = zW z + wtS l := by
  induction l with
  | nil => intro z; rfl
  | cons f l ih =>
    intro z
    show zW (l.foldl (fin P) (fin P z f)) = zW z + ((if fK f = 4 then fL f else 0) + wtS l)
    rw [ih, fin_W]
    omega
theorem wtT_app {T : Nat} (l m : List dF) : ∀ w, wtT T w (l ++ m) = wtT T w l + wtT T (w + tot l) m := by
  induction l with
  | nil => intro w; show wtT T w m = 0 + wtT T (w + 0) m; rw [Nat.add_zero, Nat.zero_add]
  | cons f l ih =>
    intro w
    show (if fK f = 4 then min (fL f) (T - w) else 0) + wtT T (w + fL f) (l ++ m) = (if fK f = 4 then min (fL f) (T - w) else 0) + wtT T (w + fL f) l + wtT T (w + (fL f + tot l)) m
    rw [ih, show w + (fL f + tot l) = w + fL f + tot l by omega]
    omega
theorem wtT_pre {T : Nat} (l : List dF) : ∀ w, w + tot l ≤ T → wtT T w l = wtS l := by
  induction l with
  | nil => intro w _; rfl
  | cons f l ih =>
    intro w h
    have h' : w + (fL f + tot l) ≤ T := h
    show (if fK f = 4 then min (fL f) (T - w) else 0) + wtT T (w + fL f) l = (if fK f = 4 then fL f else 0) + wtS l
    rw [ih (w + fL f) (by omega), Nat.min_eq_left (by omega)]
theorem wtT_post {T : Nat} (l : List dF) : ∀ w, T ≤ w → wtT T w l = 0 := by
  induction l with
  | nil => intro w _; rfl
  | cons f l ih =>
    intro w h
    show (if fK f = 4 then min (fL f) (T - w) else 0) + wtT T (w + fL f) l = 0
    rw [ih (w + fL f) (by omega), show T - w = 0 by omega, Nat.min_zero]
    split <;> rfl
theorem wtT_split {T : Nat} {pre post : List dF} {f : dF} (h1 : tot pre ≤ T) (h2 : T < tot pre + fL f) : wtT T 0 (pre ++ f :: post) = wtS pre + (if fK f = 4 then T - tot pre else 0) := by
  rw [wtT_app, wtT_pre pre 0 (by omega)]
  show wtS pre + ((if fK f = 4 then min (fL f) (T - (0 + tot pre)) else 0) + wtT T (0 + tot pre + fL f) post) = _
  rw [wtT_post post _ (by omega), Nat.zero_add, Nat.min_eq_right (by omega), Nat.add_zero]
/-- when a stroke is ended -/
theorem zE_keep {l : List dF} : ∀ {z : dZ}, okL P z l → ∀ s e, zE z s = some e → zE (l.foldl (fin P) z) s = some e := by
  induction l with
  | nil => intro z _ s e h; exact h
  | cons f l ih =>
    intro z ho s e h
    refine ih ho.2 s e ?_
    by_cases h5 : fK f = 5
    · have hne : s ≠ fS f := fun q => by
        have := (ho.1.2.2.2.2.2.2.1 (by omega)).2.2.2.2
        rw [← q, h] at this
        cases this
      rw [fin_5 h5]
      split
      · exact h
      · show (if s = fS f then _ else zE z s) = _
        rw [if_neg hne]; exact h
    · rw [fin_n5 h5]; exact h
theorem fin_E {z : dZ} {f : dF} {s e : Nat} (h : zE z s = none) (h2 : zE (fin P z f) s = some e) : e = zT z + fL f := by
  by_cases h5 : fK f = 5
  · rw [fin_5 h5] at h2
    split at h2
    · have h3 : zE z s = some e := h2
      rw [h] at h3; cases h3
    · have h3 : (if s = fS f then some (zT z + fL f) else zE z s) = some e := h2
      split at h3
      · injection h3 with h3; exact h3.symm
      · rw [h] at h3; cases h3
  · rw [fin_n5 h5, h] at h2; cases h2
theorem zE_late {l : List dF} : ∀ {z : dZ}, okL P z l → ∀ s e, zE z s = none → zE (l.foldl (fin P) z) s = some e → ∀ f l', l = f :: l' → zT z + fL f ≤ e := by
  induction l with
  | nil => intro z _ s e _ _ f l' h; cases h
  | cons f l ih =>
    intro z ho s e h1 h2 f' l' he
    injection he with he1 he2
    subst he1
    cases h3 : zE (fin P z f) s with
    | some e' =>
      have h4 := zE_keep ho.2 s e' h3
      have h5 : zE (l.foldl (fin P) (fin P z f)) s = some e := h2
      rw [h4] at h5
      injection h5 with h5
      have := fin_E h1 h3
      omega
    | none =>
      cases l with
      | nil =>
        have h5 : zE (fin P z f) s = some e := h2
        rw [h3] at h5; cases h5
      | cons f2 l2 =>
        have := ih ho.2 s e h3 h2 f2 l2 rfl
        rw [fin_T] at this
        omega
theorem zE_early {l : List dF} : ∀ {z : dZ}, (∀ s e, zE z s = some e → e ≤ zT z) → ∀ s e, zE (l.foldl (fin P) z) s = some e → e ≤ zT z + tot l := by
  induction l with
  | nil => intro z h s e he; exact h s e he
  | cons f l ih =>
    intro z h s e he
    have h2 : ∀ s e, zE (fin P z f) s = some e → e ≤ zT (fin P z f) := fun s e hs => by
      rw [fin_T]
      cases h3 : zE z s with
      | none => have := fin_E h3 hs; omega
      | some e' =>
        by_cases h5 : fK f = 5
        · rw [fin_5 h5] at hs
          split at hs
          · have hs' : zE z s = some e := hs
            have := h s e hs'; omega
          · have hs' : (if s = fS f then some (zT z + fL f) else zE z s) = some e := hs
            split at hs'
            · injection hs' with hs'; omega
            · have := h s e hs'; omega
        · rw [fin_n5 h5] at hs
          have := h s e hs; omega
    have := ih h2 s e he
    rw [fin_T] at this
    show e ≤ zT z + (fL f + tot l)
    omega
/-- ended by a tick -/
theorem zE_split {T : Nat} {pre post : List dF} {f : dF} (ho : okL P (z0 A) (pre ++ f :: post)) (h1 : tot pre ≤ T) (h2 : T < tot pre + fL f) (s : Nat) : zE (pre.foldl (fin P) (z0 A)) s = (match zE ((pre ++ f :: post).foldl (fin P) (z0 A)) s with | none => none | some e => if e ≤ T then some e else none) := by
  obtain ⟨o1, o2⟩ := (okL_app (z0 A)).mp ho
  have hT : zT (pre.foldl (fin P) (z0 A)) = tot pre := by rw [fold_T]; show 0 + _ = _; omega
  rw [List.foldl_append]
  cases h : zE (pre.foldl (fin P) (z0 A)) s with
  | some e =>
    rw [zE_keep o2 s e h]
    have := zE_early (l := pre) (z := z0 A) (fun s e h => by cases h) s e h
    have hz : zT (z0 A) = 0 := rfl
    try dsimp only
    rw [if_pos (by omega)]
  | none =>
    cases h3 : zE ((f :: post).foldl (fin P) (pre.foldl (fin P) (z0 A))) s with
    | none => rfl
    | some e =>
      have := zE_late o2 s e h h3 f post rfl
      try dsimp only
      rw [if_neg (by omega)]
end AU2
