/-! THE CLASS LAYS ITS LEGS -/
section CLY
def fW (f : dF) : Nat := if fK f = 2 ∨ fK f = 5 then wayN (fX f) (fY f) (gX f) (gY f) else 0
def fU (P : dP) (f : dF) : Nat := if fK f = 2 then pPr P 1 else if fK f = 5 then pPr P 0 else 0
def kC (k : Nat) : Nat := if k = 5 then 6 else if k = 6 then 5 else k
def LgC (P : dP) (l : List dF) (σ : dSg) : Prop := σ 57 3 = Int32.ofNat l.length ∧ σ 57 6 = Int32.ofNat (tot l) ∧ ∀ p f, l[p]? = some f → σ (61 + p) 0 = Int32.ofNat (kC (fK f)) ∧ σ (61 + p) 1 = encS (fS f) ∧ σ (61 + p) 2 = Int32.ofNat (fB f) ∧ σ (61 + p) 3 = Int32.ofNat (tot (l.take p)) ∧ σ (61 + p) 4 = Int32.ofNat (tot (l.take p) + fL f) ∧ σ (61 + p) 5 = Int32.ofNat (fX f) ∧ σ (61 + p) 6 = Int32.ofNat (fY f) ∧ σ (61 + p) 7 = Int32.ofNat (gX f) ∧ σ (61 + p) 8 = Int32.ofNat (gY f) ∧ σ (61 + p) 9 = Int32.ofNat (fW f) ∧ σ (61 + p) 10 = Int32.ofNat (fU P f)
def FrR (σ τ : dSg) : Prop := (∀ a, a ≠ 57 → a ≠ 59 → a ≠ 60 → a < 61 ∨ 270 ≤ a → τ a = σ a) ∧ ∀ j, j ≠ 3 → j ≠ 6 → τ 57 j = σ 57 j
theorem FrR_refl (σ : dSg) : FrR σ σ := ⟨fun _ _ _ _ _ => rfl, fun _ _ _ => rfl⟩
theorem FrR_trans {σ τ υ : dSg} (h : FrR σ τ) (h2 : FrR τ υ) : FrR σ υ := ⟨fun a a1 a2 a3 a4 => (h2.1 a a1 a2 a3 a4).trans (h.1 a a1 a2 a3 a4), fun j h3 h4 => (h2.2 j h3 h4).trans (h.2 j h3 h4)⟩
theorem FrR_up {σ : dSg} {a j : Nat} {v : Int32} (h : (61 ≤ a ∧ a < 270) ∨ a = 59 ∨ a = 60 ∨ (a = 57 ∧ (j = 3 ∨ j = 6))) : FrR σ (up2 σ a j v) := ⟨fun b _ _ _ _ => up2_row σ v (by omega), fun k h1 h2 => up2_n σ v (by omega)⟩
theorem FrR_ShC {P : dP} {fl : Nat → Bool} {σ τ : dSg} (W : Wf P) (h : FrR σ τ) (C : ShC P fl σ) : ShC P fl τ := ShC_congr W C fun a ha => h.1 a (by omega) (by omega) (by omega) (by omega)
variable {tb : dT} {d c t : Nat} {g : Nat → Option dE} {fl : Nat → Bool} {tg : Nat} {σ : dSg} {P : dP} {A : dA} {os ob : Nat → Nat}
/-- a leg's cells -/
def lg1 (σ : dSg) (n : Nat) (kd sd bd x y : Int32) : dSg := up2 (up2 (up2 (up2 (up2 (up2 (up2 σ (61 + n) 0 kd) (61 + n) 1 sd) (61 + n) 2 bd) (61 + n) 5 x) (61 + n) 6 y) (61 + n) 7 x) (61 + n) 8 y
theorem kc_next {n x y : Nat} {kd sd bd : Int32} (h3 : σ 57 3 = Int32.ofNat n) (hn : n < 209) (hx : σ 59 0 = Int32.ofNat x) (hy : σ 59 1 = Int32.ofNat y) : dX tb d 41 0 [.ref 57, .int kd, .int sd, .int bd, .null] [] (c, t, hp g (SH fl tg) σ) = some (some (.ref (61 + n)), (c, t, hp g (SH fl tg) (lg1 σ n kd sd bd (Int32.ofNat x) (Int32.ofNat y)))) := by
  rw [sg_X3_nextLeg_0]
  simp (disch := omega) only [bq_s, aq_I, aq_R, aq_V, cq_t, cq_f, if_true, if_false, Bool.true_and, Bool.and_true, Bool.or_true, Bool.true_or, gi_45_0, gi_45_1, gi_45_2, gi_45_3, gi_59_0, gi_59_1, gi_59_2, gi_59_3, gi_57_3, gi_57_4, gi_57_6, gi_57_8, gi_57_9, gi_57_10, gi_57_11, gi_57_12, gi_57_13, gi_57_14, gi_l, pi_45_0, pi_45_1, pi_45_2, pi_45_3, pi_59_0, pi_59_1, pi_59_2, pi_59_3, pi_57_3, pi_57_4, pi_57_6, pi_57_8, pi_57_9, pi_57_10, pi_57_11, pi_57_12, pi_57_13, pi_57_14, pi_l, gr_57_0, gr_57_1, gr_57_2, gr_57_5, gr_57_7, ld_60, sv_60, is_45, is_59, is_57, is_l, lr_58, h3, up2_row, hx, hy]
  rfl
theorem kc_close {n T : Nat} {w : Int32} (h3 : σ 57 3 = Int32.ofNat n) (h6 : σ 57 6 = Int32.ofNat T) (hn : n < 209) : dX tb d 42 0 [.ref 57, .ref (61 + n), .int w] [] (c, t, hp g (SH fl tg) σ) = some (none, (c, t, hp g (SH fl tg) (up2 (up2 (up2 (up2 σ (61 + n) 3 (Int32.ofNat T)) 57 6 (Int32.ofNat T + w)) (61 + n) 4 (Int32.ofNat T + w)) 57 3 (Int32.ofNat (n + 1))))) := by
  rw [sg_X3_closeLeg_0]
  simp (disch := omega) only [bq_s, aq_I, aq_R, aq_V, cq_t, cq_f, if_true, if_false, Bool.true_and, Bool.and_true, Bool.or_true, Bool.true_or, gi_45_0, gi_45_1, gi_45_2, gi_45_3, gi_59_0, gi_59_1, gi_59_2, gi_59_3, gi_57_3, gi_57_4, gi_57_6, gi_57_8, gi_57_9, gi_57_10, gi_57_11, gi_57_12, gi_57_13, gi_57_14, gi_l, pi_45_0, pi_45_1, pi_45_2, pi_45_3, pi_59_0, pi_59_1, pi_59_2, pi_59_3, pi_57_3, pi_57_4, pi_57_6, pi_57_8, pi_57_9, pi_57_10, pi_57_11, pi_57_12, pi_57_13, pi_57_14, pi_l, gr_57_0, gr_57_1, gr_57_2, gr_57_5, gr_57_7, ld_60, sv_60, is_45, is_59, is_57, is_l, lr_58, h3, h6, up2_row, up2_n, up2_s, ia_1]
/-- a leg appended -/
theorem LgC_app {l : List dF} {τ : dSg} {f : dF} (h : LgC P l σ) (h3 : τ 57 3 = Int32.ofNat (l.length + 1)) (h6 : τ 57 6 = Int32.ofNat (tot l + fL f)) (ho : ∀ p, p < l.length → τ (61 + p) = σ (61 + p)) (hf : τ (61 + l.length) 0 = Int32.ofNat (kC (fK f)) ∧ τ (61 + l.length) 1 = encS (fS f) ∧ τ (61 + l.length) 2 = Int32.ofNat (fB f) ∧ τ (61 + l.length) 3 = Int32.ofNat (tot l) ∧ τ (61 + l.length) 4 = Int32.ofNat (tot l + fL f) ∧ τ (61 + l.length) 5 = Int32.ofNat (fX f) ∧ τ (61 + l.length) 6 = Int32.ofNat (fY f) ∧ τ (61 + l.length) 7 = Int32.ofNat (gX f) ∧ τ (61 + l.length) 8 = Int32.ofNat (gY f) ∧ τ (61 + l.length) 9 = Int32.ofNat (fW f) ∧ τ (61 + l.length) 10 = Int32.ofNat (fU P f)) : LgC P (l ++ [f]) τ := by
  refine ⟨by rw [List.length_append, List.length_singleton]; exact h3, by rw [tot_app, tot_one]; exact h6, fun p f' hp => ?_⟩
  rw [List.getElem?_append] at hp
  split at hp
  · rename_i hlt
    have := h.2.2 p f' hp
    rw [List.take_append_of_le_length (by omega), ho p hlt]
    exact this
  · rename_i hge
    have hp1 : p = l.length := by
      obtain ⟨q, -⟩ := List.getElem?_eq_some_iff.mp hp
      rw [List.length_singleton] at q
      omega
    subst hp1
    rw [Nat.sub_self] at hp
    have : f' = f := by simpa using hp.symm
    subst this
    rw [List.take_left]
    exact hf
theorem kc_stand {l : List dF} {x y : Nat} {pen : Int32} {dwn : Bool} (h : LgC P l σ) (hl : l.length < 209) (hd : HdC 59 σ x y pen dwn) (f : dF) {kd sd bd w : Int32} (h1 : kd = Int32.ofNat (kC (fK f))) (h2 : sd = encS (fS f)) (h3 : bd = Int32.ofNat (fB f)) (h4 : w = Int32.ofNat (fL f)) (hX : fX f = x ∧ fY f = y ∧ gX f = x ∧ gY f = y) (hk : fK f ≠ 2 ∧ fK f ≠ 5) : ∃ τ, dX tb (d + 1) 39 0 [.ref 57, .int kd, .int sd, .int bd, .int w, .null] [] (c, t, hp g (SH fl tg) σ) = some (none, (c, t, hp g (SH fl tg) τ)) ∧ LgC P (l ++ [f]) τ ∧ FrR σ τ ∧ τ 59 = σ 59 ∧ τ 60 = σ 60 := by
  obtain ⟨e1, e2, e3⟩ := h
  obtain ⟨d0, d1, d2, d3⟩ := hd
  have nl := kc_next (tb := tb) (d := d) (c := c) (t := t) (g := g) (fl := fl) (tg := tg) (kd := kd) (sd := sd) (bd := bd) e1 hl d0 d1
  have r3 : (up2 (up2 (lg1 σ l.length kd sd bd (Int32.ofNat x) (Int32.ofNat y)) (61 + l.length) 9 0) (61 + l.length) 10 0) 57 3 = Int32.ofNat l.length := by unfold lg1; simp (disch := omega) only [up2_row]; exact e1
  have r6 : (up2 (up2 (lg1 σ l.length kd sd bd (Int32.ofNat x) (Int32.ofNat y)) (61 + l.length) 9 0) (61 + l.length) 10 0) 57 6 = Int32.ofNat (tot l) := by unfold lg1; simp (disch := omega) only [up2_row]; exact e2
  have cl := kc_close (tb := tb) (d := d) (c := c) (t := t) (g := g) (fl := fl) (tg := tg) (w := w) r3 r6 hl
  refine ⟨up2 (up2 (up2 (up2 (up2 (up2 (lg1 σ l.length kd sd bd (Int32.ofNat x) (Int32.ofNat y)) (61 + l.length) 9 0) (61 + l.length) 10 0) (61 + l.length) 3 (Int32.ofNat (tot l))) 57 6 (Int32.ofNat (tot l) + w)) (61 + l.length) 4 (Int32.ofNat (tot l) + w)) 57 3 (Int32.ofNat (l.length + 1)), ?_, LgC_app ⟨e1, e2, e3⟩ (up2_s _ _ _ _) (by simp (disch := omega) only [up2_n, up2_s]; rw [h4, i_add]) (fun p hp => by unfold lg1; simp (disch := omega) only [up2_row]) ?_, ?_, by unfold lg1; simp (disch := omega) only [up2_row], by unfold lg1; simp (disch := omega) only [up2_row]⟩
  · rw [sg_X3_layStanding_0]
    simp (disch := omega) only [bq_s, aq_I, aq_R, aq_V, cq_t, cq_f, if_true, if_false, Bool.true_and, Bool.and_true, Bool.or_true, Bool.true_or, gi_45_0, gi_45_1, gi_45_2, gi_45_3, gi_59_0, gi_59_1, gi_59_2, gi_59_3, gi_57_3, gi_57_4, gi_57_6, gi_57_8, gi_57_9, gi_57_10, gi_57_11, gi_57_12, gi_57_13, gi_57_14, gi_l, pi_45_0, pi_45_1, pi_45_2, pi_45_3, pi_59_0, pi_59_1, pi_59_2, pi_59_3, pi_57_3, pi_57_4, pi_57_6, pi_57_8, pi_57_9, pi_57_10, pi_57_11, pi_57_12, pi_57_13, pi_57_14, pi_l, gr_57_0, gr_57_1, gr_57_2, gr_57_5, gr_57_7, ld_60, sv_60, is_45, is_59, is_57, is_l, lr_58, ia_0, ia_1, is_m0, is_m1, im_8, ml_8, im_11, ml_11, im_12, ml_12, im_88, ml_88, im_89, ml_89, j_lt_0, j_gt_0, j_le_0, j_ge_0, j_eq_0, j_lt_1, j_gt_1, j_le_1, j_ge_1, j_eq_1, j_lt_2, j_gt_2, j_le_2, j_ge_2, j_eq_2, j_lt_3, j_gt_3, j_le_3, j_ge_3, j_eq_3, j_lt_4, j_gt_4, j_le_4, j_ge_4, j_eq_4, j_lt_5, j_gt_5, j_le_5, j_ge_5, j_eq_5, j_lt_6, j_gt_6, j_le_6, j_ge_6, j_eq_6, j_lt_8, j_gt_8, j_le_8, j_ge_8, j_eq_8, j_lt_12, j_gt_12, j_le_12, j_ge_12, j_eq_12, j_lt_209, j_gt_209, j_le_209, j_ge_209, j_eq_209, j_lt_255, j_gt_255, j_le_255, j_ge_255, j_eq_255, j_lt_1000000000, j_gt_1000000000, j_le_1000000000, j_ge_1000000000, j_eq_1000000000, e1, hl, nl, cl]
  · unfold lg1
    simp (disch := omega) only [up2_n, up2_s]
    refine ⟨h1, h2, h3, trivial, by rw [h4, i_add], by rw [hX.1], by rw [hX.2.1], by rw [hX.2.2.1], by rw [hX.2.2.2], ?_, ?_⟩
    · unfold fW; rw [if_neg (by omega)]; rfl
    · unfold fU; rw [if_neg hk.1, if_neg hk.2]; rfl
  · unfold lg1
    exact FrR_trans (FrR_up (by omega)) (FrR_trans (FrR_up (by omega)) (FrR_trans (FrR_up (by omega)) (FrR_trans (FrR_up (by omega)) (FrR_trans (FrR_up (by omega)) (FrR_trans (FrR_up (by omega)) (FrR_trans (FrR_up (by omega)) (FrR_trans (FrR_up (by omega)) (FrR_trans (FrR_up (by omega)) (FrR_trans (FrR_up (by omega)) (FrR_trans (FrR_up (by omega)) (FrR_trans (FrR_up (by omega)) (FrR_up (by omega)))))))))))))
theorem kc_move (C0 : ShC P fl σ) (W : Wf P) {l : List dF} {x y s b j u : Nat} {pen : Int32} {dwn : Bool} (h : LgC P l σ) (hl : l.length < 209) (hd : HdC 59 σ x y pen dwn) (hs : s < pM P) (hb : b < bgn P s) (hj : j < pN P s) (hx : x ≤ 500) (hy : y ≤ 500) (f : dF) {kd : Int32} (h1 : kd = Int32.ofNat (kC (fK f))) (h2 : fS f = s ∧ fB f = b) (h4 : fL f = u * wayN x y (dXn P s b j) (dYn P s b j)) (hX : fX f = x ∧ fY f = y ∧ gX f = dXn P s b j ∧ gY f = dYn P s b j) (hk : fK f = 2 ∨ fK f = 5) (hu : fU P f = u) : ∃ τ, dX tb (d + 3) 40 0 [.ref 57, .int kd, .int (Int32.ofNat s), .int (Int32.ofNat b), .int (Int32.ofNat j), .int (Int32.ofNat u), .null] [] (c, t, hp g (SH fl tg) σ) = some (none, (c, t, hp g (SH fl tg) τ)) ∧ LgC P (l ++ [f]) τ ∧ FrR σ τ ∧ HdC 59 τ (dXn P s b j) (dYn P s b j) pen dwn ∧ τ 60 = σ 60 := by
  have hm := W.1
  obtain ⟨e1, e2, e3⟩ := h
  obtain ⟨d0, d1, d2, d3⟩ := hd
  have X1 := dXn_le (b := b) (k := j) W hs hj
  have Y1 := dYn_le (b := b) (k := j) W hs hj
  have nl := kc_next (tb := tb) (d := d + 2) (c := c) (t := t) (g := g) (fl := fl) (tg := tg) (kd := kd) (sd := Int32.ofNat s) (bd := Int32.ofNat b) e1 hl d0 d1
  have C1 : ShC P fl (lg1 σ l.length kd (Int32.ofNat s) (Int32.ofNat b) (Int32.ofNat x) (Int32.ofNat y)) := ShC_congr W C0 fun a ha => by unfold lg1; simp (disch := omega) only [up2_row]
  have C2 : ShC P fl (up2 (lg1 σ l.length kd (Int32.ofNat s) (Int32.ofNat b) (Int32.ofNat x) (Int32.ofNat y)) (61 + l.length) 7 (Int32.ofNat (dXn P s b j))) := ShC_congr W C1 fun a ha => up2_row _ _ (by omega)
  have q5 : ∀ v, (up2 (up2 (lg1 σ l.length kd (Int32.ofNat s) (Int32.ofNat b) (Int32.ofNat x) (Int32.ofNat y)) (61 + l.length) 7 (Int32.ofNat (dXn P s b j))) (61 + l.length) 8 v) (61 + l.length) 5 = Int32.ofNat x := fun v => by unfold lg1; simp (disch := omega) only [up2_n, up2_s]
  have q6 : ∀ v, (up2 (up2 (lg1 σ l.length kd (Int32.ofNat s) (Int32.ofNat b) (Int32.ofNat x) (Int32.ofNat y)) (61 + l.length) 7 (Int32.ofNat (dXn P s b j))) (61 + l.length) 8 v) (61 + l.length) 6 = Int32.ofNat y := fun v => by unfold lg1; simp (disch := omega) only [up2_n, up2_s]
  have q3 : (lg1 σ l.length kd (Int32.ofNat s) (Int32.ofNat b) (Int32.ofNat x) (Int32.ofNat y)) 57 = σ 57 := by unfold lg1; simp (disch := omega) only [up2_row]
  have q59 : (lg1 σ l.length kd (Int32.ofNat s) (Int32.ofNat b) (Int32.ofNat x) (Int32.ofNat y)) 59 = σ 59 := by unfold lg1; simp (disch := omega) only [up2_row]
  have q60 : (lg1 σ l.length kd (Int32.ofNat s) (Int32.ofNat b) (Int32.ofNat x) (Int32.ofNat y)) 60 = σ 60 := by unfold lg1; simp (disch := omega) only [up2_row]
  have F1 : FrR σ (lg1 σ l.length kd (Int32.ofNat s) (Int32.ofNat b) (Int32.ofNat x) (Int32.ofNat y)) := by
    unfold lg1
    exact FrR_trans (FrR_up (by omega)) (FrR_trans (FrR_up (by omega)) (FrR_trans (FrR_up (by omega)) (FrR_trans (FrR_up (by omega)) (FrR_trans (FrR_up (by omega)) (FrR_trans (FrR_up (by omega)) (FrR_up (by omega)))))))
  have ob0 : ∀ p, p < l.length → (lg1 σ l.length kd (Int32.ofNat s) (Int32.ofNat b) (Int32.ofNat x) (Int32.ofNat y)) (61 + p) = σ (61 + p) := fun p hp => by unfold lg1; simp (disch := omega) only [up2_row]
  have q012 : (lg1 σ l.length kd (Int32.ofNat s) (Int32.ofNat b) (Int32.ofNat x) (Int32.ofNat y)) (61 + l.length) 0 = kd ∧ (lg1 σ l.length kd (Int32.ofNat s) (Int32.ofNat b) (Int32.ofNat x) (Int32.ofNat y)) (61 + l.length) 1 = Int32.ofNat s ∧ (lg1 σ l.length kd (Int32.ofNat s) (Int32.ofNat b) (Int32.ofNat x) (Int32.ofNat y)) (61 + l.length) 2 = Int32.ofNat b ∧ (lg1 σ l.length kd (Int32.ofNat s) (Int32.ofNat b) (Int32.ofNat x) (Int32.ofNat y)) (61 + l.length) 5 = Int32.ofNat x ∧ (lg1 σ l.length kd (Int32.ofNat s) (Int32.ofNat b) (Int32.ofNat x) (Int32.ofNat y)) (61 + l.length) 6 = Int32.ofNat y := by
    unfold lg1
    simp (disch := omega) only [up2_n, up2_s, and_self]
  generalize lg1 σ l.length kd (Int32.ofNat s) (Int32.ofNat b) (Int32.ofNat x) (Int32.ofNat y) = υ at *
  have cl := kc_close (tb := tb) (d := d + 2) (c := c) (t := t) (g := g) (fl := fl) (tg := tg) (σ := up2 (up2 (up2 (up2 υ (61 + l.length) 7 (Int32.ofNat (dXn P s b j))) (61 + l.length) 8 (Int32.ofNat (dYn P s b j))) (61 + l.length) 9 (Int32.ofNat (wayN (dXn P s b j) (dYn P s b j) x y))) (61 + l.length) 10 (Int32.ofNat u)) (n := l.length) (T := tot l) (w := Int32.ofNat (wayN (dXn P s b j) (dYn P s b j) x y * u)) (by simp (disch := omega) only [up2_row]; rw [q3]; exact e1) (by simp (disch := omega) only [up2_row]; rw [q3]; exact e2) hl
  have hw : wayN (dXn P s b j) (dYn P s b j) x y * u = fL f := by rw [h4, Nat.mul_comm, way_comm]
  refine ⟨up2 (up2 (up2 (up2 (up2 (up2 (up2 (up2 (up2 (up2 υ (61 + l.length) 7 (Int32.ofNat (dXn P s b j))) (61 + l.length) 8 (Int32.ofNat (dYn P s b j))) (61 + l.length) 9 (Int32.ofNat (wayN (dXn P s b j) (dYn P s b j) x y))) (61 + l.length) 10 (Int32.ofNat u)) (61 + l.length) 3 (Int32.ofNat (tot l))) 57 6 (Int32.ofNat (tot l) + Int32.ofNat (wayN (dXn P s b j) (dYn P s b j) x y * u))) (61 + l.length) 4 (Int32.ofNat (tot l) + Int32.ofNat (wayN (dXn P s b j) (dYn P s b j) x y * u))) 57 3 (Int32.ofNat (l.length + 1))) 59 0 (Int32.ofNat (dXn P s b j))) 59 1 (Int32.ofNat (dYn P s b j)), ?_, LgC_app ⟨e1, e2, e3⟩ ?_ ?_ (fun p hp => ?_) ?_, ?_, ⟨?_, ?_, ?_, ?_⟩, ?_⟩
  · rw [sg_X3_layMoving_0]
    simp (disch := omega) only [bq_s, aq_I, aq_R, aq_V, cq_t, cq_f, if_true, if_false, Bool.true_and, Bool.and_true, Bool.or_true, Bool.true_or, gi_1_3, gi_s, pi_1_3, pi_s, gr_0_0, gr_0_1, gr_0_2, gr_0_3, gr_1_0, gr_1_1, gr_1_2, gr_s_7, gr_s_8, gr_s_9, gr_s_10, ld_3, ld_4, ld_x, ld_y, ld_u, ld_v, sv_3, sv_4, sv_x, sv_y, sv_u, sv_v, is_0, is_1, is_s, lr_2, gi_45_0, gi_45_1, gi_45_2, gi_45_3, gi_59_0, gi_59_1, gi_59_2, gi_59_3, gi_57_3, gi_57_4, gi_57_6, gi_57_8, gi_57_9, gi_57_10, gi_57_11, gi_57_12, gi_57_13, gi_57_14, gi_l, pi_45_0, pi_45_1, pi_45_2, pi_45_3, pi_59_0, pi_59_1, pi_59_2, pi_59_3, pi_57_3, pi_57_4, pi_57_6, pi_57_8, pi_57_9, pi_57_10, pi_57_11, pi_57_12, pi_57_13, pi_57_14, pi_l, gr_57_0, gr_57_1, gr_57_2, gr_57_5, gr_57_7, ld_60, sv_60, is_45, is_59, is_57, is_l, lr_58, ia_0, ia_1, is_m0, is_m1, im_8, ml_8, im_11, ml_11, im_12, ml_12, im_88, ml_88, im_89, ml_89, j_lt_0, j_gt_0, j_le_0, j_ge_0, j_eq_0, j_lt_1, j_gt_1, j_le_1, j_ge_1, j_eq_1, j_lt_2, j_gt_2, j_le_2, j_ge_2, j_eq_2, j_lt_3, j_gt_3, j_le_3, j_ge_3, j_eq_3, j_lt_4, j_gt_4, j_le_4, j_ge_4, j_eq_4, j_lt_5, j_gt_5, j_le_5, j_ge_5, j_eq_5, j_lt_6, j_gt_6, j_le_6, j_ge_6, j_eq_6, j_lt_8, j_gt_8, j_le_8, j_ge_8, j_eq_8, j_lt_12, j_gt_12, j_le_12, j_ge_12, j_eq_12, j_lt_209, j_gt_209, j_le_209, j_ge_209, j_eq_209, j_lt_255, j_gt_255, j_le_255, j_ge_255, j_eq_255, j_lt_1000000000, j_gt_1000000000, j_le_1000000000, j_ge_1000000000, j_eq_1000000000, e1, hl, nl, kc_dx C1 W hs hb, kc_dy C2 W hs hb, q5, q6, up2_n, up2_s, sg_X6_wayOf_0, i_way X1 Y1 hx hy, i_mul, cl, up2_row]
  · simp (disch := omega) only [up2_n, up2_s]
  · simp (disch := omega) only [up2_n, up2_s]; rw [hw, i_add]
  · simp (disch := omega) only [up2_row]; exact ob0 p hp
  · simp (disch := omega) only [up2_n, up2_s]
    refine ⟨q012.1.trans h1, by rw [q012.2.1, h2.1, encS_lt (by omega)], by rw [q012.2.2.1, h2.2], trivial, by rw [hw, i_add], by rw [q012.2.2.2.1, hX.1], by rw [q012.2.2.2.2, hX.2.1], by rw [hX.2.2.1], by rw [hX.2.2.2], ?_, by rw [hu]⟩
    unfold fW
    rw [if_pos hk, hX.1, hX.2.1, hX.2.2.1, hX.2.2.2, way_comm]
  · exact FrR_trans F1 (FrR_trans (FrR_up (by omega)) (FrR_trans (FrR_up (by omega)) (FrR_trans (FrR_up (by omega)) (FrR_trans (FrR_up (by omega)) (FrR_trans (FrR_up (by omega)) (FrR_trans (FrR_up (by omega)) (FrR_trans (FrR_up (by omega)) (FrR_trans (FrR_up (by omega)) (FrR_trans (FrR_up (by omega)) (FrR_up (by omega)))))))))))
  · simp (disch := omega) only [up2_n, up2_s]
  · simp (disch := omega) only [up2_s]
  · simp (disch := omega) only [up2_n]; rw [q59]; exact d2
  · simp (disch := omega) only [up2_n]; rw [q59]; exact d3
  · simp (disch := omega) only [up2_row]; exact q60
end CLY
