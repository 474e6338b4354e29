/-! TWO PIECES TOUCH: the class's test (boxes and sides) and the reference's (ends on a piece, or a proper crossing) say the same -/
section GEO
def crI (x1 y1 x2 y2 x y : Int) : Int := (x2 - x1) * (y - y1) - (y2 - y1) * (x - x1)
def btw (p q r : Int) : Prop := min p q ≤ r ∧ r ≤ max p q
def onI (x1 y1 x2 y2 x y : Int) : Prop := crI x1 y1 x2 y2 x y = 0 ∧ btw x1 x2 x ∧ btw y1 y2 y
def ovl (p q r s : Int) : Prop := min r s ≤ max p q ∧ min p q ≤ max r s
def T4 (x1 y1 x2 y2 x3 y3 x4 y4 : Int) : Prop := ovl x1 x2 x3 x4 ∧ ovl y1 y2 y3 y4 ∧ crI x1 y1 x2 y2 x3 y3 * crI x1 y1 x2 y2 x4 y4 ≤ 0 ∧ crI x3 y3 x4 y4 x1 y1 * crI x3 y3 x4 y4 x2 y2 ≤ 0
def M4 (x1 y1 x2 y2 x3 y3 x4 y4 : Int) : Prop := onI x1 y1 x2 y2 x3 y3 ∨ onI x1 y1 x2 y2 x4 y4 ∨ onI x3 y3 x4 y4 x1 y1 ∨ onI x3 y3 x4 y4 x2 y2 ∨ (crI x1 y1 x2 y2 x3 y3 * crI x1 y1 x2 y2 x4 y4 < 0 ∧ crI x3 y3 x4 y4 x1 y1 * crI x3 y3 x4 y4 x2 y2 < 0)
theorem mul_np {a b : Int} (ha : 0 ≤ a) (hb : b ≤ 0) : a * b ≤ 0 := by
  have h := Int.mul_nonneg ha (show 0 ≤ -b by omega)
  rw [Int.mul_neg] at h
  omega
theorem sq_pos' {a : Int} (h : a ≠ 0) : 0 < a * a := by
  rcases Int.lt_or_gt_of_ne h with h1 | h1
  · exact Int.mul_pos_of_neg_of_neg h1 h1
  · exact Int.mul_pos h1 h1
theorem sq_nn (a : Int) : 0 ≤ a * a := by
  by_cases h : a = 0
  · subst h; decide
  · exact Int.le_of_lt (sq_pos' h)
theorem sq_le {a b : Int} (h : a ≠ 0) (hb : a * a * b ≤ 0) : b ≤ 0 := by
  refine Int.not_lt.mp fun h2 => ?_
  have := Int.mul_pos (sq_pos' h) h2
  omega
theorem btw_mul {p q r : Int} : btw p q r ↔ (r - p) * (r - q) ≤ 0 := by
  unfold btw
  constructor
  · intro h
    by_cases h1 : p ≤ r ∧ r ≤ q
    · exact mul_np (by omega) (by omega)
    · rw [Int.mul_comm]
      exact mul_np (by omega) (by omega)
  · intro h
    by_cases h1 : r < p ∧ r < q
    · have := Int.mul_pos_of_neg_of_neg (show r - p < 0 by omega) (show r - q < 0 by omega)
      omega
    · by_cases h2 : p < r ∧ q < r
      · have := Int.mul_pos (show 0 < r - p by omega) (show 0 < r - q by omega)
        omega
      · omega
variable {x1 y1 x2 y2 x3 y3 x4 y4 x y : Int}
def dtI (x1 y1 x2 y2 x3 y3 x4 y4 : Int) : Int := (x2 - x1) * (y4 - y3) - (y2 - y1) * (x4 - x3)
theorem id_2 : crI x1 y1 x2 y2 x4 y4 = crI x1 y1 x2 y2 x3 y3 + dtI x1 y1 x2 y2 x3 y3 x4 y4 := by unfold crI dtI; grind
theorem id_4 : crI x3 y3 x4 y4 x2 y2 = crI x3 y3 x4 y4 x1 y1 - dtI x1 y1 x2 y2 x3 y3 x4 y4 := by unfold crI dtI; grind
theorem id_x : (x2 - x1) * crI x3 y3 x4 y4 x1 y1 = (x3 - x1) * dtI x1 y1 x2 y2 x3 y3 x4 y4 - (x4 - x3) * crI x1 y1 x2 y2 x3 y3 := by unfold crI dtI; grind
theorem id_y : (y2 - y1) * crI x3 y3 x4 y4 x1 y1 = (y3 - y1) * dtI x1 y1 x2 y2 x3 y3 x4 y4 - (y4 - y3) * crI x1 y1 x2 y2 x3 y3 := by unfold crI dtI; grind
theorem id_w : x2 * crI x3 y3 x4 y4 x1 y1 - x1 * crI x3 y3 x4 y4 x2 y2 = x3 * crI x1 y1 x2 y2 x4 y4 - x4 * crI x1 y1 x2 y2 x3 y3 := by unfold crI; grind
theorem id_s : crI x2 y2 x1 y1 x y = -crI x1 y1 x2 y2 x y := by unfold crI; grind
theorem id_t : crI y1 x1 y2 x2 y x = -crI x1 y1 x2 y2 x y := by unfold crI; grind
theorem sq2 {u a b p q D : Int} (h1 : u * p = a * D) (h2 : u * q = b * D) : u * u * (p * q) = D * D * (a * b) := by
  have : (u * p) * (u * q) = (a * D) * (b * D) := by rw [h1, h2]
  grind
theorem e_x (h : crI x1 y1 x2 y2 x3 y3 = 0) : (x2 - x1) * (x2 - x1) * (crI x3 y3 x4 y4 x1 y1 * crI x3 y3 x4 y4 x2 y2) = dtI x1 y1 x2 y2 x3 y3 x4 y4 * dtI x1 y1 x2 y2 x3 y3 x4 y4 * ((x3 - x1) * (x3 - x2)) := by
  have i1 := id_x (x1 := x1) (y1 := y1) (x2 := x2) (y2 := y2) (x3 := x3) (y3 := y3) (x4 := x4) (y4 := y4)
  have i4 := id_4 (x1 := x1) (y1 := y1) (x2 := x2) (y2 := y2) (x3 := x3) (y3 := y3) (x4 := x4) (y4 := y4)
  rw [h, Int.mul_zero, Int.sub_zero] at i1
  refine sq2 i1 ?_
  rw [i4, Int.mul_sub, i1]
  grind
theorem e_y (h : crI x1 y1 x2 y2 x3 y3 = 0) : (y2 - y1) * (y2 - y1) * (crI x3 y3 x4 y4 x1 y1 * crI x3 y3 x4 y4 x2 y2) = dtI x1 y1 x2 y2 x3 y3 x4 y4 * dtI x1 y1 x2 y2 x3 y3 x4 y4 * ((y3 - y1) * (y3 - y2)) := by
  have i1 := id_y (x1 := x1) (y1 := y1) (x2 := x2) (y2 := y2) (x3 := x3) (y3 := y3) (x4 := x4) (y4 := y4)
  have i4 := id_4 (x1 := x1) (y1 := y1) (x2 := x2) (y2 := y2) (x3 := x3) (y3 := y3) (x4 := x4) (y4 := y4)
  rw [h, Int.mul_zero, Int.sub_zero] at i1
  refine sq2 i1 ?_
  rw [i4, Int.mul_sub, i1]
  grind
theorem on_T (hn : x1 ≠ x2 ∨ y1 ≠ y2) (h : onI x1 y1 x2 y2 x3 y3) : T4 x1 y1 x2 y2 x3 y3 x4 y4 := by
  obtain ⟨h1, h2, h3⟩ := h
  refine ⟨?_, ?_, ?_, ?_⟩
  · unfold btw at h2; unfold ovl; omega
  · unfold btw at h3; unfold ovl; omega
  · rw [h1, Int.zero_mul]; exact Int.le_refl _
  · rcases hn with hn | hn
    · refine sq_le (a := x2 - x1) (by omega) ?_
      rw [e_x h1]
      exact mul_np (sq_nn _) (btw_mul.mp h2)
    · refine sq_le (a := y2 - y1) (by omega) ?_
      rw [e_y h1]
      exact mul_np (sq_nn _) (btw_mul.mp h3)
theorem T_swap (h : T4 x1 y1 x2 y2 x4 y4 x3 y3) : T4 x1 y1 x2 y2 x3 y3 x4 y4 := by
  obtain ⟨h1, h2, h3, h4⟩ := h
  refine ⟨?_, ?_, ?_, ?_⟩
  · unfold ovl at h1 ⊢; omega
  · unfold ovl at h2 ⊢; omega
  · rw [Int.mul_comm]; exact h3
  · rw [id_s (x1 := x3) (y1 := y3), id_s (x1 := x3) (y1 := y3), Int.neg_mul_neg] at h4; exact h4
theorem T_turn (h : T4 x3 y3 x4 y4 x1 y1 x2 y2) : T4 x1 y1 x2 y2 x3 y3 x4 y4 := by
  obtain ⟨h1, h2, h3, h4⟩ := h
  refine ⟨?_, ?_, h4, h3⟩
  · unfold ovl at h1 ⊢; omega
  · unfold ovl at h2 ⊢; omega
theorem M_swap (h : M4 x1 y1 x2 y2 x4 y4 x3 y3) : M4 x1 y1 x2 y2 x3 y3 x4 y4 := by
  rcases h with h | h | h | h | ⟨h, h2⟩
  · exact Or.inr (Or.inl h)
  · exact Or.inl h
  · refine Or.inr (Or.inr (Or.inl ⟨?_, ?_, ?_⟩))
    · have := h.1; rw [id_s] at this; omega
    · have := h.2.1; unfold btw at this ⊢; omega
    · have := h.2.2; unfold btw at this ⊢; omega
  · refine Or.inr (Or.inr (Or.inr (Or.inl ⟨?_, ?_, ?_⟩)))
    · have := h.1; rw [id_s] at this; omega
    · have := h.2.1; unfold btw at this ⊢; omega
    · have := h.2.2; unfold btw at this ⊢; omega
  · refine Or.inr (Or.inr (Or.inr (Or.inr ⟨?_, ?_⟩)))
    · rw [Int.mul_comm]; exact h
    · rw [id_s (x1 := x3) (y1 := y3), id_s (x1 := x3) (y1 := y3), Int.neg_mul_neg] at h2; exact h2
theorem M_turn (h : M4 x3 y3 x4 y4 x1 y1 x2 y2) : M4 x1 y1 x2 y2 x3 y3 x4 y4 := by
  rcases h with h | h | h | h | ⟨h, h2⟩
  · exact Or.inr (Or.inr (Or.inl h))
  · exact Or.inr (Or.inr (Or.inr (Or.inl h)))
  · exact Or.inl h
  · exact Or.inr (Or.inl h)
  · exact Or.inr (Or.inr (Or.inr (Or.inr ⟨h2, h⟩)))
theorem cr_ov1 (h1 : crI x1 y1 x2 y2 x3 y3 < 0) (h2 : 0 < crI x1 y1 x2 y2 x4 y4) (h3 : 0 < crI x3 y3 x4 y4 x1 y1) (h4 : crI x3 y3 x4 y4 x2 y2 < 0) : min x3 x4 ≤ max x1 x2 ∧ min x1 x2 ≤ max x3 x4 := by
  have w := id_w (x1 := x1) (y1 := y1) (x2 := x2) (y2 := y2) (x3 := x3) (y3 := y3) (x4 := x4) (y4 := y4)
  have i2 := id_2 (x1 := x1) (y1 := y1) (x2 := x2) (y2 := y2) (x3 := x3) (y3 := y3) (x4 := x4) (y4 := y4)
  have i4 := id_4 (x1 := x1) (y1 := y1) (x2 := x2) (y2 := y2) (x3 := x3) (y3 := y3) (x4 := x4) (y4 := y4)
  generalize crI x1 y1 x2 y2 x3 y3 = p1 at *
  generalize crI x1 y1 x2 y2 x4 y4 = p2 at *
  generalize crI x3 y3 x4 y4 x1 y1 = p3 at *
  generalize crI x3 y3 x4 y4 x2 y2 = p4 at *
  have key : ∀ z : Int, (x2 - z) * p3 + (x1 - z) * (-p4) = (x3 - z) * p2 + (x4 - z) * (-p1) := by intro z; grind
  constructor
  · refine Int.not_lt.mp fun hc => ?_
    have k := key (max x1 x2)
    have a1 : (x2 - max x1 x2) * p3 ≤ 0 := by rw [Int.mul_comm]; exact mul_np (by omega) (by omega)
    have a2 : (x1 - max x1 x2) * (-p4) ≤ 0 := by rw [Int.mul_comm]; exact mul_np (by omega) (by omega)
    have a3 : 0 < (x3 - max x1 x2) * p2 := Int.mul_pos (by omega) h2
    have a4 : 0 < (x4 - max x1 x2) * (-p1) := Int.mul_pos (by omega) (by omega)
    omega
  · refine Int.not_lt.mp fun hc => ?_
    have k := key (min x1 x2)
    have a1 : 0 ≤ (x2 - min x1 x2) * p3 := Int.mul_nonneg (by omega) (by omega)
    have a2 : 0 ≤ (x1 - min x1 x2) * (-p4) := Int.mul_nonneg (by omega) (by omega)
    have a3 : (x3 - min x1 x2) * p2 < 0 := Int.mul_neg_of_neg_of_pos (by omega) h2
    have a4 : (x4 - min x1 x2) * (-p1) < 0 := Int.mul_neg_of_neg_of_pos (by omega) (by omega)
    omega
theorem sg_np {a b : Int} (h : a * b < 0) : (a < 0 ∧ 0 < b) ∨ (0 < a ∧ b < 0) := by
  rcases Int.lt_trichotomy a 0 with h1 | h1 | h1
  · refine Or.inl ⟨h1, Int.not_le.mp fun h2 => ?_⟩
    have := Int.mul_nonneg (show 0 ≤ -a by omega) (show 0 ≤ -b by omega)
    rw [Int.neg_mul_neg] at this
    omega
  · subst h1; rw [Int.zero_mul] at h; omega
  · refine Or.inr ⟨h1, Int.not_le.mp fun h2 => ?_⟩
    have := Int.mul_nonneg (show 0 ≤ a by omega) h2
    omega
theorem cr_ov (h : crI x1 y1 x2 y2 x3 y3 * crI x1 y1 x2 y2 x4 y4 < 0) (h2 : crI x3 y3 x4 y4 x1 y1 * crI x3 y3 x4 y4 x2 y2 < 0) : ovl x1 x2 x3 x4 := by
  have i2 := id_2 (x1 := x1) (y1 := y1) (x2 := x2) (y2 := y2) (x3 := x3) (y3 := y3) (x4 := x4) (y4 := y4)
  have i4 := id_4 (x1 := x1) (y1 := y1) (x2 := x2) (y2 := y2) (x3 := x3) (y3 := y3) (x4 := x4) (y4 := y4)
  rcases sg_np h with ⟨a, b⟩ | ⟨a, b⟩
  · rcases sg_np h2 with ⟨e, f⟩ | ⟨e, f⟩
    · omega
    · exact cr_ov1 a b e f
  · rcases sg_np h2 with ⟨e, f⟩ | ⟨e, f⟩
    · have := cr_ov1 (x1 := x1) (y1 := y1) (x2 := x2) (y2 := y2) (x3 := x4) (y3 := y4) (x4 := x3) (y4 := y3) b a (by rw [id_s]; omega) (by rw [id_s]; omega)
      unfold ovl
      omega
    · omega
theorem M_T (hn : x1 ≠ x2 ∨ y1 ≠ y2) (hm : x3 ≠ x4 ∨ y3 ≠ y4) (h : M4 x1 y1 x2 y2 x3 y3 x4 y4) : T4 x1 y1 x2 y2 x3 y3 x4 y4 := by
  rcases h with h | h | h | h | ⟨h, h2⟩
  · exact on_T hn h
  · exact T_swap (on_T hn h)
  · exact T_turn (on_T hm h)
  · exact T_turn (T_swap (on_T hm h))
  · refine ⟨cr_ov h h2, ?_, Int.le_of_lt h, Int.le_of_lt h2⟩
    exact cr_ov (x1 := y1) (y1 := x1) (x2 := y2) (y2 := x2) (x3 := y3) (y3 := x3) (x4 := y4) (y4 := x4) (by rw [id_t (x1 := x1) (y1 := y1) (x2 := x2) (y2 := y2) (x := x3) (y := y3), id_t (x1 := x1) (y1 := y1) (x2 := x2) (y2 := y2) (x := x4) (y := y4), Int.neg_mul_neg]; exact h) (by rw [id_t (x1 := x3) (y1 := y3) (x2 := x4) (y2 := y4) (x := x1) (y := y1), id_t (x1 := x3) (y1 := y3) (x2 := x4) (y2 := y4) (x := x2) (y := y2), Int.neg_mul_neg]; exact h2)
theorem colx (h : crI x1 y1 x2 y2 x y = 0) (hu : x1 ≠ x2) (hb : btw x1 x2 x) : btw y1 y2 y := by
  refine btw_mul.mpr (sq_le (a := x2 - x1) (by omega) ?_)
  have e1 : (x2 - x1) * (y - y1) = (x - x1) * (y2 - y1) := by unfold crI at h; rw [Int.mul_comm (x - x1)]; omega
  have e2 : (x2 - x1) * (y - y2) = (x - x2) * (y2 - y1) := by
    have : (x2 - x1) * (y - y2) = (x2 - x1) * (y - y1) - (x2 - x1) * (y2 - y1) := by grind
    rw [this, e1]; grind
  rw [sq2 e1 e2]
  exact mul_np (sq_nn _) (btw_mul.mp hb)
theorem coly (h : crI x1 y1 x2 y2 x y = 0) (hu : y1 ≠ y2) (hb : btw y1 y2 y) : btw x1 x2 x := colx (x1 := y1) (y1 := x1) (x2 := y2) (y2 := x2) (x := y) (y := x) (by rw [id_t, h]; rfl) hu hb
theorem T_M0 (hn : x1 ≠ x2 ∨ y1 ≠ y2) (hm : x3 ≠ x4 ∨ y3 ≠ y4) (h : T4 x1 y1 x2 y2 x3 y3 x4 y4) (h1 : crI x1 y1 x2 y2 x3 y3 = 0) : M4 x1 y1 x2 y2 x3 y3 x4 y4 := by
  obtain ⟨ox, oy, t1, t2⟩ := h
  by_cases hD : dtI x1 y1 x2 y2 x3 y3 x4 y4 = 0
  · have p2 : crI x1 y1 x2 y2 x4 y4 = 0 := by rw [id_2 (x3 := x3) (y3 := y3), h1, hD]; rfl
    have ix := id_x (x1 := x1) (y1 := y1) (x2 := x2) (y2 := y2) (x3 := x3) (y3 := y3) (x4 := x4) (y4 := y4)
    have iy := id_y (x1 := x1) (y1 := y1) (x2 := x2) (y2 := y2) (x3 := x3) (y3 := y3) (x4 := x4) (y4 := y4)
    rw [h1, hD, Int.mul_zero, Int.mul_zero] at ix iy
    have p3 : crI x3 y3 x4 y4 x1 y1 = 0 := by
      rcases hn with hn | hn
      · exact (Int.mul_eq_zero.mp ix).resolve_left (by omega)
      · exact (Int.mul_eq_zero.mp iy).resolve_left (by omega)
    have p4 : crI x3 y3 x4 y4 x2 y2 = 0 := by rw [id_4 (x1 := x1) (y1 := y1), p3, hD]; rfl
    by_cases hu : x1 = x2
    · have hv : y1 ≠ y2 := hn.resolve_left (fun z => z hu)
      have hc : btw y1 y2 y3 ∨ btw y1 y2 y4 ∨ (btw y3 y4 y1 ∧ y3 ≠ y4) := by unfold ovl at oy; unfold btw; omega
      rcases hc with hc | hc | ⟨hc, hq⟩
      · exact Or.inl ⟨h1, coly h1 hv hc, hc⟩
      · exact Or.inr (Or.inl ⟨p2, coly p2 hv hc, hc⟩)
      · exact Or.inr (Or.inr (Or.inl ⟨p3, coly p3 hq hc, hc⟩))
    · have hc : btw x1 x2 x3 ∨ btw x1 x2 x4 ∨ (btw x3 x4 x1 ∧ x3 ≠ x4) := by unfold ovl at ox; unfold btw; omega
      rcases hc with hc | hc | ⟨hc, hq⟩
      · exact Or.inl ⟨h1, hc, colx h1 hu hc⟩
      · exact Or.inr (Or.inl ⟨p2, hc, colx p2 hu hc⟩)
      · exact Or.inr (Or.inr (Or.inl ⟨p3, hc, colx p3 hq hc⟩))
  · refine Or.inl ⟨h1, btw_mul.mpr (sq_le hD ?_), btw_mul.mpr (sq_le hD ?_)⟩
    · rw [← e_x h1]; exact mul_np (sq_nn _) t2
    · rw [← e_y h1]; exact mul_np (sq_nn _) t2
theorem T_M (hn : x1 ≠ x2 ∨ y1 ≠ y2) (hm : x3 ≠ x4 ∨ y3 ≠ y4) (h : T4 x1 y1 x2 y2 x3 y3 x4 y4) : M4 x1 y1 x2 y2 x3 y3 x4 y4 := by
  by_cases h1 : crI x1 y1 x2 y2 x3 y3 = 0
  · exact T_M0 hn hm h h1
  by_cases h2 : crI x1 y1 x2 y2 x4 y4 = 0
  · exact M_swap (T_M0 hn (by omega) (T_swap h) h2)
  by_cases h3 : crI x3 y3 x4 y4 x1 y1 = 0
  · exact M_turn (T_M0 hm hn (T_turn h) h3)
  by_cases h4 : crI x3 y3 x4 y4 x2 y2 = 0
  · exact M_turn (M_swap (T_M0 hm (by omega) (T_swap (T_turn h)) h4))
  obtain ⟨-, -, t1, t2⟩ := h
  have n1 := Int.mul_ne_zero h1 h2
  have n2 := Int.mul_ne_zero h3 h4
  exact Or.inr (Or.inr (Or.inr (Or.inr ⟨by omega, by omega⟩)))
theorem T_iff_M (hn : x1 ≠ x2 ∨ y1 ≠ y2) (hm : x3 ≠ x4 ∨ y3 ≠ y4) : T4 x1 y1 x2 y2 x3 y3 x4 y4 ↔ M4 x1 y1 x2 y2 x3 y3 x4 y4 := ⟨T_M hn hm, M_T hn hm⟩
end GEO
