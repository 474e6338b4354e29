/-! A STROKE CUT BY THE REFERENCE -/
section MCT
variable {tb : dT} {d c t : Nat} {g : Nat → Option dE} {fl : Nat → Bool} {tg : Nat} {σ : dSg} {P : dP} {A : dA}
theorem hp_no {S : Nat → Option dSh} {a : Nat} (h : S a = none) : hp g S σ a = g a := by unfold hp; rw [h]
theorem gl_ld {S : Nat → Option dSh} {a n m : Nat} {f : Nat → Int32} (h : S a = none) (hg : g a = some (.inl (0, n, .inl f))) (hm : m < n) (hb : m < 2 ^ 31) : dm_ldI (c, t, hp g S σ) a 0 (Int32.ofNat m) = some (f m) := by
  unfold dm_ldI dm_rowI
  dsimp only
  rw [hp_no h, hg]
  show Option.bind (bif Nat.beq 0 0 then some (n, f) else none) _ = _
  rw [show Nat.beq 0 0 = true from rfl, cond_true, Option.bind_some, i_at hm hb]
theorem gl_st {S : Nat → Option dSh} {a n m : Nat} {f : Nat → Int32} {v : Int32} (h : S a = none) (hg : g a = some (.inl (0, n, .inl f))) (hm : m < n) (hb : m < 2 ^ 31) : dm_stI (c, t, hp g S σ) a 0 (Int32.ofNat m) v = some (c, t, hp (va_up g a (some (.inl (0, n, .inl (upd f m v))))) S σ) := by
  unfold dm_stI dm_rowI
  dsimp only
  rw [hp_no h, hg]
  show Option.bind (bif Nat.beq 0 0 then some (n, f) else none) _ = _
  rw [show Nat.beq 0 0 = true from rfl, cond_true, Option.bind_some, i_at hm hb]
  refine congrArg some (congrArg (Prod.mk c) (congrArg (Prod.mk t) ?_))
  funext b
  by_cases hb : b = a
  · subst hb; rw [va_up_self, hp_no h, va_up_self]; rfl
  · rw [va_up_ne _ _ hb]; unfold hp; rw [va_up_ne _ _ hb]
def G2 (g : Nat → Option dE) (a : Nat) (fx fy : Nat → Int32) : Nat → Option dE := va_up (va_up g a (some (.inl (0, 12, .inl fx)))) (a + 1) (some (.inl (0, 12, .inl fy)))
theorem G2_x (a : Nat) (fx fy : Nat → Int32) : G2 g a fx fy a = some (.inl (0, 12, .inl fx)) := by unfold G2; rw [va_up_ne _ _ (by omega), va_up_self]
theorem G2_y (a : Nat) (fx fy : Nat → Int32) : G2 g a fx fy (a + 1) = some (.inl (0, 12, .inl fy)) := by unfold G2; rw [va_up_self]
theorem G2_ux (a : Nat) (fx fy fx' : Nat → Int32) : va_up (G2 g a fx fy) a (some (.inl (0, 12, .inl fx'))) = G2 g a fx' fy := by
  funext b
  unfold G2
  by_cases h : b = a
  · subst h; rw [va_up_self, va_up_ne _ _ (by omega), va_up_self]
  · rw [va_up_ne _ _ h]
    by_cases h2 : b = a + 1
    · subst h2; rw [va_up_self, va_up_self]
    · rw [va_up_ne _ _ h2, va_up_ne _ _ h, va_up_ne _ _ h2, va_up_ne _ _ h]
theorem G2_uy (a : Nat) (fx fy fy' : Nat → Int32) : va_up (G2 g a fx fy) (a + 1) (some (.inl (0, 12, .inl fy'))) = G2 g a fx fy' := by unfold G2; exact va_again _ _ _ _
theorem upd_s (f : Nat → Int32) (m : Nat) (v : Int32) : upd f m v m = v := by simp [upd]
theorem upd_n (f : Nat → Int32) {m k : Nat} (v : Int32) (h : k ≠ m) : upd f m v k = f k := by simp [upd, h]
theorem tot_mono (l : List dF) {p q : Nat} (h : p ≤ q) : tot (l.take p) ≤ tot (l.take q) := by
  have := tot_take (l.take q) p
  rw [List.take_take, Nat.min_eq_left h] at this
  exact this
theorem km_cutP {l : List dF} {T s n0 : Nat} {pre post : List dF} {f : dF} {l2 : Int32} (h : PhM l σ) (hl : l.length ≤ 209) (h36 : σ 270 36 = Int32.ofNat T) (hT : T ≤ 1000000) (ht : tot l ≤ 1000000) (he : l = pre ++ f :: post) (h1 : tot pre ≤ T) (hs : s < 8) (hk : ∀ f, f ∈ l → fK f ≤ 6 ∧ fS f ≤ 8) : ∀ q p, p + q = pre.length → dX tb d 131 17 [.ref 270, .int (Int32.ofNat s), .int l2, .ref n0, .ref (n0 + 1), .int 0, .int (Int32.ofNat p)] [] (c, t, hp g (SH fl tg) σ) = dX tb d 131 17 [.ref 270, .int (Int32.ofNat s), .int l2, .ref n0, .ref (n0 + 1), .int 0, .int (Int32.ofNat pre.length)] [] (c, t, hp g (SH fl tg) σ) := by
  obtain ⟨e1, e2, e3⟩ := h
  have hlen : pre.length < l.length := by rw [he, List.length_append, List.length_cons]; omega
  intro q
  induction q with
  | zero => intro p hq; rw [show p = pre.length by omega]
  | succ q ih =>
    intro p hq
    have hpp : p < pre.length := by omega
    obtain ⟨f', hf'⟩ : ∃ f', l[p]? = some f' := ⟨l[p]'(by omega), List.getElem?_eq_getElem (by omega)⟩
    obtain ⟨g0, g1, g2, g3, -⟩ := e3 p f' hf'
    obtain ⟨hk6, hk8⟩ := hk f' (List.mem_of_getElem? hf')
    have hsum : tot (l.take p) + fL f' ≤ tot pre := by
      have := tot_mono l (show p + 1 ≤ pre.length by omega)
      rw [take_get hf', tot_app, tot_one] at this
      rw [he] at this ⊢
      rw [take_pre] at this
      exact this
    have hn : ¬ l.length ≤ p := by omega
    have hn2 : ¬ T < tot (l.take p) + fL f' := by omega
    rw [sg_X7_cut_17]
    simp (disch := omega) only [bq_s, aq_I, aq_R, aq_V, cq_t, cq_f, if_true, if_false, Bool.true_and, Bool.and_true, Bool.or_true, Bool.true_or, gi_270_0, gi_270_10, gi_270_11, gi_270_12, gi_270_13, gi_270_14, gi_270_15, gi_270_21, gi_270_22, gi_270_23, gi_270_34, gi_270_35, gi_270_36, pi_270_0, pi_270_10, pi_270_11, pi_270_12, pi_270_13, pi_270_14, pi_270_15, pi_270_21, pi_270_22, pi_270_23, pi_270_34, pi_270_35, pi_270_36, gr_270_1, gr_270_2, gr_270_3, gr_270_4, gr_270_5, gr_270_6, gr_270_7, gr_270_8, gr_270_9, gr_270_16, gr_270_17, gr_270_18, gr_270_19, gr_270_20, gr_270_24, gr_270_25, gr_270_26, gr_270_27, gr_270_28, gr_270_29, gr_270_30, gr_270_31, gr_270_32, gr_270_33, ld_271, ld_272, ld_273, ld_274, ld_275, ld_276, ld_277, ld_278, ld_279, ld_280, ld_281, ld_282, ld_283, ld_284, ld_285, ld_286, ld_287, ld_288, ld_289, ld_290, ld_291, ld_292, ld_293, ld_294, sv_271, sv_272, sv_273, sv_274, sv_275, sv_276, sv_277, sv_278, sv_279, sv_280, sv_281, sv_282, sv_283, sv_284, sv_285, sv_286, sv_287, sv_288, sv_289, sv_290, sv_291, sv_292, sv_293, sv_294, is_270, ia_0, ia_1, is_m0, is_m1, im_8, ml_8, im_11, ml_11, im_12, ml_12, im_88, ml_88, im_89, ml_89, j_lt_0, j_gt_0, j_le_0, j_ge_0, j_eq_0, j_lt_1, j_gt_1, j_le_1, j_ge_1, j_eq_1, j_lt_2, j_gt_2, j_le_2, j_ge_2, j_eq_2, j_lt_3, j_gt_3, j_le_3, j_ge_3, j_eq_3, j_lt_4, j_gt_4, j_le_4, j_ge_4, j_eq_4, j_lt_5, j_gt_5, j_le_5, j_ge_5, j_eq_5, j_lt_6, j_gt_6, j_le_6, j_ge_6, j_eq_6, j_lt_8, j_gt_8, j_le_8, j_ge_8, j_eq_8, j_lt_12, j_gt_12, j_le_12, j_ge_12, j_eq_12, j_lt_209, j_gt_209, j_le_209, j_ge_209, j_eq_209, j_lt_255, j_gt_255, j_le_255, j_ge_255, j_eq_255, j_lt_1000000000, j_gt_1000000000, j_le_1000000000, j_ge_1000000000, j_eq_1000000000, e1, i_le, hn, g3, encS_eq, g0, g1, g2, h36, i_add, i_lt, hn2]
    have := ih (p + 1) (by omega)
    split
    · split <;> exact this
    · exact this
def cnt1 (i : Nat) : Nat := if i = 0 then 0 else i + 1
def KP (P : dP) (s b j i : Nat) (fx fy : Nat → Int32) : Prop := i ≠ 0 → ∀ k, k ≤ i → fx k = Int32.ofNat (dXn P s b (j + k)) ∧ fy k = Int32.ofNat (dYn P s b (j + k))
theorem km_cutL {l : List dF} {T s b j m n0 : Nat} {pre post : List dF} {f : dF} {l2 : Int32} (h : PhM l σ) (hl : l.length ≤ 209) (h36 : σ 270 36 = Int32.ofNat T) (hT : T ≤ 1000000) (ht : tot l ≤ 1000000) (he : l = pre ++ f :: post) (h1 : tot pre ≤ T) (h2 : T < tot pre + fL f) (hs : s < 8) (hk : ∀ f, f ∈ l → fK f ≤ 6 ∧ fS f ≤ 8) (hm : m ≤ 11) (hS0 : SH fl tg n0 = none) (hS1 : SH fl tg (n0 + 1) = none) : ∀ q p i (fx fy : Nat → Int32), p + q = l.length → pre.length ≤ p → i ≤ m → (l.drop p).filter (isD s) = drR P s b (j + i) (m - i) → KP P s b j i fx fy → ∃ fx' fy', dX tb d 131 17 [.ref 270, .int (Int32.ofNat s), .int l2, .ref n0, .ref (n0 + 1), .int (Int32.ofNat (cnt1 i)), .int (Int32.ofNat p)] [] (c, t, hp (G2 g n0 fx fy) (SH fl tg) σ) = dX tb d 131 17 [.ref 270, .int (Int32.ofNat s), .int l2, .ref n0, .ref (n0 + 1), .int (Int32.ofNat (cnt1 m)), .int (Int32.ofNat l.length)] [] (c, t, hp (G2 g n0 fx' fy') (SH fl tg) σ) ∧ KP P s b j m fx' fy' := by
  obtain ⟨e1, e2, e3⟩ := h
  intro q
  induction q with
  | zero =>
    intro p i fx fy hq hp0 hi hD hK
    have hp1 : p = l.length := by omega
    rw [hp1, List.drop_length] at hD
    have hmi : m - i = 0 := by
      have := congrArg List.length hD
      rw [drR_len] at this
      exact this.symm
    obtain rfl : i = m := by omega
    rw [hp1]
    exact ⟨fx, fy, rfl, hK⟩
  | succ q ih =>
    intro p i fx fy hq hp0 hi hD hK
    obtain ⟨f', hf'⟩ : ∃ f', l[p]? = some f' := ⟨l[p]'(by omega), List.getElem?_eq_getElem (by omega)⟩
    obtain ⟨g0, g1, g2, g3, g4, g5, g6, g7, g8⟩ := e3 p f' hf'
    obtain ⟨hk6, hk8⟩ := hk f' (List.mem_of_getElem? hf')
    have hsum : T < tot (l.take p) + fL f' := by
      have a1 : tot pre + fL f ≤ tot (l.take (p + 1)) := by
        have := tot_mono l (show pre.length + 1 ≤ p + 1 by omega)
        rw [take_get (l := l) (p := pre.length) (f := f) (by rw [he]; exact get_pre), tot_app, tot_one] at this
        have e : l.take pre.length = pre := by rw [he]; exact take_pre
        rw [e] at this
        exact this
      rw [take_get hf', tot_app, tot_one] at a1
      omega
    have hub : tot (l.take p) + fL f' ≤ 1000000 := by
      have := tot_take l (p + 1)
      rw [take_get hf', tot_app, tot_one] at this
      omega
    have hn : ¬ l.length ≤ p := by omega
    rw [drop_get hf', List.filter_cons] at hD
    rw [sg_X7_cut_17]
    simp (disch := omega) only [bq_s, aq_I, aq_R, aq_V, cq_t, cq_f, if_true, if_false, Bool.true_and, Bool.and_true, Bool.or_true, Bool.true_or, gi_270_0, gi_270_10, gi_270_11, gi_270_12, gi_270_13, gi_270_14, gi_270_15, gi_270_21, gi_270_22, gi_270_23, gi_270_34, gi_270_35, gi_270_36, pi_270_0, pi_270_10, pi_270_11, pi_270_12, pi_270_13, pi_270_14, pi_270_15, pi_270_21, pi_270_22, pi_270_23, pi_270_34, pi_270_35, pi_270_36, gr_270_1, gr_270_2, gr_270_3, gr_270_4, gr_270_5, gr_270_6, gr_270_7, gr_270_8, gr_270_9, gr_270_16, gr_270_17, gr_270_18, gr_270_19, gr_270_20, gr_270_24, gr_270_25, gr_270_26, gr_270_27, gr_270_28, gr_270_29, gr_270_30, gr_270_31, gr_270_32, gr_270_33, ld_271, ld_272, ld_273, ld_274, ld_275, ld_276, ld_277, ld_278, ld_279, ld_280, ld_281, ld_282, ld_283, ld_284, ld_285, ld_286, ld_287, ld_288, ld_289, ld_290, ld_291, ld_292, ld_293, ld_294, sv_271, sv_272, sv_273, sv_274, sv_275, sv_276, sv_277, sv_278, sv_279, sv_280, sv_281, sv_282, sv_283, sv_284, sv_285, sv_286, sv_287, sv_288, sv_289, sv_290, sv_291, sv_292, sv_293, sv_294, is_270, ia_0, ia_1, is_m0, is_m1, im_8, ml_8, im_11, ml_11, im_12, ml_12, im_88, ml_88, im_89, ml_89, j_lt_0, j_gt_0, j_le_0, j_ge_0, j_eq_0, j_lt_1, j_gt_1, j_le_1, j_ge_1, j_eq_1, j_lt_2, j_gt_2, j_le_2, j_ge_2, j_eq_2, j_lt_3, j_gt_3, j_le_3, j_ge_3, j_eq_3, j_lt_4, j_gt_4, j_le_4, j_ge_4, j_eq_4, j_lt_5, j_gt_5, j_le_5, j_ge_5, j_eq_5, j_lt_6, j_gt_6, j_le_6, j_ge_6, j_eq_6, j_lt_8, j_gt_8, j_le_8, j_ge_8, j_eq_8, j_lt_12, j_gt_12, j_le_12, j_ge_12, j_eq_12, j_lt_209, j_gt_209, j_le_209, j_ge_209, j_eq_209, j_lt_255, j_gt_255, j_le_255, j_ge_255, j_eq_255, j_lt_1000000000, j_gt_1000000000, j_le_1000000000, j_ge_1000000000, j_eq_1000000000, e1, i_le, hn, g3, encS_eq, g0, g1, g2, h36, i_add, i_lt, hsum]
    cases hd : isD s f'
    · rw [hd, if_neg (by decide)] at hD
      have nx := ih (p + 1) i fx fy (by omega) (by omega) hi hD hK
      by_cases q1 : fS f' = s
      · rw [if_pos q1, if_neg (fun z => by rw [isD_iff.mpr ⟨z, q1⟩] at hd; exact absurd hd (by decide))]
        exact nx
      · rw [if_neg q1]
        exact nx
    · obtain ⟨k5, ks⟩ := isD_iff.mp hd
      rw [hd, if_pos rfl] at hD
      have him : m - i ≠ 0 := fun z => by rw [z] at hD; cases hD
      obtain ⟨r, hr⟩ : ∃ r, m - i = r + 1 := ⟨m - i - 1, by omega⟩
      rw [hr] at hD
      injection hD with hD1 hD2
      have hD3 : (l.drop (p + 1)).filter (isD s) = drR P s b (j + (i + 1)) (m - (i + 1)) := by rw [hD2, show j + i + 1 = j + (i + 1) by omega, show m - (i + 1) = r by omega]
      rw [hD1] at g4 g5 g6 g7
      have x4 : σ 289 p = Int32.ofNat (dXn P s b (j + i)) := g4
      have x5 : σ 290 p = Int32.ofNat (dYn P s b (j + i)) := g5
      have x6 : σ 291 p = Int32.ofNat (dXn P s b (j + i + 1)) := g6
      have x7 : σ 292 p = Int32.ofNat (dYn P s b (j + i + 1)) := g7
      rw [if_pos ks, if_pos k5]
      have go : ∀ (ux uy : Nat → Int32), (∀ k, k ≤ i → ux k = Int32.ofNat (dXn P s b (j + k)) ∧ uy k = Int32.ofNat (dYn P s b (j + k))) → ∃ fx' fy', dX tb d 131 102 [.ref 270, .int (Int32.ofNat s), .int l2, .ref n0, .ref (n0 + 1), .int (Int32.ofNat (i + 1)), .int (Int32.ofNat p)] [] (c, t, hp (G2 g n0 ux uy) (SH fl tg) σ) = dX tb d 131 17 [.ref 270, .int (Int32.ofNat s), .int l2, .ref n0, .ref (n0 + 1), .int (Int32.ofNat (cnt1 m)), .int (Int32.ofNat l.length)] [] (c, t, hp (G2 g n0 fx' fy') (SH fl tg) σ) ∧ KP P s b j m fx' fy' := by
        intro ux uy hu
        obtain ⟨fx', fy', y1, y2⟩ := ih (p + 1) (i + 1) (upd ux (i + 1) (Int32.ofNat (dXn P s b (j + i + 1)))) (upd uy (i + 1) (Int32.ofNat (dYn P s b (j + i + 1)))) (by omega) (by omega) (by omega) hD3 (fun _ k hk2 => by
          by_cases e : k = i + 1
          · subst e; rw [upd_s, upd_s]; exact ⟨rfl, rfl⟩
          · rw [upd_n _ _ e, upd_n _ _ e]; exact hu k (by omega))
        refine ⟨fx', fy', ?_, y2⟩
        rw [sg_X7_cut_102, gr_270_30, bq_s, ld_291 (by omega), bq_s, x6, gl_st hS0 (G2_x _ _ _) (by omega) (by omega), bq_s, G2_ux, gr_270_31, bq_s, ld_292 (by omega), bq_s, x7, gl_st hS1 (G2_y _ _ _) (by omega) (by omega), bq_s, G2_uy, ia_1, ia_1]
        rw [show cnt1 (i + 1) = i + 1 + 1 from if_neg (by omega)] at y1
        exact y1
      by_cases hi0 : i = 0
      · subst hi0
        rw [show cnt1 0 = 0 from rfl, if_pos (show Int32.ofNat 0 = 0 from rfl)]
        rw [x4, show dm_stI (c, t, hp (G2 g n0 fx fy) (SH fl tg) σ) n0 0 0 (Int32.ofNat (dXn P s b (j + 0))) = _ from gl_st (m := 0) hS0 (G2_x _ _ _) (by omega) (by omega), bq_s, G2_ux, gr_270_29, bq_s, ld_290 (by omega), bq_s, x5, show dm_stI (c, t, hp (G2 g n0 (upd fx 0 (Int32.ofNat (dXn P s b (j + 0)))) fy) (SH fl tg) σ) (n0 + 1) 0 0 (Int32.ofNat (dYn P s b (j + 0))) = _ from gl_st (m := 0) hS1 (G2_y _ _ _) (by omega) (by omega), bq_s, G2_uy]
        exact go _ _ (fun k hk2 => by
          rw [show k = 0 by omega, upd_s, upd_s]
          exact ⟨rfl, rfl⟩)
      · rw [show cnt1 i = i + 1 from if_neg hi0, if_neg (by rw [j_eq_0 (by omega)]; omega)]
        exact go fx fy (fun k hk2 => hK hi0 k hk2)
theorem km_cutC {s m n0 : Nat} {fx fy : Nat → Int32} {l2 : Int32} (hs : s < 8) (hm : m ≤ 11) (hm1 : 1 ≤ m) (hS0 : SH fl tg n0 = none) (hS1 : SH fl tg (n0 + 1) = none) : ∀ q k (τ : dSg), k + q = m + 1 → (∀ a, a ≠ 271 → a ≠ 272 → τ a = σ a) → (∀ i, i < k → τ 271 (12 * s + i) = fx i ∧ τ 272 (12 * s + i) = fy i) → (∀ i, (i < 12 * s ∨ 12 * s + 12 ≤ i) → τ 271 i = σ 271 i ∧ τ 272 i = σ 272 i) → ∃ τ', dX tb d 131 152 [.ref 270, .int (Int32.ofNat s), .int l2, .ref n0, .ref (n0 + 1), .int (Int32.ofNat (m + 1)), .int (Int32.ofNat k)] [] (c, t, hp (G2 g n0 fx fy) (SH fl tg) τ) = some (none, (c, t, hp (G2 g n0 fx fy) (SH fl tg) τ')) ∧ (∀ a, a ≠ 271 → a ≠ 272 → τ' a = σ a) ∧ (∀ i, i < m + 1 → τ' 271 (12 * s + i) = fx i ∧ τ' 272 (12 * s + i) = fy i) ∧ ∀ i, (i < 12 * s ∨ 12 * s + 12 ≤ i) → τ' 271 i = σ 271 i ∧ τ' 272 i = σ 272 i := by
  intro q
  induction q with
  | zero =>
    intro k τ hq hF hk ho
    have hk1 : k = m + 1 := by omega
    subst hk1
    refine ⟨τ, ?_, hF, hk, ho⟩
    rw [sg_X7_cut_152, if_pos (by rw [i_le (by omega) (by omega)]; exact Nat.le_refl _), if_pos (by rw [j_ge_2 (by omega)]; omega)]
  | succ q ih =>
    intro k τ hq hF hk ho
    obtain ⟨τ', y1, y2⟩ := ih (k + 1) (up2 (up2 τ 271 (12 * s + k) (fx k)) 272 (12 * s + k) (fy k)) (by omega) (fun a h1 h2 => by rw [up2_row _ _ h2, up2_row _ _ h1]; exact hF a h1 h2) (fun i hi => by
      by_cases e : i = k
      · subst e
        rw [up2_n _ _ (by omega), up2_s, up2_s]
        exact ⟨rfl, rfl⟩
      · rw [up2_n _ _ (by omega), up2_n _ _ (by omega), up2_n _ _ (by omega), up2_n _ _ (by omega)]
        exact hk i (by omega)) (fun i hi => by
      rw [up2_n _ _ (by omega), up2_n _ _ (by omega), up2_n _ _ (by omega), up2_n _ _ (by omega)]
      exact ho i hi)
    refine ⟨τ', ?_, y2⟩
    rw [sg_X7_cut_152, if_neg (by rw [i_le (by omega) (by omega)]; omega), gr_270_1, bq_s, gl_ld hS0 (G2_x _ _ _) (by omega) (by omega), bq_s, ml_12, i_add, sv_271 (by omega), bq_s, gr_270_2, bq_s, gl_ld hS1 (G2_y _ _ _) (by omega) (by omega), bq_s, sv_272 (by omega), bq_s, ia_1]
    exact y1
theorem km_cut (C : ShM P σ) (W : Wf P) {l : List dF} {T s b j : Nat} {pre post : List dF} {f : dF} {l2 : Int32} (h : PhM l σ) (hl : l.length ≤ 209) (h36 : σ 270 36 = Int32.ofNat T) (hT : T ≤ 1000000) (ht : tot l ≤ 1000000) (he : l = pre ++ f :: post) (h1 : tot pre ≤ T) (h2 : T < tot pre + fL f) (hs : s < pM P) (hk : ∀ f, f ∈ l → fK f ≤ 6 ∧ fS f ≤ 8) (hj : j + 1 < pN P s) (hD : (f :: post).filter (isD s) = drR P s b j (pN P s - 1 - j)) (hS0 : SH fl tg c = none) (hS1 : SH fl tg (c + 1) = none) : ∃ τ fx fy, dX tb d 131 0 [.ref 270, .int (Int32.ofNat s), .int l2, .null, .null, .null, .null] [] (c, t, hp g (SH fl tg) σ) = some (none, (c + 1 + 1, t + 12 + 12, hp (G2 g c fx fy) (SH fl tg) τ)) ∧ ShM (cutP P s b j) τ ∧ ∀ a, a ≠ 271 → a ≠ 272 → a ≠ 273 → a ≠ 278 → τ a = σ a := by
  have hm := W.1
  have hn := (W.2.1 s hs).1
  have hlen : pre.length < l.length := by rw [he, List.length_append, List.length_cons]; omega
  have a1 := km_cutP (tb := tb) (d := d) (c := c + 1 + 1) (t := t + 12 + 12) (g := G2 g c (fun _ => 0) (fun _ => 0)) (fl := fl) (tg := tg) (n0 := c) (l2 := l2) h hl h36 hT ht he h1 (show s < 8 by omega) hk pre.length 0 (by omega)
  obtain ⟨fx, fy, b1, b2⟩ := km_cutL (tb := tb) (d := d) (c := c + 1 + 1) (t := t + 12 + 12) (g := g) (fl := fl) (tg := tg) (P := P) (s := s) (b := b) (j := j) (m := pN P s - 1 - j) (n0 := c) (l2 := l2) h hl h36 hT ht he h1 h2 (by omega) hk (by omega) hS0 hS1 (l.length - pre.length) pre.length 0 (fun _ => 0) (fun _ => 0) (by omega) (Nat.le_refl _) (Nat.zero_le _) (by rw [he, List.drop_left, Nat.add_zero, Nat.sub_zero]; exact hD) (fun z => absurd rfl z)
  have hc1 : cnt1 (pN P s - 1 - j) = (pN P s - 1 - j) + 1 := if_neg (by omega)
  obtain ⟨τ, y1, y2, y3, y4⟩ := km_cutC (tb := tb) (d := d) (c := c + 1 + 1) (t := t + 12 + 12) (g := g) (fl := fl) (tg := tg) (σ := up2 (up2 σ 278 s 1) 273 s (Int32.ofNat (pN P s - 1 - j + 1))) (s := s) (m := pN P s - 1 - j) (n0 := c) (fx := fx) (fy := fy) (l2 := l2) (by omega) (by omega) (by omega) hS0 hS1 (pN P s - 1 - j + 1) 0 (up2 (up2 σ 278 s 1) 273 s (Int32.ofNat (pN P s - 1 - j + 1))) (by omega) (fun _ _ _ => rfl) (fun i hi => absurd hi (Nat.not_lt_zero i)) (fun i _ => ⟨rfl, rfl⟩)
  refine ⟨τ, fx, fy, ?_, ⟨?_, ?_, fun v hv => ?_, ?_⟩, ?_⟩
  · rw [sg_X7_cut_0]
    have e1 : dm_new (c, t, hp g (SH fl tg) σ) 12 (.inl (0, 12, .inl fun _ => 0)) = (c + 1, t + 12, hp (va_up g c (some (.inl (0, 12, .inl fun _ => 0)))) (SH fl tg) σ) := hp_new hS0
    rw [e1, hp_new hS1]
    refine Eq.trans a1 (b1.trans ?_)
    rw [sg_X7_cut_17, gi_270_34, bq_s, h.1, if_pos (by rw [i_le (by omega) (by omega)]; exact Nat.le_refl _), gr_270_8, bq_s, sv_278 (show s < 8 by omega), bq_s, gr_270_3, bq_s, sv_273 (show s < 8 by omega), bq_s, hc1]
    exact y1
  · rw [y2 270 (by omega) (by omega), up2_row _ _ (by omega), up2_row _ _ (by omega)]; exact C.1
  · intro i hi; rw [y2 276 (by omega) (by omega), up2_row _ _ (by omega), up2_row _ _ (by omega)]; exact C.2.1 i hi
  · obtain ⟨c1, c2, c3, c4, c5, c6⟩ := C.2.2.1 v hv
    have hv8 : v < 8 := Nat.lt_of_lt_of_le hv hm
    have hvn := (W.2.1 v hv).1
    by_cases e : v = s
    · subst e
      refine ⟨?_, ?_, ?_, ?_, ?_, fun k hk2 => ?_⟩
      · rw [y2 273 (by omega) (by omega), up2_s, cutP_N, if_pos rfl, show pN P v - 1 - j + 1 = pN P v - j by omega]
      · rw [y2 274 (by omega) (by omega), up2_row _ _ (by omega), up2_row _ _ (by omega)]; exact c2
      · rw [y2 275 (by omega) (by omega), up2_row _ _ (by omega), up2_row _ _ (by omega)]; exact c3
      · rw [y2 277 (by omega) (by omega), up2_row _ _ (by omega), up2_row _ _ (by omega)]; exact c4
      · rw [y2 278 (by omega) (by omega), up2_n _ _ (by omega), up2_s, cutP_C, if_pos rfl]; rfl
      · rw [cutP_N, if_pos rfl] at hk2
        rw [cutP_X, if_pos rfl, cutP_Y, if_pos rfl, (y3 k (by omega)).1, (y3 k (by omega)).2]
        exact b2 (by omega) k (by omega)
    · refine ⟨?_, ?_, ?_, ?_, ?_, fun k hk2 => ?_⟩
      · rw [y2 273 (by omega) (by omega), up2_n _ _ (by omega), up2_row _ _ (by omega), cutP_N, if_neg e]; exact c1
      · rw [y2 274 (by omega) (by omega), up2_row _ _ (by omega), up2_row _ _ (by omega)]; exact c2
      · rw [y2 275 (by omega) (by omega), up2_row _ _ (by omega), up2_row _ _ (by omega)]; exact c3
      · rw [y2 277 (by omega) (by omega), up2_row _ _ (by omega), up2_row _ _ (by omega)]; exact c4
      · rw [y2 278 (by omega) (by omega), up2_row _ _ (by omega), up2_n _ _ (by omega), cutP_C, if_neg e]; exact c5
      · rw [cutP_N, if_neg e] at hk2
        rw [cutP_X, if_neg e, cutP_Y, if_neg e, (y4 (12 * v + k) (by omega)).1, (y4 (12 * v + k) (by omega)).2, up2_row _ _ (by omega), up2_row _ _ (by omega), up2_row _ _ (by omega), up2_row _ _ (by omega)]
        exact c6 k hk2
  · intro u o hu ho
    rw [y2 279 (by omega) (by omega), up2_row _ _ (by omega), up2_row _ _ (by omega)]; exact C.2.2.2 u o hu ho
  · intro a a1 a2 a3 a4
    rw [y2 a a1 a2, up2_row _ _ a3, up2_row _ _ a4]
end MCT
