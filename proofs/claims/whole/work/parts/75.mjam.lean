/-! jam, the reference's side -/
section MJM
variable {tb : dT} {d c t : Nat} {g : Nat → Option dE} {fl : Nat → Bool} {tg : Nat} {σ : dSg} {P : dP} {A : dA} {os ob : Nat → Nat} {sum : Option Nat} {k T w : Nat} {e : Nat → Option Nat} {n j : Int32}
def cutE (T : Nat) (e : Nat → Option Nat) (v : Nat) : Option Nat := match e v with
  | none => none
  | some x => if x ≤ T then some x else none
theorem mq_jmL (W : Wf P) (hT : T ≤ 1000000) (h10 : σ 270 10 = Int32.ofNat (pM P)) (h36 : σ 270 36 = Int32.ofNat T) (hE : ∀ v, v < pM P → σ 294 v = encE (e v)) (hL : ∀ v, v < pM P → σ 277 v = bI (pLf P v)) (hb : ∀ v x, e v = some x → x ≤ 1000000) {l1 : Int32} : ∀ q s (τ : dSg), s + q = pM P → (∀ a, a ≠ 277 → a ≠ 294 → τ a = σ a) → (∀ v, v < s → τ 294 v = encE (cutE T e v) ∧ τ 277 v = bI (pLf P v && (cutE T e v).isNone)) → (∀ v, s ≤ v → τ 294 v = σ 294 v ∧ τ 277 v = σ 277 v) → ∃ τ', dX tb (d + 1) 129 66 [.ref 270, .int l1, .int (Int32.ofNat s)] [] (c, t, hp g (SH fl tg) τ) = dX tb (d + 1) 129 66 [.ref 270, .int l1, .int (Int32.ofNat (pM P))] [] (c, t, hp g (SH fl tg) (τ')) ∧ (∀ a, a ≠ 277 → a ≠ 294 → τ' a = σ a) ∧ ∀ v, v < pM P → τ' 294 v = encE (cutE T e v) ∧ τ' 277 v = bI (pLf P v && (cutE T e v).isNone) := by
  have hm := W.1
  intro q
  induction q with
  | zero =>
    intro s τ hq h1 h2 h3
    have e' : s = pM P := hq
    subst e'
    exact ⟨τ, rfl, h1, h2⟩
  | succ q ih =>
    intro s τ hq h1 h2 h3
    have hs : s < pM P := by omega
    have e10 : τ 270 10 = Int32.ofNat (pM P) := by rw [h1 270 (by omega) (by omega)]; exact h10
    have e36 : τ 270 36 = Int32.ofNat T := by rw [h1 270 (by omega) (by omega)]; exact h36
    have e294 : τ 294 s = encE (e s) := by rw [(h3 s (Nat.le_refl s)).1]; exact hE s hs
    have e277 : τ 277 s = bI (pLf P s) := by rw [(h3 s (Nat.le_refl s)).2]; exact hL s hs
    have hn : ¬ pM P ≤ s := by omega
    cases he : e s with
    | none =>
      have ct : cutE T e s = none := by unfold cutE; rw [he]
      obtain ⟨τ', y1, y2⟩ := ih (s + 1) τ (by omega) h1 (fun v hv => by
        by_cases z : v = s
        · subst z; rw [e294, e277, ct, he]; exact ⟨rfl, by show bI (pLf P v) = bI (pLf P v && true); rw [Bool.and_true]⟩
        · exact h2 v (by omega)) (fun v hv => h3 v (by omega))
      refine ⟨τ', ?_, y2⟩
      have e294' : τ 294 s = -1 := by rw [e294, he]; rfl
      rw [sg_X7_jam_66]
      simp (disch := omega) only [bq_s, aq_I, aq_R, aq_V, cq_t, cq_f, if_true, if_false, Bool.true_and, Bool.and_true, Bool.or_true, Bool.true_or, gi_270_0, gi_270_10, gi_270_11, gi_270_12, gi_270_13, gi_270_14, gi_270_15, gi_270_21, gi_270_22, gi_270_23, gi_270_34, gi_270_35, gi_270_36, pi_270_0, pi_270_10, pi_270_11, pi_270_12, pi_270_13, pi_270_14, pi_270_15, pi_270_21, pi_270_22, pi_270_23, pi_270_34, pi_270_35, pi_270_36, gr_270_1, gr_270_2, gr_270_3, gr_270_4, gr_270_5, gr_270_6, gr_270_7, gr_270_8, gr_270_9, gr_270_16, gr_270_17, gr_270_18, gr_270_19, gr_270_20, gr_270_24, gr_270_25, gr_270_26, gr_270_27, gr_270_28, gr_270_29, gr_270_30, gr_270_31, gr_270_32, gr_270_33, ld_271, ld_272, ld_273, ld_274, ld_275, ld_276, ld_277, ld_278, ld_279, ld_280, ld_281, ld_282, ld_283, ld_284, ld_285, ld_286, ld_287, ld_288, ld_289, ld_290, ld_291, ld_292, ld_293, ld_294, sv_271, sv_272, sv_273, sv_274, sv_275, sv_276, sv_277, sv_278, sv_279, sv_280, sv_281, sv_282, sv_283, sv_284, sv_285, sv_286, sv_287, sv_288, sv_289, sv_290, sv_291, sv_292, sv_293, sv_294, is_270, ia_0, ia_1, is_m0, is_m1, im_8, ml_8, im_11, ml_11, im_12, ml_12, im_88, ml_88, im_89, ml_89, j_lt_0, j_gt_0, j_le_0, j_ge_0, j_eq_0, j_lt_1, j_gt_1, j_le_1, j_ge_1, j_eq_1, j_lt_2, j_gt_2, j_le_2, j_ge_2, j_eq_2, j_lt_3, j_gt_3, j_le_3, j_ge_3, j_eq_3, j_lt_4, j_gt_4, j_le_4, j_ge_4, j_eq_4, j_lt_5, j_gt_5, j_le_5, j_ge_5, j_eq_5, j_lt_6, j_gt_6, j_le_6, j_ge_6, j_eq_6, j_lt_8, j_gt_8, j_le_8, j_ge_8, j_eq_8, j_lt_12, j_gt_12, j_le_12, j_ge_12, j_eq_12, j_lt_209, j_gt_209, j_le_209, j_ge_209, j_eq_209, j_lt_255, j_gt_255, j_le_255, j_ge_255, j_eq_255, j_lt_1000000000, j_gt_1000000000, j_le_1000000000, j_ge_1000000000, j_eq_1000000000, e10, i_le, hn, e294']
      exact y1
    | some x =>
      have hx := hb s x he
      have e294' : τ 294 s = Int32.ofNat x := by rw [e294, he]; rfl
      have hne : ¬ Int32.ofNat x = -1 := by
        intro z
        have := congrArg Int32.toInt z
        rw [Int32.toInt_ofNat_of_lt (by omega)] at this
        have m1 : (-1 : Int32).toInt = -1 := rfl
        omega
      by_cases q1 : T < x
      · have ct : cutE T e s = none := by unfold cutE; rw [he]; exact if_neg (by omega)
        obtain ⟨τ', y1, y2⟩ := ih (s + 1) (up2 τ 294 s (-1)) (by omega) (fun a a1 a2 => by rw [up2_row _ _ a2]; exact h1 a a1 a2) (fun v hv => by
          rw [up2_row τ _ (show (277 : Nat) ≠ 294 by omega)]
          by_cases z : v = s
          · subst z; rw [up2_s, e277, ct]; exact ⟨rfl, by show bI (pLf P v) = bI (pLf P v && true); rw [Bool.and_true]⟩
          · rw [up2_n _ _ (by omega)]; exact h2 v (by omega)) (fun v hv => by
          rw [up2_row τ _ (show (277 : Nat) ≠ 294 by omega), up2_n _ _ (by omega)]; exact h3 v (by omega))
        refine ⟨τ', ?_, y2⟩
        rw [sg_X7_jam_66]
        simp (disch := omega) only [bq_s, aq_I, aq_R, aq_V, cq_t, cq_f, if_true, if_false, Bool.true_and, Bool.and_true, Bool.or_true, Bool.true_or, gi_270_0, gi_270_10, gi_270_11, gi_270_12, gi_270_13, gi_270_14, gi_270_15, gi_270_21, gi_270_22, gi_270_23, gi_270_34, gi_270_35, gi_270_36, pi_270_0, pi_270_10, pi_270_11, pi_270_12, pi_270_13, pi_270_14, pi_270_15, pi_270_21, pi_270_22, pi_270_23, pi_270_34, pi_270_35, pi_270_36, gr_270_1, gr_270_2, gr_270_3, gr_270_4, gr_270_5, gr_270_6, gr_270_7, gr_270_8, gr_270_9, gr_270_16, gr_270_17, gr_270_18, gr_270_19, gr_270_20, gr_270_24, gr_270_25, gr_270_26, gr_270_27, gr_270_28, gr_270_29, gr_270_30, gr_270_31, gr_270_32, gr_270_33, ld_271, ld_272, ld_273, ld_274, ld_275, ld_276, ld_277, ld_278, ld_279, ld_280, ld_281, ld_282, ld_283, ld_284, ld_285, ld_286, ld_287, ld_288, ld_289, ld_290, ld_291, ld_292, ld_293, ld_294, sv_271, sv_272, sv_273, sv_274, sv_275, sv_276, sv_277, sv_278, sv_279, sv_280, sv_281, sv_282, sv_283, sv_284, sv_285, sv_286, sv_287, sv_288, sv_289, sv_290, sv_291, sv_292, sv_293, sv_294, is_270, ia_0, ia_1, is_m0, is_m1, im_8, ml_8, im_11, ml_11, im_12, ml_12, im_88, ml_88, im_89, ml_89, j_lt_0, j_gt_0, j_le_0, j_ge_0, j_eq_0, j_lt_1, j_gt_1, j_le_1, j_ge_1, j_eq_1, j_lt_2, j_gt_2, j_le_2, j_ge_2, j_eq_2, j_lt_3, j_gt_3, j_le_3, j_ge_3, j_eq_3, j_lt_4, j_gt_4, j_le_4, j_ge_4, j_eq_4, j_lt_5, j_gt_5, j_le_5, j_ge_5, j_eq_5, j_lt_6, j_gt_6, j_le_6, j_ge_6, j_eq_6, j_lt_8, j_gt_8, j_le_8, j_ge_8, j_eq_8, j_lt_12, j_gt_12, j_le_12, j_ge_12, j_eq_12, j_lt_209, j_gt_209, j_le_209, j_ge_209, j_eq_209, j_lt_255, j_gt_255, j_le_255, j_ge_255, j_eq_255, j_lt_1000000000, j_gt_1000000000, j_le_1000000000, j_ge_1000000000, j_eq_1000000000, e10, i_le, hn, e294', hne, e36, i_lt, q1]
        exact y1
      · have ct : cutE T e s = some x := by unfold cutE; rw [he]; exact if_pos (by omega)
        obtain ⟨τ', y1, y2⟩ := ih (s + 1) (up2 τ 277 s 0) (by omega) (fun a a1 a2 => by rw [up2_row _ _ a1]; exact h1 a a1 a2) (fun v hv => by
          rw [up2_row τ _ (show (294 : Nat) ≠ 277 by omega)]
          by_cases z : v = s
          · subst z; rw [up2_s, e294', ct]; exact ⟨rfl, by show (0 : Int32) = bI (pLf P v && false); rw [Bool.and_false]; rfl⟩
          · rw [up2_n _ _ (by omega)]; exact h2 v (by omega)) (fun v hv => by
          rw [up2_row τ _ (show (294 : Nat) ≠ 277 by omega), up2_n _ _ (by omega)]; exact h3 v (by omega))
        refine ⟨τ', ?_, y2⟩
        rw [sg_X7_jam_66]
        simp (disch := omega) only [bq_s, aq_I, aq_R, aq_V, cq_t, cq_f, if_true, if_false, Bool.true_and, Bool.and_true, Bool.or_true, Bool.true_or, gi_270_0, gi_270_10, gi_270_11, gi_270_12, gi_270_13, gi_270_14, gi_270_15, gi_270_21, gi_270_22, gi_270_23, gi_270_34, gi_270_35, gi_270_36, pi_270_0, pi_270_10, pi_270_11, pi_270_12, pi_270_13, pi_270_14, pi_270_15, pi_270_21, pi_270_22, pi_270_23, pi_270_34, pi_270_35, pi_270_36, gr_270_1, gr_270_2, gr_270_3, gr_270_4, gr_270_5, gr_270_6, gr_270_7, gr_270_8, gr_270_9, gr_270_16, gr_270_17, gr_270_18, gr_270_19, gr_270_20, gr_270_24, gr_270_25, gr_270_26, gr_270_27, gr_270_28, gr_270_29, gr_270_30, gr_270_31, gr_270_32, gr_270_33, ld_271, ld_272, ld_273, ld_274, ld_275, ld_276, ld_277, ld_278, ld_279, ld_280, ld_281, ld_282, ld_283, ld_284, ld_285, ld_286, ld_287, ld_288, ld_289, ld_290, ld_291, ld_292, ld_293, ld_294, sv_271, sv_272, sv_273, sv_274, sv_275, sv_276, sv_277, sv_278, sv_279, sv_280, sv_281, sv_282, sv_283, sv_284, sv_285, sv_286, sv_287, sv_288, sv_289, sv_290, sv_291, sv_292, sv_293, sv_294, is_270, ia_0, ia_1, is_m0, is_m1, im_8, ml_8, im_11, ml_11, im_12, ml_12, im_88, ml_88, im_89, ml_89, j_lt_0, j_gt_0, j_le_0, j_ge_0, j_eq_0, j_lt_1, j_gt_1, j_le_1, j_ge_1, j_eq_1, j_lt_2, j_gt_2, j_le_2, j_ge_2, j_eq_2, j_lt_3, j_gt_3, j_le_3, j_ge_3, j_eq_3, j_lt_4, j_gt_4, j_le_4, j_ge_4, j_eq_4, j_lt_5, j_gt_5, j_le_5, j_ge_5, j_eq_5, j_lt_6, j_gt_6, j_le_6, j_ge_6, j_eq_6, j_lt_8, j_gt_8, j_le_8, j_ge_8, j_eq_8, j_lt_12, j_gt_12, j_le_12, j_ge_12, j_eq_12, j_lt_209, j_gt_209, j_le_209, j_ge_209, j_eq_209, j_lt_255, j_gt_255, j_le_255, j_ge_255, j_eq_255, j_lt_1000000000, j_gt_1000000000, j_le_1000000000, j_ge_1000000000, j_eq_1000000000, e10, i_le, hn, e294', hne, e36, i_lt, q1]
        exact y1
theorem eJ_cut (R : OkR P A sum k os ob T) {pre post : List dF} {f : dF} (he : phZ P A os ob k = pre ++ f :: post) (h1 : tot pre ≤ T) (h2 : T < tot pre + fL f) : eJ P A pre = cutE T (eoU os (enZ P A os ob) k) := by
  obtain ⟨W, hx, hy, hk, h8, hp1, hT⟩ := R
  obtain ⟨ok, ee, -⟩ := phZ_ok (A := A) W (pl_ok hp1 hk h8).1 hk hx hy
  funext s
  rw [he] at ok
  have := zE_split ok h1 h2 s
  rw [← he, ee] at this
  exact this
theorem unT_don {s : Nat} (l : List dF) : ∀ w, unT (donP P e) s T w l = unT P s T w l := by
  induction l with
  | nil => intro w; rfl
  | cons f l ih =>
    intro w
    show _ + unT (donP P e) s T (w + fL f) l = _ + unT P s T (w + fL f) l
    rw [ih]; rfl
theorem drR_don (s b : Nat) : ∀ m i, drR (donP P e) s b i m = drR P s b i m := by
  intro m
  induction m with
  | zero => intro i; rfl
  | succ m ih => intro i; show _ :: drR (donP P e) s b (i + 1) m = _ :: drR P s b (i + 1) m; rw [ih]; rfl
end MJM
