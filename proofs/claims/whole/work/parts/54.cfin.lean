/-! THE CLASS FINISHES LEGS AND SETTLES -/
section CFN
variable {tb : dT} {d c t : Nat} {g : Nat → Option dE} {fl : Nat → Bool} {tg : Nat} {σ : dSg} {P : dP} {A : dA}
theorem kc_fs0 {p : Nat} {gx gy : Int32} (hpp : p < 209) (h0 : σ (61 + p) 0 = 0) (h7 : σ (61 + p) 7 = gx) (h8 : σ (61 + p) 8 = gy) : dX tb (d + 1) 44 0 [.ref 57, .ref (61 + p)] [] (c, t, hp g (SH fl tg) σ) = dX tb (d + 1) 44 68 [.ref 57, .ref (61 + p)] [] (c, t, hp g (SH fl tg) (up2 (up2 σ 45 0 gx) 45 1 gy)) := by
  rw [sg_X3_finish_0]
  simp (disch := omega) only [bq_s, aq_I, aq_R, aq_V, cq_t, cq_f, if_true, if_false, Bool.true_and, Bool.and_true, Bool.or_true, Bool.true_or, gi_45_0, gi_45_1, gi_45_2, gi_45_3, gi_59_0, gi_59_1, gi_59_2, gi_59_3, gi_57_3, gi_57_4, gi_57_6, gi_57_8, gi_57_9, gi_57_10, gi_57_11, gi_57_12, gi_57_13, gi_57_14, gi_l, pi_45_0, pi_45_1, pi_45_2, pi_45_3, pi_59_0, pi_59_1, pi_59_2, pi_59_3, pi_57_3, pi_57_4, pi_57_6, pi_57_8, pi_57_9, pi_57_10, pi_57_11, pi_57_12, pi_57_13, pi_57_14, pi_l, gr_57_0, gr_57_1, gr_57_2, gr_57_5, gr_57_7, ld_60, sv_60, is_45, is_59, is_57, is_l, lr_58, up2_row, h0, h7, h8]
  rw [if_neg (by decide), show (#[42, 53, 118, 78, 89, 118, 110] : Array Int)[((0 : Int32).toInt - 0).toNat]? = some 42 from rfl, bq_s, show dm_to 26 42 = some 68 from rfl, bq_s]
theorem kc_fs1 {p : Nat} {gx gy : Int32} (hpp : p < 209) (h0 : σ (61 + p) 0 = 1) (h7 : σ (61 + p) 7 = gx) (h8 : σ (61 + p) 8 = gy) : dX tb (d + 1) 44 0 [.ref 57, .ref (61 + p)] [] (c, t, hp g (SH fl tg) σ) = dX tb (d + 1) 44 79 [.ref 57, .ref (61 + p)] [] (c, t, hp g (SH fl tg) (up2 (up2 σ 45 0 gx) 45 1 gy)) := by
  rw [sg_X3_finish_0]
  simp (disch := omega) only [bq_s, aq_I, aq_R, aq_V, cq_t, cq_f, if_true, if_false, Bool.true_and, Bool.and_true, Bool.or_true, Bool.true_or, gi_45_0, gi_45_1, gi_45_2, gi_45_3, gi_59_0, gi_59_1, gi_59_2, gi_59_3, gi_57_3, gi_57_4, gi_57_6, gi_57_8, gi_57_9, gi_57_10, gi_57_11, gi_57_12, gi_57_13, gi_57_14, gi_l, pi_45_0, pi_45_1, pi_45_2, pi_45_3, pi_59_0, pi_59_1, pi_59_2, pi_59_3, pi_57_3, pi_57_4, pi_57_6, pi_57_8, pi_57_9, pi_57_10, pi_57_11, pi_57_12, pi_57_13, pi_57_14, pi_l, gr_57_0, gr_57_1, gr_57_2, gr_57_5, gr_57_7, ld_60, sv_60, is_45, is_59, is_57, is_l, lr_58, up2_row, h0, h7, h8]
  rw [if_neg (by decide), show (#[42, 53, 118, 78, 89, 118, 110] : Array Int)[((1 : Int32).toInt - 0).toNat]? = some 53 from rfl, bq_s, show dm_to 26 53 = some 79 from rfl, bq_s]
theorem kc_fs2 {p : Nat} {gx gy : Int32} (hpp : p < 209) (h0 : σ (61 + p) 0 = 2) (h7 : σ (61 + p) 7 = gx) (h8 : σ (61 + p) 8 = gy) : dX tb (d + 1) 44 0 [.ref 57, .ref (61 + p)] [] (c, t, hp g (SH fl tg) σ) = dX tb (d + 1) 44 144 [.ref 57, .ref (61 + p)] [] (c, t, hp g (SH fl tg) (up2 (up2 σ 45 0 gx) 45 1 gy)) := by
  rw [sg_X3_finish_0]
  simp (disch := omega) only [bq_s, aq_I, aq_R, aq_V, cq_t, cq_f, if_true, if_false, Bool.true_and, Bool.and_true, Bool.or_true, Bool.true_or, gi_45_0, gi_45_1, gi_45_2, gi_45_3, gi_59_0, gi_59_1, gi_59_2, gi_59_3, gi_57_3, gi_57_4, gi_57_6, gi_57_8, gi_57_9, gi_57_10, gi_57_11, gi_57_12, gi_57_13, gi_57_14, gi_l, pi_45_0, pi_45_1, pi_45_2, pi_45_3, pi_59_0, pi_59_1, pi_59_2, pi_59_3, pi_57_3, pi_57_4, pi_57_6, pi_57_8, pi_57_9, pi_57_10, pi_57_11, pi_57_12, pi_57_13, pi_57_14, pi_l, gr_57_0, gr_57_1, gr_57_2, gr_57_5, gr_57_7, ld_60, sv_60, is_45, is_59, is_57, is_l, lr_58, up2_row, h0, h7, h8]
  rw [if_neg (by decide), show (#[42, 53, 118, 78, 89, 118, 110] : Array Int)[((2 : Int32).toInt - 0).toNat]? = some 118 from rfl, bq_s, show dm_to 26 118 = some 144 from rfl, bq_s]
theorem kc_fs3 {p : Nat} {gx gy : Int32} (hpp : p < 209) (h0 : σ (61 + p) 0 = 3) (h7 : σ (61 + p) 7 = gx) (h8 : σ (61 + p) 8 = gy) : dX tb (d + 1) 44 0 [.ref 57, .ref (61 + p)] [] (c, t, hp g (SH fl tg) σ) = dX tb (d + 1) 44 104 [.ref 57, .ref (61 + p)] [] (c, t, hp g (SH fl tg) (up2 (up2 σ 45 0 gx) 45 1 gy)) := by
  rw [sg_X3_finish_0]
  simp (disch := omega) only [bq_s, aq_I, aq_R, aq_V, cq_t, cq_f, if_true, if_false, Bool.true_and, Bool.and_true, Bool.or_true, Bool.true_or, gi_45_0, gi_45_1, gi_45_2, gi_45_3, gi_59_0, gi_59_1, gi_59_2, gi_59_3, gi_57_3, gi_57_4, gi_57_6, gi_57_8, gi_57_9, gi_57_10, gi_57_11, gi_57_12, gi_57_13, gi_57_14, gi_l, pi_45_0, pi_45_1, pi_45_2, pi_45_3, pi_59_0, pi_59_1, pi_59_2, pi_59_3, pi_57_3, pi_57_4, pi_57_6, pi_57_8, pi_57_9, pi_57_10, pi_57_11, pi_57_12, pi_57_13, pi_57_14, pi_l, gr_57_0, gr_57_1, gr_57_2, gr_57_5, gr_57_7, ld_60, sv_60, is_45, is_59, is_57, is_l, lr_58, up2_row, h0, h7, h8]
  rw [if_neg (by decide), show (#[42, 53, 118, 78, 89, 118, 110] : Array Int)[((3 : Int32).toInt - 0).toNat]? = some 78 from rfl, bq_s, show dm_to 26 78 = some 104 from rfl, bq_s]
theorem kc_fs4 {p : Nat} {gx gy : Int32} (hpp : p < 209) (h0 : σ (61 + p) 0 = 4) (h7 : σ (61 + p) 7 = gx) (h8 : σ (61 + p) 8 = gy) : dX tb (d + 1) 44 0 [.ref 57, .ref (61 + p)] [] (c, t, hp g (SH fl tg) σ) = dX tb (d + 1) 44 115 [.ref 57, .ref (61 + p)] [] (c, t, hp g (SH fl tg) (up2 (up2 σ 45 0 gx) 45 1 gy)) := by
  rw [sg_X3_finish_0]
  simp (disch := omega) only [bq_s, aq_I, aq_R, aq_V, cq_t, cq_f, if_true, if_false, Bool.true_and, Bool.and_true, Bool.or_true, Bool.true_or, gi_45_0, gi_45_1, gi_45_2, gi_45_3, gi_59_0, gi_59_1, gi_59_2, gi_59_3, gi_57_3, gi_57_4, gi_57_6, gi_57_8, gi_57_9, gi_57_10, gi_57_11, gi_57_12, gi_57_13, gi_57_14, gi_l, pi_45_0, pi_45_1, pi_45_2, pi_45_3, pi_59_0, pi_59_1, pi_59_2, pi_59_3, pi_57_3, pi_57_4, pi_57_6, pi_57_8, pi_57_9, pi_57_10, pi_57_11, pi_57_12, pi_57_13, pi_57_14, pi_l, gr_57_0, gr_57_1, gr_57_2, gr_57_5, gr_57_7, ld_60, sv_60, is_45, is_59, is_57, is_l, lr_58, up2_row, h0, h7, h8]
  rw [if_neg (by decide), show (#[42, 53, 118, 78, 89, 118, 110] : Array Int)[((4 : Int32).toInt - 0).toNat]? = some 89 from rfl, bq_s, show dm_to 26 89 = some 115 from rfl, bq_s]
theorem kc_fs5 {p : Nat} {gx gy : Int32} (hpp : p < 209) (h0 : σ (61 + p) 0 = 5) (h7 : σ (61 + p) 7 = gx) (h8 : σ (61 + p) 8 = gy) : dX tb (d + 1) 44 0 [.ref 57, .ref (61 + p)] [] (c, t, hp g (SH fl tg) σ) = dX tb (d + 1) 44 144 [.ref 57, .ref (61 + p)] [] (c, t, hp g (SH fl tg) (up2 (up2 σ 45 0 gx) 45 1 gy)) := by
  rw [sg_X3_finish_0]
  simp (disch := omega) only [bq_s, aq_I, aq_R, aq_V, cq_t, cq_f, if_true, if_false, Bool.true_and, Bool.and_true, Bool.or_true, Bool.true_or, gi_45_0, gi_45_1, gi_45_2, gi_45_3, gi_59_0, gi_59_1, gi_59_2, gi_59_3, gi_57_3, gi_57_4, gi_57_6, gi_57_8, gi_57_9, gi_57_10, gi_57_11, gi_57_12, gi_57_13, gi_57_14, gi_l, pi_45_0, pi_45_1, pi_45_2, pi_45_3, pi_59_0, pi_59_1, pi_59_2, pi_59_3, pi_57_3, pi_57_4, pi_57_6, pi_57_8, pi_57_9, pi_57_10, pi_57_11, pi_57_12, pi_57_13, pi_57_14, pi_l, gr_57_0, gr_57_1, gr_57_2, gr_57_5, gr_57_7, ld_60, sv_60, is_45, is_59, is_57, is_l, lr_58, up2_row, h0, h7, h8]
  rw [if_neg (by decide), show (#[42, 53, 118, 78, 89, 118, 110] : Array Int)[((5 : Int32).toInt - 0).toNat]? = some 118 from rfl, bq_s, show dm_to 26 118 = some 144 from rfl, bq_s]
theorem kc_fs6 {p : Nat} {gx gy : Int32} (hpp : p < 209) (h0 : σ (61 + p) 0 = 6) (h7 : σ (61 + p) 7 = gx) (h8 : σ (61 + p) 8 = gy) : dX tb (d + 1) 44 0 [.ref 57, .ref (61 + p)] [] (c, t, hp g (SH fl tg) σ) = dX tb (d + 1) 44 136 [.ref 57, .ref (61 + p)] [] (c, t, hp g (SH fl tg) (up2 (up2 σ 45 0 gx) 45 1 gy)) := by
  rw [sg_X3_finish_0]
  simp (disch := omega) only [bq_s, aq_I, aq_R, aq_V, cq_t, cq_f, if_true, if_false, Bool.true_and, Bool.and_true, Bool.or_true, Bool.true_or, gi_45_0, gi_45_1, gi_45_2, gi_45_3, gi_59_0, gi_59_1, gi_59_2, gi_59_3, gi_57_3, gi_57_4, gi_57_6, gi_57_8, gi_57_9, gi_57_10, gi_57_11, gi_57_12, gi_57_13, gi_57_14, gi_l, pi_45_0, pi_45_1, pi_45_2, pi_45_3, pi_59_0, pi_59_1, pi_59_2, pi_59_3, pi_57_3, pi_57_4, pi_57_6, pi_57_8, pi_57_9, pi_57_10, pi_57_11, pi_57_12, pi_57_13, pi_57_14, pi_l, gr_57_0, gr_57_1, gr_57_2, gr_57_5, gr_57_7, ld_60, sv_60, is_45, is_59, is_57, is_l, lr_58, up2_row, h0, h7, h8]
  rw [if_neg (by decide), show (#[42, 53, 118, 78, 89, 118, 110] : Array Int)[((6 : Int32).toInt - 0).toNat]? = some 110 from rfl, bq_s, show dm_to 26 110 = some 136 from rfl, bq_s]
theorem fin_0 {z : dZ} {f : dF} (h : fK f = 0) : fin P z f = (gX f, gY f, zP z, false, zI z, zU z, zW z, zC z, zE z, zT z + fL f) := by
  unfold fin
  rw [h]
  rfl
theorem fin_1 {z : dZ} {f : dF} (h : fK f = 1) : fin P z f = (gX f, gY f, Int32.ofNat (pPen P (fS f)), zD z, zI z, zU z, zW z, zC z, zE z, zT z + fL f) := by
  unfold fin
  rw [h]
  rfl
theorem fin_2 {z : dZ} {f : dF} (h : fK f = 2) : fin P z f = (gX f, gY f, zP z, zD z, zI z, zU z, zW z, zC z, zE z, zT z + fL f) := by
  unfold fin
  rw [h]
  rfl
theorem fin_3 {z : dZ} {f : dF} (h : fK f = 3) : fin P z f = (gX f, gY f, zP z, true, zI z, zU z, zW z, zC z, zE z, zT z + fL f) := by
  unfold fin
  rw [h]
  rfl
theorem fin_6 {z : dZ} {f : dF} (h : fK f = 6) : fin P z f = (gX f, gY f, zP z, zD z, zI z, zU z, zW z, zC z, zE z, zT z + fL f) := by
  unfold fin
  rw [h]
  rfl
/-- the class's state behind some phases -/
def ZC (P : dP) (z : dZ) (σ : dSg) : Prop := σ 45 2 = zP z ∧ σ 45 3 = bI (zD z) ∧ σ 57 8 = Int32.ofNat (zI z) ∧ σ 57 9 = Int32.ofNat (zU z) ∧ σ 57 10 = Int32.ofNat (zW z) ∧ ∀ s, s < pM P → σ (5 + 5 * s) 3 = bI (pLf P s && (zE z s).isNone) ∧ σ (5 + 5 * s) 6 = encE (zE z s)
def FrS (σ τ : dSg) : Prop := (∀ a, a ≠ 45 → a ≠ 57 → (∀ s, s < 8 → a ≠ 5 + 5 * s) → τ a = σ a) ∧ (∀ j, j ≠ 4 → j ≠ 8 → j ≠ 9 → j ≠ 10 → j ≠ 11 → τ 57 j = σ 57 j) ∧ ∀ s, s < 8 → ∀ j, j ≠ 3 → j ≠ 6 → τ (5 + 5 * s) j = σ (5 + 5 * s) j
theorem FrS_refl (σ : dSg) : FrS σ σ := ⟨fun _ _ _ _ => rfl, fun _ _ _ _ _ _ => rfl, fun _ _ _ _ _ => rfl⟩
theorem FrS_trans {σ τ υ : dSg} (h : FrS σ τ) (h2 : FrS τ υ) : FrS σ υ := ⟨fun a a1 a2 a3 => (h2.1 a a1 a2 a3).trans (h.1 a a1 a2 a3), fun j a1 a2 a3 a4 a5 => (h2.2.1 j a1 a2 a3 a4 a5).trans (h.2.1 j a1 a2 a3 a4 a5), fun s hs j a1 a2 => (h2.2.2 s hs j a1 a2).trans (h.2.2 s hs j a1 a2)⟩
theorem FrS_45 {j : Nat} {v : Int32} : FrS σ (up2 σ 45 j v) := ⟨fun b h _ _ => up2_row σ v h, fun k _ _ _ _ _ => up2_n σ v (by omega), fun s _ k _ _ => up2_n σ v (by omega)⟩
theorem FrS_57 {j : Nat} {v : Int32} (h : j = 4 ∨ j = 8 ∨ j = 9 ∨ j = 10 ∨ j = 11) : FrS σ (up2 σ 57 j v) := ⟨fun b _ h2 _ => up2_row σ v h2, fun k _ _ _ _ _ => up2_n σ v (by omega), fun s _ k _ _ => up2_n σ v (by omega)⟩
theorem FrS_st {s j : Nat} {v : Int32} (hs : s < 8) (h : j = 3 ∨ j = 6) : FrS σ (up2 σ (5 + 5 * s) j v) := ⟨fun b _ _ h3 => up2_row σ v (h3 s hs), fun k _ _ _ _ _ => up2_n σ v (by omega), fun u _ k _ _ => up2_n σ v (by omega)⟩
theorem FrS_ShC {τ : dSg} (W : Wf P) (h : FrS σ τ) (C : ShC P fl σ) : ShC P fl τ := by
  have hm := W.1
  refine ⟨by rw [h.1 1 (by omega) (by omega) (fun s _ => by omega)]; exact C.1, fun j hj => by rw [h.1 4 (by omega) (by omega) (fun s _ => by omega)]; exact C.2.1 j hj, fun s hs => ?_, fun s hs => by rw [h.1 3 (by omega) (by omega) (fun s _ => by omega)]; exact C.2.2.2 s hs⟩
  obtain ⟨e0, e1, e2, e4, e5, e6⟩ := C.2.2.1 s hs
  have hx := xA_r fl s
  have hy := yA_r fl s
  have r := h.2.2 s (by omega)
  refine ⟨?_, ?_, ?_, ?_, ?_, fun k hk => ?_⟩
  · rw [r 0 (by decide) (by decide)]; exact e0
  · rw [r 1 (by decide) (by decide)]; exact e1
  · rw [r 2 (by decide) (by decide)]; exact e2
  · rw [r 4 (by decide) (by decide)]; exact e4
  · rw [r 5 (by decide) (by decide)]; exact e5
  · rw [h.1 (xA fl s) (by omega) (by omega) (fun u _ => by omega), h.1 (yA fl s) (by omega) (by omega) (fun u _ => by omega)]; exact e6 k hk
theorem FrS_LgC {τ : dSg} {l : List dF} (h : FrS σ τ) (hl : l.length ≤ 209) (C : LgC P l σ) : LgC P l τ := LgC_congr (fun a h1 h2 => h.1 a (by omega) (by omega) (fun s hs => by omega)) (h.2.1 3 (by decide) (by decide) (by decide) (by decide) (by decide)) (h.2.1 6 (by decide) (by decide) (by decide) (by decide) (by decide)) hl C
theorem encS_ne {s : Nat} (h : s ≠ 8) : encS s = Int32.ofNat s := if_neg h
theorem kc_fin (C : ShC P fl σ) (W : Wf P) {l : List dF} {p : Nat} {f : dF} {z : dZ} (hL : LgC P l σ) (hl : l.length ≤ 209) (hpp : l[p]? = some f) (hz : ZC P z σ) (ho : okF P z f) (hT : zT z = tot (l.take p)) (hTb : tot (l.take p) + fL f ≤ 1000000) (hWb : zW z ≤ 1000000) (hU : zU z ≤ 1000000) : ∃ τ, dX tb (d + 2) 44 0 [.ref 57, .ref (61 + p)] [] (c, t, hp g (SH fl tg) σ) = some (none, (c, t, hp g (SH fl tg) τ)) ∧ ZC P (fin P z f) τ ∧ τ 45 0 = Int32.ofNat (gX f) ∧ τ 45 1 = Int32.ofNat (gY f) ∧ FrS σ τ ∧ τ 57 4 = σ 57 4 ∧ τ 57 11 = σ 57 11 := by
  have hm := W.1
  have hpl : p < 209 := by
    obtain ⟨q, -⟩ := List.getElem?_eq_some_iff.mp hpp
    omega
  obtain ⟨e0, e1, e2, e3, e4, e5, e6, e7, e8, e9, e10⟩ := hL.2.2 p f hpp
  obtain ⟨z1, z2, z3, z4, z5, z6⟩ := hz
  have hk := ho.1
  have F2 : FrS σ (up2 (up2 σ 45 0 (Int32.ofNat (gX f))) 45 1 (Int32.ofNat (gY f))) := FrS_trans FrS_45 FrS_45
  have mk : ∀ τ : dSg, ZC P (fin P z f) τ → τ 45 0 = Int32.ofNat (gX f) → τ 45 1 = Int32.ofNat (gY f) → FrS σ τ → τ 57 4 = σ 57 4 → τ 57 11 = σ 57 11 → dX tb (d + 2) 44 0 [.ref 57, .ref (61 + p)] [] (c, t, hp g (SH fl tg) σ) = some (none, (c, t, hp g (SH fl tg) τ)) → ∃ τ, dX tb (d + 2) 44 0 [.ref 57, .ref (61 + p)] [] (c, t, hp g (SH fl tg) σ) = some (none, (c, t, hp g (SH fl tg) τ)) ∧ ZC P (fin P z f) τ ∧ τ 45 0 = Int32.ofNat (gX f) ∧ τ 45 1 = Int32.ofNat (gY f) ∧ FrS σ τ ∧ τ 57 4 = σ 57 4 ∧ τ 57 11 = σ 57 11 := fun τ a b c d e f g => ⟨τ, g, a, b, c, d, e, f⟩
  have hcase : fK f = 0 ∨ fK f = 1 ∨ fK f = 2 ∨ fK f = 3 ∨ fK f = 4 ∨ fK f = 5 ∨ fK f = 6 := by omega
  rcases hcase with h | h | h | h | h | h | h
  · rw [h] at e0
    refine mk (up2 (up2 (up2 σ 45 0 (Int32.ofNat (gX f))) 45 1 (Int32.ofNat (gY f))) 45 3 0) ?_ ?_ ?_ (FrS_trans F2 FrS_45) ?_ ?_ ?_
    · rw [fin_0 h]
      refine ⟨?_, ?_, ?_, ?_, ?_, fun s hs => ?_⟩ <;> simp (disch := omega) only [up2_s, up2_n, up2_row] <;> first | exact z1 | exact z2 | exact z3 | exact z4 | exact z5 | exact z6 s hs | rfl
    · simp (disch := omega) only [up2_s, up2_n]
    · simp (disch := omega) only [up2_s, up2_n]
    · simp (disch := omega) only [up2_row]
    · simp (disch := omega) only [up2_row]
    · rw [kc_fs0 hpl e0 e7 e8, sg_X3_finish_68]
      simp (disch := omega) only [bq_s, aq_I, aq_R, aq_V, cq_t, cq_f, if_true, if_false, Bool.true_and, Bool.and_true, Bool.or_true, Bool.true_or, gi_45_0, gi_45_1, gi_45_2, gi_45_3, gi_59_0, gi_59_1, gi_59_2, gi_59_3, gi_57_3, gi_57_4, gi_57_6, gi_57_8, gi_57_9, gi_57_10, gi_57_11, gi_57_12, gi_57_13, gi_57_14, gi_l, pi_45_0, pi_45_1, pi_45_2, pi_45_3, pi_59_0, pi_59_1, pi_59_2, pi_59_3, pi_57_3, pi_57_4, pi_57_6, pi_57_8, pi_57_9, pi_57_10, pi_57_11, pi_57_12, pi_57_13, pi_57_14, pi_l, gr_57_0, gr_57_1, gr_57_2, gr_57_5, gr_57_7, ld_60, sv_60, is_45, is_59, is_57, is_l, lr_58, sg_X3_finish_144]
  · rw [h] at e0
    have hs8 := ho.2.2.2.2.2.2.2.2.2.2.1 (by omega)
    have hsm := (ho.2.2.2.2.2.2.2.2.2.1.resolve_left hs8).1
    have C2 := FrS_ShC W F2 C
    have c0 := (C2.2.2.1 _ hsm).1
    rw [encS_ne hs8] at e1
    refine mk (up2 (up2 (up2 σ 45 0 (Int32.ofNat (gX f))) 45 1 (Int32.ofNat (gY f))) 45 2 (Int32.ofNat (pPen P (fS f)))) ?_ ?_ ?_ (FrS_trans F2 FrS_45) ?_ ?_ ?_
    · rw [fin_1 h]
      refine ⟨?_, ?_, ?_, ?_, ?_, fun s hs => ?_⟩ <;> simp (disch := omega) only [up2_s, up2_n, up2_row] <;> first | exact z1 | exact z2 | exact z3 | exact z4 | exact z5 | exact z6 s hs | rfl
    · simp (disch := omega) only [up2_s, up2_n]
    · simp (disch := omega) only [up2_s, up2_n]
    · simp (disch := omega) only [up2_row]
    · simp (disch := omega) only [up2_row]
    · rw [kc_fs1 hpl e0 e7 e8, sg_X3_finish_79]
      simp (disch := omega) only [bq_s, aq_I, aq_R, aq_V, cq_t, cq_f, if_true, if_false, Bool.true_and, Bool.and_true, Bool.or_true, Bool.true_or, gi_1_3, gi_s, pi_1_3, pi_s, gr_0_0, gr_0_1, gr_0_2, gr_0_3, gr_1_0, gr_1_1, gr_1_2, gr_s_7, gr_s_8, gr_s_9, gr_s_10, ld_3, ld_4, ld_x, ld_y, ld_u, ld_v, sv_3, sv_4, sv_x, sv_y, sv_u, sv_v, is_0, is_1, is_s, lr_2, gi_45_0, gi_45_1, gi_45_2, gi_45_3, gi_59_0, gi_59_1, gi_59_2, gi_59_3, gi_57_3, gi_57_4, gi_57_6, gi_57_8, gi_57_9, gi_57_10, gi_57_11, gi_57_12, gi_57_13, gi_57_14, gi_l, pi_45_0, pi_45_1, pi_45_2, pi_45_3, pi_59_0, pi_59_1, pi_59_2, pi_59_3, pi_57_3, pi_57_4, pi_57_6, pi_57_8, pi_57_9, pi_57_10, pi_57_11, pi_57_12, pi_57_13, pi_57_14, pi_l, gr_57_0, gr_57_1, gr_57_2, gr_57_5, gr_57_7, ld_60, sv_60, is_45, is_59, is_57, is_l, lr_58, up2_row, e1]
      simp (disch := omega) only [up2_row] at c0
      simp (disch := omega) only [bq_s, aq_I, aq_R, aq_V, cq_t, cq_f, if_true, if_false, Bool.true_and, Bool.and_true, Bool.or_true, Bool.true_or, gi_1_3, gi_s, pi_1_3, pi_s, gr_0_0, gr_0_1, gr_0_2, gr_0_3, gr_1_0, gr_1_1, gr_1_2, gr_s_7, gr_s_8, gr_s_9, gr_s_10, ld_3, ld_4, ld_x, ld_y, ld_u, ld_v, sv_3, sv_4, sv_x, sv_y, sv_u, sv_v, is_0, is_1, is_s, lr_2, gi_45_0, gi_45_1, gi_45_2, gi_45_3, gi_59_0, gi_59_1, gi_59_2, gi_59_3, gi_57_3, gi_57_4, gi_57_6, gi_57_8, gi_57_9, gi_57_10, gi_57_11, gi_57_12, gi_57_13, gi_57_14, gi_l, pi_45_0, pi_45_1, pi_45_2, pi_45_3, pi_59_0, pi_59_1, pi_59_2, pi_59_3, pi_57_3, pi_57_4, pi_57_6, pi_57_8, pi_57_9, pi_57_10, pi_57_11, pi_57_12, pi_57_13, pi_57_14, pi_l, gr_57_0, gr_57_1, gr_57_2, gr_57_5, gr_57_7, ld_60, sv_60, is_45, is_59, is_57, is_l, lr_58, c0, up2_row, sg_X3_finish_144]
  · rw [h] at e0
    refine mk (up2 (up2 σ 45 0 (Int32.ofNat (gX f))) 45 1 (Int32.ofNat (gY f))) ?_ ?_ ?_ F2 ?_ ?_ ?_
    · rw [fin_2 h]
      refine ⟨?_, ?_, ?_, ?_, ?_, fun s hs => ?_⟩ <;> simp (disch := omega) only [up2_s, up2_n, up2_row] <;> first | exact z1 | exact z2 | exact z3 | exact z4 | exact z5 | exact z6 s hs | rfl
    · simp (disch := omega) only [up2_s, up2_n]
    · simp (disch := omega) only [up2_s, up2_n]
    · simp (disch := omega) only [up2_row]
    · simp (disch := omega) only [up2_row]
    · rw [kc_fs2 hpl e0 e7 e8, sg_X3_finish_144]
  · rw [h] at e0
    refine mk (up2 (up2 (up2 σ 45 0 (Int32.ofNat (gX f))) 45 1 (Int32.ofNat (gY f))) 45 3 1) ?_ ?_ ?_ (FrS_trans F2 FrS_45) ?_ ?_ ?_
    · rw [fin_3 h]
      refine ⟨?_, ?_, ?_, ?_, ?_, fun s hs => ?_⟩ <;> simp (disch := omega) only [up2_s, up2_n, up2_row] <;> first | exact z1 | exact z2 | exact z3 | exact z4 | exact z5 | exact z6 s hs | rfl
    · simp (disch := omega) only [up2_s, up2_n]
    · simp (disch := omega) only [up2_s, up2_n]
    · simp (disch := omega) only [up2_row]
    · simp (disch := omega) only [up2_row]
    · rw [kc_fs3 hpl e0 e7 e8, sg_X3_finish_104]
      simp (disch := omega) only [bq_s, aq_I, aq_R, aq_V, cq_t, cq_f, if_true, if_false, Bool.true_and, Bool.and_true, Bool.or_true, Bool.true_or, gi_45_0, gi_45_1, gi_45_2, gi_45_3, gi_59_0, gi_59_1, gi_59_2, gi_59_3, gi_57_3, gi_57_4, gi_57_6, gi_57_8, gi_57_9, gi_57_10, gi_57_11, gi_57_12, gi_57_13, gi_57_14, gi_l, pi_45_0, pi_45_1, pi_45_2, pi_45_3, pi_59_0, pi_59_1, pi_59_2, pi_59_3, pi_57_3, pi_57_4, pi_57_6, pi_57_8, pi_57_9, pi_57_10, pi_57_11, pi_57_12, pi_57_13, pi_57_14, pi_l, gr_57_0, gr_57_1, gr_57_2, gr_57_5, gr_57_7, ld_60, sv_60, is_45, is_59, is_57, is_l, lr_58, sg_X3_finish_144]
  · rw [h] at e0
    refine mk (up2 (up2 (up2 σ 45 0 (Int32.ofNat (gX f))) 45 1 (Int32.ofNat (gY f))) 57 10 (Int32.ofNat (zW z + fL f))) ?_ ?_ ?_ (FrS_trans F2 (FrS_57 (by omega))) ?_ ?_ ?_
    · rw [fin_4 h]
      refine ⟨?_, ?_, ?_, ?_, ?_, fun s hs => ?_⟩ <;> simp (disch := omega) only [up2_s, up2_n, up2_row] <;> first | exact z1 | exact z2 | exact z3 | exact z4 | exact z5 | exact z6 s hs | rfl
    · simp (disch := omega) only [up2_s, up2_n]
    · simp (disch := omega) only [up2_s, up2_n]
    · simp (disch := omega) only [up2_n, up2_row]
    · simp (disch := omega) only [up2_n, up2_row]
    · rw [kc_fs4 hpl e0 e7 e8, sg_X3_finish_115]
      simp (disch := omega) only [bq_s, aq_I, aq_R, aq_V, cq_t, cq_f, if_true, if_false, Bool.true_and, Bool.and_true, Bool.or_true, Bool.true_or, gi_45_0, gi_45_1, gi_45_2, gi_45_3, gi_59_0, gi_59_1, gi_59_2, gi_59_3, gi_57_3, gi_57_4, gi_57_6, gi_57_8, gi_57_9, gi_57_10, gi_57_11, gi_57_12, gi_57_13, gi_57_14, gi_l, pi_45_0, pi_45_1, pi_45_2, pi_45_3, pi_59_0, pi_59_1, pi_59_2, pi_59_3, pi_57_3, pi_57_4, pi_57_6, pi_57_8, pi_57_9, pi_57_10, pi_57_11, pi_57_12, pi_57_13, pi_57_14, pi_l, gr_57_0, gr_57_1, gr_57_2, gr_57_5, gr_57_7, ld_60, sv_60, is_45, is_59, is_57, is_l, lr_58, up2_row, z5, e4, e3, i_sub, Nat.add_sub_cancel_left, i_add, sg_X3_finish_144]
  · rw [h] at e0
    have hs8 := ho.2.2.2.2.2.2.2.2.2.2.1 (by omega)
    have hsm := (ho.2.2.2.2.2.2.2.2.2.1.resolve_left hs8).1
    rw [encS_ne hs8] at e1
    have c2 := (C.2.2.1 _ hsm).2.2.1
    have hn := (W.2.1 _ hsm).1
    have hI := ho.2.2.2.2.2.2.1 (by omega)
    have hW : fW f ≤ 500 := by
      unfold fW
      rw [if_pos (Or.inr h)]
      have := ho.2.2.2.2.2.2.2.2.2.2.2.2
      exact way_le this.1 this.2.1 this.2.2.1 this.2.2.2
    by_cases hq : zI z + 1 + 1 < pN P (fS f)
    · refine mk (up2 (up2 (up2 (up2 σ 45 0 (Int32.ofNat (gX f))) 45 1 (Int32.ofNat (gY f))) 57 8 (Int32.ofNat (zI z + 1))) 57 9 (Int32.ofNat (zU z + fW f))) ?_ ?_ ?_ (FrS_trans F2 (FrS_trans (FrS_57 (by omega)) (FrS_57 (by omega)))) ?_ ?_ ?_
      · rw [fin_5 h, if_pos hq]
        refine ⟨?_, ?_, ?_, ?_, ?_, fun s hs => ?_⟩ <;> simp (disch := omega) only [up2_s, up2_n, up2_row] <;> first | exact z1 | exact z2 | exact z3 | exact z4 | exact z5 | exact z6 s hs | rfl
      · simp (disch := omega) only [up2_s, up2_n]
      · simp (disch := omega) only [up2_s, up2_n]
      · simp (disch := omega) only [up2_n, up2_row]
      · simp (disch := omega) only [up2_n, up2_row]
      · rw [kc_fs6 hpl e0 e7 e8, sg_X3_finish_136]
        simp (disch := omega) only [bq_s, aq_I, aq_R, aq_V, cq_t, cq_f, if_true, if_false, Bool.true_and, Bool.and_true, Bool.or_true, Bool.true_or, gi_45_0, gi_45_1, gi_45_2, gi_45_3, gi_59_0, gi_59_1, gi_59_2, gi_59_3, gi_57_3, gi_57_4, gi_57_6, gi_57_8, gi_57_9, gi_57_10, gi_57_11, gi_57_12, gi_57_13, gi_57_14, gi_l, pi_45_0, pi_45_1, pi_45_2, pi_45_3, pi_59_0, pi_59_1, pi_59_2, pi_59_3, pi_57_3, pi_57_4, pi_57_6, pi_57_8, pi_57_9, pi_57_10, pi_57_11, pi_57_12, pi_57_13, pi_57_14, pi_l, gr_57_0, gr_57_1, gr_57_2, gr_57_5, gr_57_7, ld_60, sv_60, is_45, is_59, is_57, is_l, lr_58, sg_X3_finishPiece_0]
        simp (disch := omega) only [bq_s, aq_I, aq_R, aq_V, cq_t, cq_f, if_true, if_false, Bool.true_and, Bool.and_true, Bool.or_true, Bool.true_or, gi_1_3, gi_s, pi_1_3, pi_s, gr_0_0, gr_0_1, gr_0_2, gr_0_3, gr_1_0, gr_1_1, gr_1_2, gr_s_7, gr_s_8, gr_s_9, gr_s_10, ld_3, ld_4, ld_x, ld_y, ld_u, ld_v, sv_3, sv_4, sv_x, sv_y, sv_u, sv_v, is_0, is_1, is_s, lr_2, gi_45_0, gi_45_1, gi_45_2, gi_45_3, gi_59_0, gi_59_1, gi_59_2, gi_59_3, gi_57_3, gi_57_4, gi_57_6, gi_57_8, gi_57_9, gi_57_10, gi_57_11, gi_57_12, gi_57_13, gi_57_14, gi_l, pi_45_0, pi_45_1, pi_45_2, pi_45_3, pi_59_0, pi_59_1, pi_59_2, pi_59_3, pi_57_3, pi_57_4, pi_57_6, pi_57_8, pi_57_9, pi_57_10, pi_57_11, pi_57_12, pi_57_13, pi_57_14, pi_l, gr_57_0, gr_57_1, gr_57_2, gr_57_5, gr_57_7, ld_60, sv_60, is_45, is_59, is_57, is_l, lr_58, ia_0, ia_1, is_m0, is_m1, im_8, ml_8, im_11, ml_11, im_12, ml_12, im_88, ml_88, im_89, ml_89, j_lt_0, j_gt_0, j_le_0, j_ge_0, j_eq_0, j_lt_1, j_gt_1, j_le_1, j_ge_1, j_eq_1, j_lt_2, j_gt_2, j_le_2, j_ge_2, j_eq_2, j_lt_3, j_gt_3, j_le_3, j_ge_3, j_eq_3, j_lt_4, j_gt_4, j_le_4, j_ge_4, j_eq_4, j_lt_5, j_gt_5, j_le_5, j_ge_5, j_eq_5, j_lt_6, j_gt_6, j_le_6, j_ge_6, j_eq_6, j_lt_8, j_gt_8, j_le_8, j_ge_8, j_eq_8, j_lt_12, j_gt_12, j_le_12, j_ge_12, j_eq_12, j_lt_209, j_gt_209, j_le_209, j_ge_209, j_eq_209, j_lt_255, j_gt_255, j_le_255, j_ge_255, j_eq_255, j_lt_1000000000, j_gt_1000000000, j_le_1000000000, j_ge_1000000000, j_eq_1000000000, up2_n, up2_s, up2_row, e1, z3, z4, e9, i_add, c2, i_lt, hq, sg_X3_finish_144]
    · refine mk (up2 (up2 (up2 (up2 (up2 (up2 (up2 (up2 σ 45 0 (Int32.ofNat (gX f))) 45 1 (Int32.ofNat (gY f))) 57 8 (Int32.ofNat (zI z + 1))) 57 9 (Int32.ofNat (zU z + fW f))) (5 + 5 * fS f) 3 0) (5 + 5 * fS f) 6 (Int32.ofNat (tot (l.take p) + fL f))) 57 8 0) 57 9 0) ?_ ?_ ?_ (FrS_trans F2 (FrS_trans (FrS_57 (by omega)) (FrS_trans (FrS_57 (by omega)) (FrS_trans (FrS_st (by omega) (by omega)) (FrS_trans (FrS_st (by omega) (by omega)) (FrS_trans (FrS_57 (by omega)) (FrS_57 (by omega)))))))) ?_ ?_ ?_
      · rw [fin_5 h, if_neg hq]
        refine ⟨?_, ?_, ?_, ?_, ?_, fun s hs => ?_⟩
        · simp (disch := omega) only [up2_n, up2_row]; exact z1
        · simp (disch := omega) only [up2_n, up2_row]; exact z2
        · simp (disch := omega) only [up2_n, up2_s]; rfl
        · simp (disch := omega) only [up2_s]; rfl
        · simp (disch := omega) only [up2_n, up2_row]; exact z5
        · show _ = bI (pLf P s && (if s = fS f then some (zT z + fL f) else zE z s).isNone) ∧ _ = encE (if s = fS f then some (zT z + fL f) else zE z s)
          by_cases e : s = fS f
          · subst e
            rw [if_pos rfl, hT]
            simp (disch := omega) only [up2_n, up2_s]
            refine ⟨?_, rfl⟩
            rw [show (some (tot (List.take p l) + fL f)).isNone = false from rfl, Bool.and_false]; rfl
          · rw [if_neg e]
            simp (disch := omega) only [up2_n, up2_row]
            exact z6 s hs
      · simp (disch := omega) only [up2_s, up2_n]
      · simp (disch := omega) only [up2_s, up2_n]
      · simp (disch := omega) only [up2_n, up2_row]
      · simp (disch := omega) only [up2_n, up2_row]
      · rw [kc_fs6 hpl e0 e7 e8, sg_X3_finish_136]
        simp (disch := omega) only [bq_s, aq_I, aq_R, aq_V, cq_t, cq_f, if_true, if_false, Bool.true_and, Bool.and_true, Bool.or_true, Bool.true_or, gi_45_0, gi_45_1, gi_45_2, gi_45_3, gi_59_0, gi_59_1, gi_59_2, gi_59_3, gi_57_3, gi_57_4, gi_57_6, gi_57_8, gi_57_9, gi_57_10, gi_57_11, gi_57_12, gi_57_13, gi_57_14, gi_l, pi_45_0, pi_45_1, pi_45_2, pi_45_3, pi_59_0, pi_59_1, pi_59_2, pi_59_3, pi_57_3, pi_57_4, pi_57_6, pi_57_8, pi_57_9, pi_57_10, pi_57_11, pi_57_12, pi_57_13, pi_57_14, pi_l, gr_57_0, gr_57_1, gr_57_2, gr_57_5, gr_57_7, ld_60, sv_60, is_45, is_59, is_57, is_l, lr_58, sg_X3_finishPiece_0]
        simp (disch := omega) only [bq_s, aq_I, aq_R, aq_V, cq_t, cq_f, if_true, if_false, Bool.true_and, Bool.and_true, Bool.or_true, Bool.true_or, gi_1_3, gi_s, pi_1_3, pi_s, gr_0_0, gr_0_1, gr_0_2, gr_0_3, gr_1_0, gr_1_1, gr_1_2, gr_s_7, gr_s_8, gr_s_9, gr_s_10, ld_3, ld_4, ld_x, ld_y, ld_u, ld_v, sv_3, sv_4, sv_x, sv_y, sv_u, sv_v, is_0, is_1, is_s, lr_2, gi_45_0, gi_45_1, gi_45_2, gi_45_3, gi_59_0, gi_59_1, gi_59_2, gi_59_3, gi_57_3, gi_57_4, gi_57_6, gi_57_8, gi_57_9, gi_57_10, gi_57_11, gi_57_12, gi_57_13, gi_57_14, gi_l, pi_45_0, pi_45_1, pi_45_2, pi_45_3, pi_59_0, pi_59_1, pi_59_2, pi_59_3, pi_57_3, pi_57_4, pi_57_6, pi_57_8, pi_57_9, pi_57_10, pi_57_11, pi_57_12, pi_57_13, pi_57_14, pi_l, gr_57_0, gr_57_1, gr_57_2, gr_57_5, gr_57_7, ld_60, sv_60, is_45, is_59, is_57, is_l, lr_58, ia_0, ia_1, is_m0, is_m1, im_8, ml_8, im_11, ml_11, im_12, ml_12, im_88, ml_88, im_89, ml_89, j_lt_0, j_gt_0, j_le_0, j_ge_0, j_eq_0, j_lt_1, j_gt_1, j_le_1, j_ge_1, j_eq_1, j_lt_2, j_gt_2, j_le_2, j_ge_2, j_eq_2, j_lt_3, j_gt_3, j_le_3, j_ge_3, j_eq_3, j_lt_4, j_gt_4, j_le_4, j_ge_4, j_eq_4, j_lt_5, j_gt_5, j_le_5, j_ge_5, j_eq_5, j_lt_6, j_gt_6, j_le_6, j_ge_6, j_eq_6, j_lt_8, j_gt_8, j_le_8, j_ge_8, j_eq_8, j_lt_12, j_gt_12, j_le_12, j_ge_12, j_eq_12, j_lt_209, j_gt_209, j_le_209, j_ge_209, j_eq_209, j_lt_255, j_gt_255, j_le_255, j_ge_255, j_eq_255, j_lt_1000000000, j_gt_1000000000, j_le_1000000000, j_ge_1000000000, j_eq_1000000000, up2_n, up2_s, up2_row, e1, z3, z4, e9, i_add, c2, i_lt, hq, e4, sg_X3_finish_144]
  · rw [h] at e0
    refine mk (up2 (up2 σ 45 0 (Int32.ofNat (gX f))) 45 1 (Int32.ofNat (gY f))) ?_ ?_ ?_ F2 ?_ ?_ ?_
    · rw [fin_6 h]
      refine ⟨?_, ?_, ?_, ?_, ?_, fun s hs => ?_⟩ <;> simp (disch := omega) only [up2_s, up2_n, up2_row] <;> first | exact z1 | exact z2 | exact z3 | exact z4 | exact z5 | exact z6 s hs | rfl
    · simp (disch := omega) only [up2_s, up2_n]
    · simp (disch := omega) only [up2_s, up2_n]
    · simp (disch := omega) only [up2_row]
    · simp (disch := omega) only [up2_row]
    · rw [kc_fs5 hpl e0 e7 e8, sg_X3_finish_144]
end CFN
