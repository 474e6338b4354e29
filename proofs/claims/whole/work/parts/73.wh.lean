/-! WHERE THE ARM IS; the class's own questions while it runs -/
section WHS
variable {tb : dT} {d c t : Nat} {g : Nat → Option dE} {fl : Nat → Bool} {tg : Nat} {σ : dSg} {P : dP} {A : dA} {os ob : Nat → Nat} {sum : Option Nat} {k T w : Nat} {e : Nat → Option Nat} {n j : Int32}
theorem whI_ex {a b w u : Nat} (ha : a ≤ 500) (hb : b ≤ 500) (hw : w ≤ 500) (hu : u ≤ w) : ∃ v, v ≤ 500 ∧ whI a b w u = Int32.ofNat v := by
  unfold whI
  by_cases h0 : w = 0
  · exact ⟨a, ha, by rw [if_pos h0]⟩
  · rw [if_neg h0, i_sI, ← Int32.ofInt_eq_ofNat (n := u), z_mul, ← Int32.ofInt_eq_ofNat (n := w), ← Int32.ofInt_eq_ofNat (n := a)]
    rcases Nat.le_total a b with q | q
    · have hm : (b - a) * u ≤ 250000 := Nat.mul_le_mul (show b - a ≤ 500 by omega) (show u ≤ 500 by omega)
      have hd : (b - a) * u / w ≤ b - a := by
        apply Nat.div_le_of_le_mul
        rw [Nat.mul_comm w]
        exact Nat.mul_le_mul_left _ hu
      have e1 : ((b : Int) - a) * (u : Int) = (((b - a) * u : Nat) : Int) := by rw [Int.natCast_mul, Int.ofNat_sub q]
      rw [e1, ← Int32.ofInt_tdiv (by show (-2147483648 : Int) ≤ _; omega) (by show _ ≤ (2147483647 : Int); omega) (by show (-2147483648 : Int) ≤ _; omega) (by show _ ≤ (2147483647 : Int); omega), z_add]
      refine ⟨a + (b - a) * u / w, by omega, ?_⟩
      rw [show ((((b - a) * u : Nat) : Int).tdiv (w : Int)) = (((b - a) * u / w : Nat) : Int) from (Int.ofNat_tdiv _ _).symm]
      rw [← Int32.ofInt_eq_ofNat]; rfl
    · have hm : (a - b) * u ≤ 250000 := Nat.mul_le_mul (show a - b ≤ 500 by omega) (show u ≤ 500 by omega)
      have hd : (a - b) * u / w ≤ a - b := by
        apply Nat.div_le_of_le_mul
        rw [Nat.mul_comm w]
        exact Nat.mul_le_mul_left _ hu
      have e1 : ((b : Int) - a) * (u : Int) = -(((a - b) * u : Nat) : Int) := by rw [Int.natCast_mul, Int.ofNat_sub q, ← Int.neg_mul]; congr 1; omega
      rw [e1, ← Int32.ofInt_tdiv (by show (-2147483648 : Int) ≤ _; omega) (by show _ ≤ (2147483647 : Int); omega) (by show (-2147483648 : Int) ≤ _; omega) (by show _ ≤ (2147483647 : Int); omega), z_add, Int.neg_tdiv]
      refine ⟨a - (a - b) * u / w, Nat.le_trans (Nat.sub_le _ _) ha, ?_⟩
      rw [show ((((a - b) * u : Nat) : Int).tdiv (w : Int)) = (((a - b) * u / w : Nat) : Int) from (Int.ofNat_tdiv _ _).symm]
      rw [← Int32.ofInt_eq_ofNat, Int.ofNat_sub (Nat.le_trans hd (Nat.sub_le a b))]; rfl
theorem run_u {z : dZ} {f : dF} {pre : List dF} (W : Wf P) (ho : okF P z f) (h2 : T < tot pre + fL f) : fW f = 0 ∨ (T - tot pre) / fU P f ≤ fW f := by
  by_cases q : fK f = 2 ∨ fK f = 5
  · right
    have e := ho.2.2.2.2.2.2.2.2.1 q
    have h : T - tot pre < fU P f * fW f ∨ fL f = 0 := by omega
    rcases h with h | h
    · exact Nat.le_of_lt (Nat.div_lt_of_lt_mul h)
    · have : T - tot pre = 0 := by omega
      rw [this, Nat.zero_div]; exact Nat.zero_le _
  · left; unfold fW; rw [if_neg q]
theorem run_wh {z : dZ} {f : dF} {pre : List dF} (W : Wf P) (ho : okF P z f) (h2 : T < tot pre + fL f) : (∃ v, v ≤ 500 ∧ whI (fX f) (gX f) (fW f) ((T - tot pre) / fU P f) = Int32.ofNat v) ∧ ∃ v, v ≤ 500 ∧ whI (fY f) (gY f) (fW f) ((T - tot pre) / fU P f) = Int32.ofNat v := by
  have hw := fW_le ho
  obtain ⟨b1, b2, b3, b4⟩ := ho.2.2.2.2.2.2.2.2.2.2.2.2
  rcases run_u W ho h2 with q | q
  · unfold whI; rw [if_pos q, if_pos q]; exact ⟨⟨_, b1, rfl⟩, ⟨_, b2, rfl⟩⟩
  · exact ⟨whI_ex b1 b3 hw q, whI_ex b2 b4 hw q⟩
/-- the class in the midst of a run: which phase -/
noncomputable def AtC (P : dP) (A : dA) (os ob : Nat → Nat) (k T : Nat) (pre : List dF) (f : dF) (post : List dF) (σ : dSg) : Prop := phZ P A os ob k = pre ++ f :: post ∧ tot pre ≤ T ∧ T < tot pre + fL f ∧ LgC P ((phZ P A os ob k).filter nz) σ ∧ σ 57 4 = Int32.ofNat (pre.filter nz).length ∧ σ 57 12 = Int32.ofNat T
theorem at_ok (R : OkR P A sum k os ob T) {pre post : List dF} {f : dF} (he : phZ P A os ob k = pre ++ f :: post) : okF P (pre.foldl (fin P) (z0 A)) f ∧ okL P (z0 A) pre := by
  obtain ⟨W, hx, hy, hk, h8, hp1, hT⟩ := R
  have ok := (phZ_ok (A := A) W (pl_ok hp1 hk h8).1 hk hx hy).1
  rw [he] at ok
  have := (okL_app _).mp ok
  exact ⟨this.2.1, this.1⟩
theorem at_cell (R : OkR P A sum k os ob T) {pre post : List dF} {f : dF} (H : AtC P A os ob k T pre f post σ) : (pre.filter nz).length < 209 ∧ (∃ L, L ≤ 209 ∧ (pre.filter nz).length < L ∧ σ 57 3 = Int32.ofNat L) ∧ σ (61 + (pre.filter nz).length) 0 = Int32.ofNat (kC (fK f)) ∧ σ (61 + (pre.filter nz).length) 1 = encS (fS f) ∧ σ (61 + (pre.filter nz).length) 2 = Int32.ofNat (fB f) ∧ σ (61 + (pre.filter nz).length) 3 = Int32.ofNat (tot pre) ∧ σ (61 + (pre.filter nz).length) 10 = Int32.ofNat (fU P f) := by
  obtain ⟨W, hx, hy, hk, h8, hp1, hT⟩ := R
  obtain ⟨h1, h2, h3, h4, h5, h6⟩ := H
  have hO := (pl_ok hp1 hk h8).1
  obtain ⟨l1, l2⟩ := phZ_len (A := A) W hO hx hy
  have sf := split_fil (pre := pre) (post := post) (f := f) (by omega)
  rw [← h1] at sf
  have := fil_len (phZ P A os ob k)
  obtain ⟨a0, a1, a2, a3, a4, a5, a6, a7, a8, a9, a10⟩ := h4.2.2 _ _ sf.1
  rw [sf.2.1, tot_nz] at a3
  exact ⟨by omega, ⟨_, by omega, sf.2.2, h4.1⟩, a0, a1, a2, a3, a10⟩
theorem kr_isIn (R : OkR P A sum k os ob T) {pre post : List dF} {f : dF} (H : AtC P A os ob k T pre f post σ) (v : Int32) : dX tb d 33 0 [.ref 57, .int v] [] (c, t, hp g (SH fl tg) σ) = some (some (.int (bI (decide (Int32.ofNat (kC (fK f)) = v)))), (c, t, hp g (SH fl tg) σ)) := by
  obtain ⟨c1, ⟨L, L1, L2, L3⟩, c2, -⟩ := at_cell R H
  rw [sg_X3_isIn_0]
  have hn : ¬ L ≤ (pre.filter nz).length := by omega
  simp (disch := omega) only [bq_s, aq_I, aq_R, aq_V, cq_t, cq_f, if_true, if_false, Bool.true_and, Bool.and_true, Bool.or_true, Bool.true_or, gi_45_0, gi_45_1, gi_45_2, gi_45_3, gi_59_0, gi_59_1, gi_59_2, gi_59_3, gi_57_3, gi_57_4, gi_57_6, gi_57_8, gi_57_9, gi_57_10, gi_57_11, gi_57_12, gi_57_13, gi_57_14, gi_l, pi_45_0, pi_45_1, pi_45_2, pi_45_3, pi_59_0, pi_59_1, pi_59_2, pi_59_3, pi_57_3, pi_57_4, pi_57_6, pi_57_8, pi_57_9, pi_57_10, pi_57_11, pi_57_12, pi_57_13, pi_57_14, pi_l, gr_57_0, gr_57_1, gr_57_2, gr_57_5, gr_57_7, ld_60, sv_60, is_45, is_59, is_57, is_l, lr_58, H.2.2.2.2.1, L3, i_le, hn, c2]
  by_cases q : Int32.ofNat (kC (fK f)) = v
  · rw [if_pos q, decide_eq_true q]; rfl
  · rw [if_neg q, decide_eq_false q]; rfl
theorem kr_stroke (R : OkR P A sum k os ob T) {pre post : List dF} {f : dF} (H : AtC P A os ob k T pre f post σ) : dX tb d 31 0 [.ref 57] [] (c, t, hp g (SH fl tg) σ) = some (some (.int (encS (fS f))), (c, t, hp g (SH fl tg) σ)) := by
  obtain ⟨c1, ⟨L, L1, L2, L3⟩, -, c3, -⟩ := at_cell R H
  rw [sg_X3_strokeUnderway_0]
  have hn : ¬ L ≤ (pre.filter nz).length := by omega
  simp (disch := omega) only [bq_s, aq_I, aq_R, aq_V, cq_t, cq_f, if_true, if_false, Bool.true_and, Bool.and_true, Bool.or_true, Bool.true_or, gi_45_0, gi_45_1, gi_45_2, gi_45_3, gi_59_0, gi_59_1, gi_59_2, gi_59_3, gi_57_3, gi_57_4, gi_57_6, gi_57_8, gi_57_9, gi_57_10, gi_57_11, gi_57_12, gi_57_13, gi_57_14, gi_l, pi_45_0, pi_45_1, pi_45_2, pi_45_3, pi_59_0, pi_59_1, pi_59_2, pi_59_3, pi_57_3, pi_57_4, pi_57_6, pi_57_8, pi_57_9, pi_57_10, pi_57_11, pi_57_12, pi_57_13, pi_57_14, pi_l, gr_57_0, gr_57_1, gr_57_2, gr_57_5, gr_57_7, ld_60, sv_60, is_45, is_59, is_57, is_l, lr_58, H.2.2.2.2.1, L3, i_le, hn, c3]
theorem kC_4 {f : dF} (h : fK f ≤ 6) : (Int32.ofNat (kC (fK f)) = 4) = (fK f = 4) := by
  unfold kC
  rw [j_eq_4 (by split <;> (try split) <;> omega), eq_iff_iff]
  split <;> (try split) <;> omega
theorem kC_5 {f : dF} (h : fK f ≤ 6) : (Int32.ofNat (kC (fK f)) = 5) = (fK f = 6) := by
  unfold kC
  rw [j_eq_5 (by split <;> (try split) <;> omega), eq_iff_iff]
  split <;> (try split) <;> omega
theorem kC_6 {f : dF} (h : fK f ≤ 6) : (Int32.ofNat (kC (fK f)) = 6) = (fK f = 5) := by
  unfold kC
  rw [j_eq_6 (by split <;> (try split) <;> omega), eq_iff_iff]
  split <;> (try split) <;> omega
theorem kr_wait (R : OkR P A sum k os ob T) {pre post : List dF} {f : dF} (H : AtC P A os ob k T pre f post σ) (z5 : σ 57 10 = Int32.ofNat (zW (pre.foldl (fin P) (z0 A)))) : dX tb (d + 1) 30 0 [.ref 57] [] (c, t, hp g (SH fl tg) σ) = some (some (.int (Int32.ofNat (wtT T 0 (phZ P A os ob k)))), (c, t, hp g (SH fl tg) σ)) := by
  obtain ⟨c1, ⟨L, L1, L2, L3⟩, -, -, -, c5, -⟩ := at_cell R H
  obtain ⟨ho, -⟩ := at_ok R H.1
  have hI := kr_isIn (tb := tb) (d := d) (c := c) (t := t) (g := g) (fl := fl) (tg := tg) R H 4
  obtain ⟨h1, h2, h3, h4, h5, h6⟩ := H
  have hw : σ 57 10 = Int32.ofNat (wtS pre) := by rw [z5, fold_W]; congr 1; exact Nat.zero_add _
  rw [sg_X3_ticksWaited_0, h1, wtT_split h2 h3]
  simp (disch := omega) only [bq_s, aq_I, aq_R, aq_V, cq_t, cq_f, if_true, if_false, Bool.true_and, Bool.and_true, Bool.or_true, Bool.true_or, gi_45_0, gi_45_1, gi_45_2, gi_45_3, gi_59_0, gi_59_1, gi_59_2, gi_59_3, gi_57_3, gi_57_4, gi_57_6, gi_57_8, gi_57_9, gi_57_10, gi_57_11, gi_57_12, gi_57_13, gi_57_14, gi_l, pi_45_0, pi_45_1, pi_45_2, pi_45_3, pi_59_0, pi_59_1, pi_59_2, pi_59_3, pi_57_3, pi_57_4, pi_57_6, pi_57_8, pi_57_9, pi_57_10, pi_57_11, pi_57_12, pi_57_13, pi_57_14, pi_l, gr_57_0, gr_57_1, gr_57_2, gr_57_5, gr_57_7, ld_60, sv_60, is_45, is_59, is_57, is_l, lr_58, hI, bI_0]
  by_cases q : fK f = 4
  · rw [decide_eq_true (by rw [kC_4 ho.1]; exact q), if_neg (by decide), if_pos q]
    simp (disch := omega) only [bq_s, aq_I, aq_R, aq_V, cq_t, cq_f, if_true, if_false, Bool.true_and, Bool.and_true, Bool.or_true, Bool.true_or, gi_45_0, gi_45_1, gi_45_2, gi_45_3, gi_59_0, gi_59_1, gi_59_2, gi_59_3, gi_57_3, gi_57_4, gi_57_6, gi_57_8, gi_57_9, gi_57_10, gi_57_11, gi_57_12, gi_57_13, gi_57_14, gi_l, pi_45_0, pi_45_1, pi_45_2, pi_45_3, pi_59_0, pi_59_1, pi_59_2, pi_59_3, pi_57_3, pi_57_4, pi_57_6, pi_57_8, pi_57_9, pi_57_10, pi_57_11, pi_57_12, pi_57_13, pi_57_14, pi_l, gr_57_0, gr_57_1, gr_57_2, gr_57_5, gr_57_7, ld_60, sv_60, is_45, is_59, is_57, is_l, lr_58, h5, h6, c5, hw, i_add, i_sub]
    rw [Nat.add_sub_assoc h2]
  · rw [decide_eq_false (by rw [kC_4 ho.1]; exact q), if_pos rfl, if_neg q, hw, Nat.add_zero]
theorem kr_units (R : OkR P A sum k os ob T) {pre post : List dF} {f : dF} (H : AtC P A os ob k T pre f post σ) (z4 : σ 57 9 = Int32.ofNat (zU (pre.foldl (fin P) (z0 A)))) : dX tb (d + 1) 32 0 [.ref 57] [] (c, t, hp g (SH fl tg) σ) = some (some (.int (Int32.ofNat ((if 5 ≤ fK f then wsU P (fS f) (fB f) (fJ f) else 0) + (if fK f = 5 then (T - tot pre) / pPr P 0 else 0)))), (c, t, hp g (SH fl tg) σ)) := by
  obtain ⟨c1, ⟨L, L1, L2, L3⟩, -, -, -, c5, c6⟩ := at_cell R H
  obtain ⟨ho, -⟩ := at_ok R H.1
  have hI6 := kr_isIn (tb := tb) (d := d) (c := c) (t := t) (g := g) (fl := fl) (tg := tg) R H 6
  have hI5 := kr_isIn (tb := tb) (d := d) (c := c) (t := t) (g := g) (fl := fl) (tg := tg) R H 5
  obtain ⟨h1, h2, h3, h4, h5, h6⟩ := H
  obtain ⟨W, hx, hy, hk, h8, hp1, hT⟩ := R
  have l2 := (phZ_len (A := A) W (pl_ok hp1 hk h8).1 hx hy).2
  have hu := fU_le W f
  rw [sg_X3_unitsDrawn_0]
  simp (disch := omega) only [bq_s, aq_I, aq_R, aq_V, cq_t, cq_f, if_true, if_false, Bool.true_and, Bool.and_true, Bool.or_true, Bool.true_or, gi_45_0, gi_45_1, gi_45_2, gi_45_3, gi_59_0, gi_59_1, gi_59_2, gi_59_3, gi_57_3, gi_57_4, gi_57_6, gi_57_8, gi_57_9, gi_57_10, gi_57_11, gi_57_12, gi_57_13, gi_57_14, gi_l, pi_45_0, pi_45_1, pi_45_2, pi_45_3, pi_59_0, pi_59_1, pi_59_2, pi_59_3, pi_57_3, pi_57_4, pi_57_6, pi_57_8, pi_57_9, pi_57_10, pi_57_11, pi_57_12, pi_57_13, pi_57_14, pi_l, gr_57_0, gr_57_1, gr_57_2, gr_57_5, gr_57_7, ld_60, sv_60, is_45, is_59, is_57, is_l, lr_58, hI6, hI5, bI_0]
  by_cases q : fK f = 5
  · rw [decide_eq_true (by rw [kC_6 ho.1]; exact q), if_neg (by decide), if_pos (by omega), if_pos q]
    have zu := (ho.2.2.2.2.2.2.1 (by omega)).2.2.1
    have fu : fU P f = pPr P 0 := by unfold fU; rw [if_neg (by omega), if_pos q]
    rw [fu] at c6 hu
    simp (disch := omega) only [bq_s, aq_I, aq_R, aq_V, cq_t, cq_f, if_true, if_false, Bool.true_and, Bool.and_true, Bool.or_true, Bool.true_or, gi_45_0, gi_45_1, gi_45_2, gi_45_3, gi_59_0, gi_59_1, gi_59_2, gi_59_3, gi_57_3, gi_57_4, gi_57_6, gi_57_8, gi_57_9, gi_57_10, gi_57_11, gi_57_12, gi_57_13, gi_57_14, gi_l, pi_45_0, pi_45_1, pi_45_2, pi_45_3, pi_59_0, pi_59_1, pi_59_2, pi_59_3, pi_57_3, pi_57_4, pi_57_6, pi_57_8, pi_57_9, pi_57_10, pi_57_11, pi_57_12, pi_57_13, pi_57_14, pi_l, gr_57_0, gr_57_1, gr_57_2, gr_57_5, gr_57_7, ld_60, sv_60, is_45, is_59, is_57, is_l, lr_58, h5, h6, z4, zu, kc_units c1 c6 c5 h2 (show T ≤ 1000000 by omega) hu, i_add]
  · rw [decide_eq_false (by rw [kC_6 ho.1]; exact q), if_pos rfl, if_neg q, Nat.add_zero]
    by_cases q2 : fK f = 6
    · have zu := (ho.2.2.2.2.2.2.1 (by omega)).2.2.1
      rw [decide_eq_true (by rw [kC_5 ho.1]; exact q2), if_neg (by decide), if_pos (by omega), z4, zu]
    · have := ho.1
      rw [decide_eq_false (by rw [kC_5 ho.1]; exact q2), if_pos rfl, if_neg (by omega)]; rfl
end WHS
