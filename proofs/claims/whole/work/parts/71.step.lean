/-! step, the class's side -/
section STP
variable {tb : dT} {d c t : Nat} {g : Nat → Option dE} {fl : Nat → Bool} {tg : Nat} {σ : dSg} {P : dP} {A : dA} {os ob : Nat → Nat} {sum : Option Nat} {k T w : Nat} {e : Nat → Option Nat} {n j : Int32}
def donP (P : dP) (e : Nat → Option Nat) : dP := (P.1, P.2.1, P.2.2.1, P.2.2.2.1, P.2.2.2.2.1, P.2.2.2.2.2.1, fun s => pLf P s && (e s).isNone, P.2.2.2.2.2.2.2.1, P.2.2.2.2.2.2.2.2.1, P.2.2.2.2.2.2.2.2.2)
theorem donP_Wf (W : Wf P) : Wf (donP P e) := W
theorem donP_ovm (v : Nat) : ∀ o, ovm (donP P e) v o = ovm P v o := by
  intro o
  induction o with
  | zero => rfl
  | succ o ih => show ovm (donP P e) v o + _ = ovm P v o + _; rw [ih]; rfl
theorem donP_ShC (C : ShC P fl σ) : ShC (donP P e) fl σ := ⟨C.1, C.2.1, C.2.2.1, fun s hs => by rw [donP_ovm]; exact C.2.2.2 s hs⟩
def endA (P : dP) (A : dA) (os ob : Nat → Nat) (k : Nat) : dA := (pvX P A os ob k, pvY P A os ob k, pvP P A os k)
/-- what is known of a run -/
def OkR (P : dP) (A : dA) (sum : Option Nat) (k : Nat) (os ob : Nat → Nat) (T : Nat) : Prop := Wf P ∧ A.1 ≤ 500 ∧ A.2.1 ≤ 500 ∧ 0 < k ∧ k ≤ 8 ∧ IsPl P A sum k os ob ∧ T < tot (phZ P A os ob k)
theorem end_ok (W : Wf P) (hO : OkO P os ob k) (hk : 0 < k) (hx : A.1 ≤ 500) (hy : A.2.1 ≤ 500) : Ok0 (donP P (eoU os (enZ P A os ob) k)) (endA P A os ob k) (tot (phZ P A os ob k)) (eoU os (enZ P A os ob) k) := by
  obtain ⟨l1, l2⟩ := phZ_len (A := A) W hO hx hy
  obtain ⟨p1, p2⟩ := pv_le (A := A) W hO hx hy (Nat.le_refl k)
  refine ⟨donP_Wf W, p1, p2, l2, fun s x hs => ?_⟩
  have z := zE_early (P := P) (l := phZ P A os ob k) (z := z0 A) (fun s e h => by cases h) s x (by rw [(phZ_ok (A := A) W hO hk hx hy).2.1]; exact hs)
  have : zT (z0 A) = 0 := rfl
  omega
theorem kq_step (R : OkR P A sum k os ob T) (H : CR P A sum k os ob T n j fl tg c σ) (x : Int32) : (inR 10001 x = false → dX tb (d + 5) 81 0 [.ref 0, .int x, .null] [] (c, t, hp g (SH fl tg) σ) = some (some (.int (-1)), (c, t, hp g (SH fl tg) σ))) ∧ (inR 10001 x = true → ∃ τ, dX tb (d + 5) 81 0 [.ref 0, .int x, .null] [] (c, t, hp g (SH fl tg) σ) = some (some (.int (Int32.ofNat (min (tot (phZ P A os ob k) - T) (tN x)))), (c, t, hp g (SH fl tg) τ)) ∧ (∀ a, 270 ≤ a → τ a = σ a) ∧ (T + min (tot (phZ P A os ob k) - T) (tN x) < tot (phZ P A os ob k) → CR P A sum k os ob (T + min (tot (phZ P A os ob k) - T) (tN x)) n j fl tg c τ) ∧ (T + min (tot (phZ P A os ob k) - T) (tN x) = tot (phZ P A os ob k) → CN (donP P (eoU os (enZ P A os ob) k)) (endA P A os ob k) (tot (phZ P A os ob k)) (wtS (phZ P A os ob k)) (eoU os (enZ P A os ob) k) n j fl tg c τ)) := by
  obtain ⟨W, hx, hy, hk, h8, hp1, hT⟩ := R
  have hm := W.1
  obtain ⟨C, Lg, Pl, Pb, h46, h11, h12, h13, h14, hg, pre, f, post, r1, r2, r3, r4, r5, r6, r7⟩ := H
  have hO := (pl_ok hp1 hk h8).1
  obtain ⟨l1, l2⟩ := phZ_len (A := A) W hO hx hy
  have hN0 : ¬ ((1 : Int32) = 0) := by decide
  constructor
  · intro hq
    rw [sg_X6_step_0]
    simp (disch := omega) only [bq_s, aq_I, aq_R, aq_V, cq_t, cq_f, if_true, if_false, Bool.true_and, Bool.and_true, Bool.or_true, Bool.true_or, gi_1_3, gi_s, pi_1_3, pi_s, gr_0_0, gr_0_1, gr_0_2, gr_0_3, gr_1_0, gr_1_1, gr_1_2, gr_s_7, gr_s_8, gr_s_9, gr_s_10, ld_3, ld_4, ld_x, ld_y, ld_u, ld_v, sv_3, sv_4, sv_x, sv_y, sv_u, sv_v, is_0, is_1, is_s, lr_2, gi_45_0, gi_45_1, gi_45_2, gi_45_3, gi_59_0, gi_59_1, gi_59_2, gi_59_3, gi_57_3, gi_57_4, gi_57_6, gi_57_8, gi_57_9, gi_57_10, gi_57_11, gi_57_12, gi_57_13, gi_57_14, gi_l, pi_45_0, pi_45_1, pi_45_2, pi_45_3, pi_59_0, pi_59_1, pi_59_2, pi_59_3, pi_57_3, pi_57_4, pi_57_6, pi_57_8, pi_57_9, pi_57_10, pi_57_11, pi_57_12, pi_57_13, pi_57_14, pi_l, gr_57_0, gr_57_1, gr_57_2, gr_57_5, gr_57_7, ld_60, sv_60, is_45, is_59, is_57, is_l, lr_58, h11, hN0, kw_10000, hq, bI_0]
  · intro hq
    obtain ⟨m, hm', rfl, em⟩ := inR_ex (by omega) hq
    rw [em]
    have hu : min (tot (phZ P A os ob k) - T) m ≤ 10000 := by omega
    generalize hU : min (tot (phZ P A os ob k) - T) m = u at hu
    have e6 : σ 57 6 = Int32.ofNat (tot (phZ P A os ob k)) := by rw [Lg.2.1, tot_nz]
    have eI : (if Int32.ofNat (tot (phZ P A os ob k)) - Int32.ofNat T < Int32.ofNat m then Int32.ofNat (tot (phZ P A os ob k)) - Int32.ofNat T else Int32.ofNat m) = Int32.ofNat u := by
      rw [i_sub (by omega)]
      by_cases q : tot (phZ P A os ob k) - T < m
      · rw [if_pos (by rw [i_lt (by omega) (by omega)]; exact q), ← hU, Nat.min_eq_left (by omega)]
      · rw [if_neg (by rw [i_lt (by omega) (by omega)]; exact q), ← hU, Nat.min_eq_right (by omega)]
    have C1 : ShC P fl (up2 σ 57 12 (Int32.ofNat (T + u))) := ShC_congr W C fun a ha => up2_row _ _ (by omega)
    have L1 : LgC P ((phZ P A os ob k).filter nz) (up2 σ 57 12 (Int32.ofNat (T + u))) := LgC_congr (fun a a1 a2 => up2_row _ _ (by omega)) (up2_n _ _ (by omega)) (up2_n _ _ (by omega)) (by have := fil_len (phZ P A os ob k); omega) Lg
    have Z1 : ZC P (pre.foldl (fin P) (z0 A)) (up2 σ 57 12 (Int32.ofNat (T + u))) := ZC_congr (by rw [up2_row _ _ (by omega)]) (by rw [up2_row _ _ (by omega)]) (fun i hi => up2_n _ _ (by omega)) (fun s hs => up2_row _ _ (by omega)) W r4
    have sf := split_fil (pre := pre) (post := post) (f := f) (by omega)
    rw [← r1] at sf
    obtain ⟨σ1, y1, y2, y3, y4⟩ := kq_settle (tb := tb) (d := d) (c := c) (t := t) (g := g) (tg := tg) (T := T + u) W hO hk hx hy (by omega) C1 L1 r1 (by omega) Z1 (by rw [up2_n _ _ (by omega)]; exact r5) (up2_s _ _ _ _) sf.2.2
    have ro : ∀ a, 46 ≤ a → a ≠ 57 → σ1 a = σ a := fun a a1 a2 => by rw [y2.1 a (by omega) a2 (fun s hs => by omega), up2_row _ _ a2]
    have ro57 : ∀ i, i ≠ 4 → i ≠ 8 → i ≠ 9 → i ≠ 10 → i ≠ 11 → i ≠ 12 → σ1 57 i = σ 57 i := fun i a1 a2 a3 a4 a5 a6 => by rw [y2.2.1 i a1 a2 a3 a4 a5, up2_n _ _ (by omega)]
    have r12 : σ1 57 12 = Int32.ofNat (T + u) := by rw [y2.2.1 12 (by decide) (by decide) (by decide) (by decide) (by decide), up2_s]
    have adv : dX tb (d + 4) 28 0 [.ref 57, .int (Int32.ofNat m), .null] [] (c, t, hp g (SH fl tg) σ) = some (some (.int (Int32.ofNat u)), (c, t, hp g (SH fl tg) σ1)) := by
      rw [sg_X3_advance_0]
      simp (disch := omega) only [bq_s, aq_I, aq_R, aq_V, cq_t, cq_f, if_true, if_false, Bool.true_and, Bool.and_true, Bool.or_true, Bool.true_or, gi_45_0, gi_45_1, gi_45_2, gi_45_3, gi_59_0, gi_59_1, gi_59_2, gi_59_3, gi_57_3, gi_57_4, gi_57_6, gi_57_8, gi_57_9, gi_57_10, gi_57_11, gi_57_12, gi_57_13, gi_57_14, gi_l, pi_45_0, pi_45_1, pi_45_2, pi_45_3, pi_59_0, pi_59_1, pi_59_2, pi_59_3, pi_57_3, pi_57_4, pi_57_6, pi_57_8, pi_57_9, pi_57_10, pi_57_11, pi_57_12, pi_57_13, pi_57_14, pi_l, gr_57_0, gr_57_1, gr_57_2, gr_57_5, gr_57_7, ld_60, sv_60, is_45, is_59, is_57, is_l, lr_58, e6, h12, eI, i_add, y1]
    by_cases q : T + u < tot (phZ P A os ob k)
    · obtain ⟨z1, z2⟩ := y3 q
      have z2' : σ1 57 11 = 1 := by rw [z2, up2_n _ _ (by omega)]; exact h11
      refine ⟨σ1, ?_, fun a ha => ro a (by omega) (by omega), fun _ => ⟨FrS_ShC W y2 C1, FrS_LgC y2 (by have := fil_len (phZ P A os ob k); omega) L1, ?_, Pb, ?_, z2', r12, ?_, ?_, hg, z1⟩, fun z => by omega⟩
      · rw [sg_X6_step_0]
        simp (disch := omega) only [bq_s, aq_I, aq_R, aq_V, cq_t, cq_f, if_true, if_false, Bool.true_and, Bool.and_true, Bool.or_true, Bool.true_or, gi_1_3, gi_s, pi_1_3, pi_s, gr_0_0, gr_0_1, gr_0_2, gr_0_3, gr_1_0, gr_1_1, gr_1_2, gr_s_7, gr_s_8, gr_s_9, gr_s_10, ld_3, ld_4, ld_x, ld_y, ld_u, ld_v, sv_3, sv_4, sv_x, sv_y, sv_u, sv_v, is_0, is_1, is_s, lr_2, gi_45_0, gi_45_1, gi_45_2, gi_45_3, gi_59_0, gi_59_1, gi_59_2, gi_59_3, gi_57_3, gi_57_4, gi_57_6, gi_57_8, gi_57_9, gi_57_10, gi_57_11, gi_57_12, gi_57_13, gi_57_14, gi_l, pi_45_0, pi_45_1, pi_45_2, pi_45_3, pi_59_0, pi_59_1, pi_59_2, pi_59_3, pi_57_3, pi_57_4, pi_57_6, pi_57_8, pi_57_9, pi_57_10, pi_57_11, pi_57_12, pi_57_13, pi_57_14, pi_l, gr_57_0, gr_57_1, gr_57_2, gr_57_5, gr_57_7, ld_60, sv_60, is_45, is_59, is_57, is_l, lr_58, h11, hN0, kw_10000, hq, bI_0, Bool.true_eq_false, adv, z2']
      · unfold PlC OrC
        rw [ro 46 (by omega) (by omega), ro 53 (by omega) (by omega), ro 54 (by omega) (by omega), ro 55 (by omega) (by omega), ro 56 (by omega) (by omega)]; exact Pl
      · rw [ro 46 (by omega) (by omega)]; exact h46
      · rw [ro57 13 (by decide) (by decide) (by decide) (by decide) (by decide) (by decide)]; exact h13
      · rw [ro57 14 (by decide) (by decide) (by decide) (by decide) (by decide) (by decide)]; exact h14
    · have qe : T + u = tot (phZ P A os ob k) := by omega
      obtain ⟨z1, z2, z3, z4, z5⟩ := y4 (by omega)
      obtain ⟨p0, p1, p2, p3, p4, p5⟩ := phZ_ok (A := A) W hO hk hx hy
      obtain ⟨c1, c2, c3, c4, c5, c6⟩ := z2
      refine ⟨up2 σ1 46 10 0, ?_, fun a ha => by rw [up2_row _ _ (by omega)]; exact ro a (by omega) (by omega), fun z => by omega, fun _ => ⟨donP_ShC (ShC_congr W (FrS_ShC W y2 C1) fun a ha => up2_row _ _ (by omega)), fun s hs => ?_, ⟨?_, ?_, ?_, ?_⟩, ?_, ⟨((phZ P A os ob k).filter nz).length, ((phZ P A os ob k).filter nz).length, Nat.le_refl _, ?_, ?_, ?_⟩, ?_, ?_, fun s hs => ?_, ?_, ?_, Or.inl (up2_s _ _ _ _), hg⟩⟩
      · rw [sg_X6_step_0]
        simp (disch := omega) only [bq_s, aq_I, aq_R, aq_V, cq_t, cq_f, if_true, if_false, Bool.true_and, Bool.and_true, Bool.or_true, Bool.true_or, gi_1_3, gi_s, pi_1_3, pi_s, gr_0_0, gr_0_1, gr_0_2, gr_0_3, gr_1_0, gr_1_1, gr_1_2, gr_s_7, gr_s_8, gr_s_9, gr_s_10, ld_3, ld_4, ld_x, ld_y, ld_u, ld_v, sv_3, sv_4, sv_x, sv_y, sv_u, sv_v, is_0, is_1, is_s, lr_2, gi_45_0, gi_45_1, gi_45_2, gi_45_3, gi_59_0, gi_59_1, gi_59_2, gi_59_3, gi_57_3, gi_57_4, gi_57_6, gi_57_8, gi_57_9, gi_57_10, gi_57_11, gi_57_12, gi_57_13, gi_57_14, gi_l, pi_45_0, pi_45_1, pi_45_2, pi_45_3, pi_59_0, pi_59_1, pi_59_2, pi_59_3, pi_57_3, pi_57_4, pi_57_6, pi_57_8, pi_57_9, pi_57_10, pi_57_11, pi_57_12, pi_57_13, pi_57_14, pi_l, gr_57_0, gr_57_1, gr_57_2, gr_57_5, gr_57_7, ld_60, sv_60, is_45, is_59, is_57, is_l, lr_58, h11, hN0, kw_10000, hq, bI_0, Bool.true_eq_false, adv, z1]
        simp (disch := omega) only [bq_s, aq_I, aq_R, aq_V, cq_t, cq_f, if_true, if_false, Bool.true_and, Bool.and_true, Bool.or_true, Bool.true_or, gi_1_3, gi_s, pi_1_3, pi_s, gr_0_0, gr_0_1, gr_0_2, gr_0_3, gr_1_0, gr_1_1, gr_1_2, gr_s_7, gr_s_8, gr_s_9, gr_s_10, ld_3, ld_4, ld_x, ld_y, ld_u, ld_v, sv_3, sv_4, sv_x, sv_y, sv_u, sv_v, is_0, is_1, is_s, lr_2, gi_45_0, gi_45_1, gi_45_2, gi_45_3, gi_47_0, gi_47_1, gi_47_2, gi_47_3, gi_46_8, gi_46_9, gi_46_10, gi_46_15, gi_46_16, pi_45_0, pi_45_1, pi_45_2, pi_45_3, pi_47_0, pi_47_1, pi_47_2, pi_47_3, pi_46_8, pi_46_9, pi_46_10, pi_46_15, pi_46_16, gr_46_0, gr_46_1, gr_46_2, gr_46_3, gr_46_4, gr_46_5, gr_46_6, gr_46_7, gr_46_11, gr_46_12, gr_46_13, gr_46_14, ld_50, ld_51, ld_52, ld_53, ld_54, ld_55, ld_56, ld_t, ld_b, sv_50, sv_51, sv_52, sv_53, sv_54, sv_55, sv_56, sv_t, sv_b, is_45, is_47, is_46, sg_X2_forget_0]
      · have hs' : s < pM P := hs
        rw [up2_row _ _ (by omega), (c6 s hs).1, p1]; rfl
      · rw [up2_row _ _ (by omega), z4, p2]; rfl
      · rw [up2_row _ _ (by omega), z5, p3]; rfl
      · rw [up2_row _ _ (by omega), c1, p4]; rfl
      · rw [up2_row _ _ (by omega), c2, p5]
      · rw [up2_row _ _ (by omega)]; exact z1
      · exact Nat.le_trans (fil_len (phZ P A os ob k)) l1
      · rw [up2_row _ _ (by omega), ro57 3 (by decide) (by decide) (by decide) (by decide) (by decide) (by decide)]; exact Lg.1
      · rw [up2_row _ _ (by omega)]; exact z3
      · rw [up2_row _ _ (by omega), r12, qe]
      · rw [up2_row _ _ (by omega), c5, fold_W]
        have : zW (z0 A) = 0 := rfl
        rw [this, Nat.zero_add]
      · have hs' : s < pM P := hs
        rw [up2_row _ _ (by omega), (c6 s hs).2, p1]
      · rw [up2_row _ _ (by omega), ro57 13 (by decide) (by decide) (by decide) (by decide) (by decide) (by decide)]; exact h13
      · rw [up2_row _ _ (by omega), ro57 14 (by decide) (by decide) (by decide) (by decide) (by decide) (by decide)]; exact h14
end STP
