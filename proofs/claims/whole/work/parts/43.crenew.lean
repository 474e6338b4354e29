/-! THE CLASS'S PLAN, last part: the tables made, the plan renewed -/
section CRN
variable {tb : dT} {d c t : Nat} {g : Nat → Option dE} {fl : Nat → Bool} {tg : Nat} {σ : dSg} {P : dP} {A : dA} {all set : Nat} {R : dTab}
/-- the tables' rows all 0 -/
def mk0 (σ : dSg) (c : Nat) : dSg := fun a => if a = c ∨ a = c + 1 then fun _ => 0 else σ a
theorem SH_46 (tg : Nat) : SH fl tg 46 = some (.inr (.inl (2, [some 1, some 45, some 47, some tg, some (tg + 1), some 50, some 51, some 52, none, none, none, some 53, some 54, some 55, some 56, none, none]))) := rfl
theorem SH_ne {a tg tg' : Nat} (h : a ≠ 46) (h1 : a ≠ tg) (h2 : a ≠ tg + 1) (h3 : a ≠ tg') (h4 : a ≠ tg' + 1) : SH fl tg a = SH fl tg' a := by
  unfold SH
  by_cases q : a < 295
  · by_cases q2 : a < 61
    · by_cases q3 : a < 45
      · rw [show Nat.blt a 45 = true from Nat.blt_eq.mpr q3]; rfl
      · have : ∀ tg, sh_2 tg (a - 45) = sh_2 tg' (a - 45) := by
          intro tg
          match h5 : a - 45 with
          | 0 => rfl
          | 1 => exact absurd h5 (by omega)
          | 2 => rfl
          | 3 => rfl
          | 4 => rfl
          | 5 => rfl
          | 6 => rfl
          | 7 => rfl
          | 8 => rfl
          | 9 => rfl
          | 10 => rfl
          | 11 => rfl
          | 12 => rfl
          | 13 => rfl
          | 14 => rfl
          | n + 15 => rfl
        rw [this tg, show Nat.blt a 61 = true from Nat.blt_eq.mpr q2]
        rfl
    · rw [show Nat.blt a 61 = false from blt_f (by omega), show Nat.blt a 295 = true from Nat.blt_eq.mpr q]
      rfl
  · rw [show Nat.beq a tg = false from beq_f h1, show Nat.beq a (tg + 1) = false from beq_f h2, show Nat.beq a tg' = false from beq_f h3, show Nat.beq a (tg' + 1) = false from beq_f h4, show Nat.blt a 61 = false from blt_f (by omega)]
    rfl
theorem kc_mkS (ht : 296 ≤ tg) : dX tb d 13 0 [.ref 46] [] (c, t, hp g (SH fl tg) σ) = some (none, (c, t, hp g (SH fl tg) σ)) := by
  rw [sg_X2_makeTables_0, gr_46_3, Option.bind_some, hp_row (SH_tg ht), Option.bind_some, if_neg (show ¬ Int32.ofNat 22528 = 0 by decide)]
theorem kc_mkN (hc : 296 ≤ c) : dX tb d 13 0 [.ref 46] [] (c, t, hp g (SH fl 48) σ) = some (none, (c + 1 + 1, t + 22528 + 7832, hp g (SH fl c) (mk0 σ c))) := by
  rw [sg_X2_makeTables_0, gr_46_3, Option.bind_some, hp_row (show SH fl 48 48 = some (.inl (0, 0)) from rfl), Option.bind_some, if_pos (by rfl)]
  have n1 : SH fl 48 c = none := SH_free (by omega) (by omega) (by omega)
  have n2 : SH fl 48 (c + 1) = none := SH_free (by omega) (by omega) (by omega)
  rw [hp_new n1, hp_putR (SH_46 48) rfl, Option.bind_some]
  have n3 : va_up (SH fl 48) 46 (some (.inr (.inl (2, ([some 1, some 45, some 47, some 48, some (48 + 1), some 50, some 51, some 52, none, none, none, some 53, some 54, some 55, some 56, none, none] : List (Option Nat)).set 3 (some c))))) (c + 1) = none := by rw [va_up_ne _ _ (by omega)]; exact n2
  rw [hp_new n3, hp_putR (va_up_self _ _ _) rfl, Option.bind_some]
  refine congrArg some (congrArg (Prod.mk none) (congrArg (Prod.mk (c + 1 + 1)) (congrArg (Prod.mk (t + 22528 + 7832)) ?_)))
  funext a
  by_cases h46 : a = 46
  · subst h46
    unfold hp
    rw [va_up_self, SH_46]
    show some (hp_c _ (σ 46)) = some (hp_c _ (mk0 σ c 46))
    rw [show mk0 σ c 46 = σ 46 from if_neg (by omega)]
    rfl
  · by_cases hc0 : a = c
    · subst hc0
      unfold hp
      rw [va_up_ne _ _ h46, va_up_ne _ _ h46, n1, SH_tg hc]
      show va_up (va_up g a _) (a + 1) _ a = some (hp_c _ (mk0 σ a a))
      rw [va_up_ne _ _ (by omega), va_up_self, show mk0 σ a a = fun _ => 0 from if_pos (Or.inl rfl)]
      rfl
    · by_cases hc1 : a = c + 1
      · subst hc1
        unfold hp
        rw [va_up_ne _ _ h46, va_up_ne _ _ h46, n2, SH_bt hc]
        show va_up (va_up g c _) (c + 1) _ (c + 1) = some (hp_c _ (mk0 σ c (c + 1)))
        rw [va_up_self, show mk0 σ c (c + 1) = fun _ => 0 from if_pos (Or.inr rfl)]
        rfl
      · unfold hp
        rw [va_up_ne _ _ h46, va_up_ne _ _ h46, va_up_ne _ _ hc1, va_up_ne _ _ hc0, show mk0 σ c a = σ a from if_neg (by omega)]
        by_cases h48 : a = 48 ∨ a = 49
        · rcases h48 with rfl | rfl <;> rfl
        · rw [SH_ne (tg := 48) (tg' := c) h46 (by omega) (by omega) hc0 hc1]
/-- the plan that is due, also where a stroke is too short -/
def IsPl (P : dP) (A : dA) (sum : Option Nat) (k : Nat) (os ob : Nat → Nat) : Prop := (shrt P ∧ sum = none ∧ k = 0) ∨ (¬ shrt P ∧ IsPlan P A (allM P) sum k os ob)
theorem IsPl_uniq (W : Wf P) {sum sum' : Option Nat} {k k' : Nat} {os ob os' ob' : Nat → Nat} (h : IsPl P A sum k os ob) (h' : IsPl P A sum' k' os' ob') : sum = sum' ∧ k = k' ∧ ∀ i, i < k → os i = os' i ∧ ob i = ob' i := by
  rcases h with ⟨h1, rfl, rfl⟩ | ⟨h1, h2⟩
  · rcases h' with ⟨h3, rfl, rfl⟩ | ⟨h3, h4⟩
    · exact ⟨rfl, rfl, fun i hi => absurd hi (Nat.not_lt_zero i)⟩
    · exact absurd h1 h3
  · rcases h' with ⟨h3, rfl, rfl⟩ | ⟨h3, h4⟩
    · exact absurd h3 h1
    · exact IsPlan_uniq W (fun s hs _ => bgn_11 W hs) h2 h4
def PlC (P : dP) (A : dA) (sum : Option Nat) (k : Nat) (os ob : Nat → Nat) (σ : dSg) : Prop := σ 46 16 = encM sum ∧ σ 46 15 = Int32.ofNat k ∧ k ≤ 8 ∧ OrC P A os ob k σ
/-- where the plan's tables lie -/
def TgO (tg c : Nat) : Prop := tg = 48 ∨ (296 ≤ tg ∧ tg + 1 < c)
theorem pc8_00 : ∀ a : Fin 256, pc8 a.val = 0 → a.val = 0 := by decide +kernel
theorem kc_renew0 (C : ShC P fl σ) (W : Wf P) (L : LfC P (pLf P) σ) (H : HdC 45 σ A.1 A.2.1 A.2.2 false) (hx : A.1 ≤ 500) (hy : A.2.1 ≤ 500) (hc : 296 ≤ c) (hg : TgO tg c) (hf : σ 46 10 = 0) : ∃ τ tg' c' t' sum k os ob, dX tb (d + 5) 12 0 [.ref 46] [] (c, t, hp g (SH fl tg) σ) = some (none, (c', t', hp g (SH fl tg') τ)) ∧ (∀ a, (a < 46 ∨ 57 ≤ a) → a < 296 → τ a = σ a) ∧ τ 46 10 = 1 ∧ IsPl P A sum k os ob ∧ PlC P A sum k os ob τ ∧ bnd 0 sum ∧ TgO tg' c' ∧ c ≤ c' ∧ ((c' = c ∧ t' = t ∧ tg' = tg) ∨ (tg = 48 ∧ tg' ≠ 48 ∧ c' = c + 2 ∧ t' = t + 30360)) := by
  have hm := W.1
  have ha := allM_lt W
  have hl : lfm (pLf P) (pM P) = allM P := rfl
  have k1 : ∀ υ : dSg, (∀ a, a ≠ 46 → υ a = σ a) → ShC P fl υ := fun υ h => ShC_congr W C fun a ha => h a (by omega)
  have k2 : ∀ υ : dSg, (∀ a, a ≠ 46 → υ a = σ a) → LfC P (pLf P) υ := fun υ h => LfC_congr W L fun a ha => h a (by omega)
  have u2 : ∀ a, a ≠ 46 → (up2 (up2 σ 46 10 1) 46 15 0) a = σ a := fun a h => by rw [up2_row _ _ h, up2_row _ _ h]
  rw [sg_X2_renew_0]
  simp (disch := omega) only [Option.bind_some, as_I, as_R, as_V, ct_t, ct_f, if_true, if_false, Bool.true_and, Bool.and_true, Bool.or_true, Bool.true_or, gi_1_3, gi_s, pi_1_3, pi_s, gr_0_0, gr_0_1, gr_0_2, gr_0_3, gr_1_0, gr_1_1, gr_1_2, gr_s_7, gr_s_8, gr_s_9, gr_s_10, ld_3, ld_4, ld_x, ld_y, ld_u, ld_v, sv_3, sv_4, sv_x, sv_y, sv_u, sv_v, is_0, is_1, is_s, lr_2, gi_45_0, gi_45_1, gi_45_2, gi_45_3, gi_47_0, gi_47_1, gi_47_2, gi_47_3, gi_46_8, gi_46_9, gi_46_10, gi_46_15, gi_46_16, pi_45_0, pi_45_1, pi_45_2, pi_45_3, pi_47_0, pi_47_1, pi_47_2, pi_47_3, pi_46_8, pi_46_9, pi_46_10, pi_46_15, pi_46_16, gr_46_0, gr_46_1, gr_46_2, gr_46_3, gr_46_4, gr_46_5, gr_46_6, gr_46_7, gr_46_11, gr_46_12, gr_46_13, gr_46_14, ld_50, ld_51, ld_52, ld_53, ld_54, ld_55, ld_56, ld_t, ld_b, sv_50, sv_51, sv_52, sv_53, sv_54, sv_55, sv_56, sv_t, sv_b, is_45, is_47, is_46, hf, kc_left (k1 _ u2) W (k2 _ u2), up2_s, hl]
  by_cases hz : allM P = 0
  · rw [hz]
    refine ⟨up2 (up2 (up2 (up2 σ 46 10 1) 46 15 0) 46 9 (Int32.ofNat 0)) 46 16 0, tg, c, t, some 0, 0, fun _ => 0, fun _ => 0, ?_, fun a h1 h2 => ?_, ?_, Or.inr ⟨?_, ?_⟩, ⟨?_, ?_, by omega, fun j hj => absurd hj (Nat.not_lt_zero j)⟩, fun w hw => by injection hw with hw; omega, hg, Nat.le_refl _, Or.inl ⟨rfl, rfl, rfl⟩⟩
    · simp (disch := omega) only [Option.bind_some, as_I, as_R, as_V, ct_t, ct_f, if_true, if_false, Bool.true_and, Bool.and_true, Bool.or_true, Bool.true_or, gi_1_3, gi_s, pi_1_3, pi_s, gr_0_0, gr_0_1, gr_0_2, gr_0_3, gr_1_0, gr_1_1, gr_1_2, gr_s_7, gr_s_8, gr_s_9, gr_s_10, ld_3, ld_4, ld_x, ld_y, ld_u, ld_v, sv_3, sv_4, sv_x, sv_y, sv_u, sv_v, is_0, is_1, is_s, lr_2, gi_45_0, gi_45_1, gi_45_2, gi_45_3, gi_47_0, gi_47_1, gi_47_2, gi_47_3, gi_46_8, gi_46_9, gi_46_10, gi_46_15, gi_46_16, pi_45_0, pi_45_1, pi_45_2, pi_45_3, pi_47_0, pi_47_1, pi_47_2, pi_47_3, pi_46_8, pi_46_9, pi_46_10, pi_46_15, pi_46_16, gr_46_0, gr_46_1, gr_46_2, gr_46_3, gr_46_4, gr_46_5, gr_46_6, gr_46_7, gr_46_11, gr_46_12, gr_46_13, gr_46_14, ld_50, ld_51, ld_52, ld_53, ld_54, ld_55, ld_56, ld_t, ld_b, sv_50, sv_51, sv_52, sv_53, sv_54, sv_55, sv_56, sv_t, sv_b, is_45, is_47, is_46, show (Int32.ofNat 0 = 0) = True from eq_true rfl, up2_s, up2_n]
    · simp (disch := omega) only [up2_row]
    · simp (disch := omega) only [up2_n, up2_s]
    · intro ⟨s, q1, q2, q3⟩
      have := allM_tb P s
      rw [hz, Nat.zero_testBit, q2, decide_eq_true q1] at this
      exact absurd this (by decide)
    · rw [hz]
      have hzs : ∀ set s, sub set 0 → set.testBit s = true → False := fun set s h1 h2 => by
        have := h1 s h2
        rw [Nat.zero_testBit] at this
        exact absurd this (by decide)
      exact ⟨fun _ _ => none, fun set _ h2 _ s b h3 _ => (hzs set s h2 h3).elim, ⟨fun _ => rfl, fun z => absurd rfl z⟩, fun _ => rfl, fun _ => ⟨rfl, fun i hi => absurd hi (Nat.not_lt_zero i)⟩⟩
    · simp (disch := omega) only [up2_s]; rfl
    · simp (disch := omega) only [up2_s, up2_n]; rfl
  · have hz1 : ¬ (Int32.ofNat (allM P) = 0) := by rw [j_eq_0 (by omega)]; exact hz
    rw [if_neg hz1]
    have u4 : ∀ a, a ≠ 46 → (up2 (up2 (up2 (up2 σ 46 10 1) 46 15 0) 46 9 (Int32.ofNat (allM P))) 46 16 (-1)) a = σ a := fun a h => by rw [up2_row _ _ h, up2_row _ _ h, up2_row _ _ h, up2_row _ _ h]
    have C4 := k1 _ u4
    have r9 : (up2 (up2 (up2 (up2 σ 46 10 1) 46 15 0) 46 9 (Int32.ofNat (allM P))) 46 16 (-1)) 46 9 = Int32.ofNat (allM P) := by simp (disch := omega) only [up2_s, up2_n]
    have r10 : (up2 (up2 (up2 (up2 σ 46 10 1) 46 15 0) 46 9 (Int32.ofNat (allM P))) 46 16 (-1)) 46 10 = 1 := by simp (disch := omega) only [up2_s, up2_n]
    have r15 : (up2 (up2 (up2 (up2 σ 46 10 1) 46 15 0) 46 9 (Int32.ofNat (allM P))) 46 16 (-1)) 46 15 = 0 := by simp (disch := omega) only [up2_s, up2_n]
    have r16 : (up2 (up2 (up2 (up2 σ 46 10 1) 46 15 0) 46 9 (Int32.ofNat (allM P))) 46 16 (-1)) 46 16 = -1 := up2_s _ _ _ _
    simp (disch := omega) only [Option.bind_some, as_I, as_R, as_V, ct_t, ct_f, if_true, if_false, Bool.true_and, Bool.and_true, Bool.or_true, Bool.true_or, gi_1_3, gi_s, pi_1_3, pi_s, gr_0_0, gr_0_1, gr_0_2, gr_0_3, gr_1_0, gr_1_1, gr_1_2, gr_s_7, gr_s_8, gr_s_9, gr_s_10, ld_3, ld_4, ld_x, ld_y, ld_u, ld_v, sv_3, sv_4, sv_x, sv_y, sv_u, sv_v, is_0, is_1, is_s, lr_2, gi_45_0, gi_45_1, gi_45_2, gi_45_3, gi_47_0, gi_47_1, gi_47_2, gi_47_3, gi_46_8, gi_46_9, gi_46_10, gi_46_15, gi_46_16, pi_45_0, pi_45_1, pi_45_2, pi_45_3, pi_47_0, pi_47_1, pi_47_2, pi_47_3, pi_46_8, pi_46_9, pi_46_10, pi_46_15, pi_46_16, gr_46_0, gr_46_1, gr_46_2, gr_46_3, gr_46_4, gr_46_5, gr_46_6, gr_46_7, gr_46_11, gr_46_12, gr_46_13, gr_46_14, ld_50, ld_51, ld_52, ld_53, ld_54, ld_55, ld_56, ld_t, ld_b, sv_50, sv_51, sv_52, sv_53, sv_54, sv_55, sv_56, sv_t, sv_b, is_45, is_47, is_46, r9, kc_short C4 W (k2 _ u4), bI_0]
    generalize (up2 (up2 (up2 (up2 σ 46 10 1) 46 15 0) 46 9 (Int32.ofNat (allM P))) 46 16 (-1)) = υ at *
    rw [if_neg hz1]
    by_cases hsh : shrt P
    · rw [dcd_t hsh, if_neg (by decide)]
      exact ⟨υ, tg, c, t, none, 0, fun _ => 0, fun _ => 0, rfl, fun a h1 h2 => u4 a (by omega), r10, Or.inl ⟨hsh, rfl, rfl⟩, ⟨r16, r15, by omega, fun j hj => absurd hj (Nat.not_lt_zero j)⟩, (fun w hw => by cases hw), hg, Nat.le_refl _, Or.inl ⟨rfl, rfl, rfl⟩⟩
    · rw [dcd_f hsh, if_pos rfl]
      have hall := allM_ok hsh
      have main : ∀ (tg' c' t' : Nat) (υ' : dSg), 296 ≤ tg' → tg' + 1 < c' → (∀ a, a < 296 → υ' a = υ a) → ∃ τ sum k os ob, (dm_asV (dX tb (d + 4) 15 0 [.ref 46, .null, .null, .null, .null] [] (c', t', hp g (SH fl tg') υ')) fun h8 => bif (dm_obj h8 46 2).isSome then dm_asV (dX tb (d + 4) 17 0 [.ref 46, .null] [] h8) fun h9 => bif (dm_obj h9 46 2).isSome then dm_asV (dX tb (d + 4) 25 0 [.ref 46, .null, .null, .null, .null, .null, .null] [] h9) fun h10 => some ((none : Option Value), h10) else none else none) = some (none, (c', t', hp g (SH fl tg') τ)) ∧ (∀ a, (a < 46 ∨ 57 ≤ a) → a < 296 → τ a = σ a) ∧ τ 46 10 = 1 ∧ IsPl P A sum k os ob ∧ PlC P A sum k os ob τ ∧ bnd 0 sum := by
        intro tg' c' t' υ' ht hc' hυ
        have C5 : ShC P fl υ' := ShC_congr W C4 fun a ha => hυ a (by omega)
        have H5 : HdC 45 υ' A.1 A.2.1 A.2.2 false := by unfold HdC; rw [hυ 45 (by omega), u4 45 (by omega)]; exact H
        obtain ⟨τ1, a1, a2, a3⟩ := kc_slots (tb := tb) (d := d) (c := c') (t := t') (g := g) (fl := fl) (A := A) ht C5 W ha (by rw [hυ 46 (by omega)]; exact r9) hall H5 hx hy
        have C6 : ShC P fl τ1 := ShC_congr W C5 fun a ha => a2 a (by omega) (by omega) (by omega)
        have e46 : τ1 46 = υ 46 := by rw [a2 46 (by omega) (by omega) (by omega), hυ 46 (by omega)]
        obtain ⟨τ2, R, b1, b2, b3⟩ := kc_toGo (tb := tb) (d := d + 1) (c := c') (t := t') (g := g) (fl := fl) (A := A) ht C6 W hall ha (by rw [e46]; exact r9) hx hy a3
        have C7 := FrT_ShC ht W b2 C6
        obtain ⟨τ3, sum, k, os, ob, c1, c2, c3, c4, c5, c6, c7, c8⟩ := kc_follow (tb := tb) (d := d + 2) (c := c') (t := t') (g := g) (fl := fl) (A := A) ht C7 W hall ha (by rw [b2.2 9 (by decide), e46]; exact r9) hx hy (FrT_SlI ht b2 a3) b3 (by rw [b2.2 15 (by decide), e46]; exact r15) (by rw [b2.2 16 (by decide), e46]; exact r16) (fun z => hz (pc8_00 ⟨_, ha⟩ z))
        refine ⟨τ3, sum, k, os, ob, ?_, fun a h1 h2 => ?_, ?_, Or.inr ⟨hsh, c3⟩, ⟨c4, c5, c6, c7⟩, c8⟩
        · rw [a1, as_V, is_46, ct_t, b1, as_V, is_46, ct_t, c1, as_V]
        · rw [c2.1 a (by omega) (by omega), b2.1 a (by omega) (by omega) (by omega) (by omega), a2 a (by omega) (by omega) (by omega), hυ a h2, u4 a (by omega)]
        · rw [c2.2 10 (by decide) (by decide) (by decide), b2.2 10 (by decide), e46]; exact r10
      rcases hg with rfl | ⟨g1, g2⟩
      · rw [kc_mkN hc, as_V, is_46, ct_t]
        obtain ⟨τ, sum, k, os, ob, m1, m2, m3, m4, m5, m6⟩ := main c (c + 1 + 1) (t + 22528 + 7832) (mk0 υ c) hc (by omega) (fun a h => if_neg (by omega))
        exact ⟨τ, c, c + 1 + 1, t + 22528 + 7832, sum, k, os, ob, m1, m2, m3, m4, m5, m6, Or.inr ⟨hc, by omega⟩, by omega, Or.inr ⟨rfl, by omega, rfl, by omega⟩⟩
      · rw [kc_mkS g1, as_V, is_46, ct_t]
        obtain ⟨τ, sum, k, os, ob, m1, m2, m3, m4, m5, m6⟩ := main tg c t υ g1 g2 (fun a h => rfl)
        exact ⟨τ, tg, c, t, sum, k, os, ob, m1, m2, m3, m4, m5, m6, Or.inr ⟨g1, g2⟩, Nat.le_refl _, Or.inl ⟨rfl, rfl, rfl⟩⟩
theorem kc_renew1 (hf : σ 46 10 = 1) : dX tb (d + 5) 12 0 [.ref 46] [] (c, t, hp g (SH fl tg) σ) = some (none, (c, t, hp g (SH fl tg) σ)) := by
  rw [sg_X2_renew_0, gi_46_10, Option.bind_some, hf, if_neg (by decide)]
end CRN
