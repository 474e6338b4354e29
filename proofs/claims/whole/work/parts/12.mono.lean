/-! SOUNDNESS 4: the counters never fall -/
set_option maxHeartbeats 4000000 in
theorem dm_step_next {tb : dT} {mi pc : Nat} {i : Instr} {ls st : List Value} {h : dH} {v : Option Value × dH} {K : Nat → List Value → List Value → dH → Option (Option Value × dH)} (hK : dm_step tb mi i pc ls st h K = some v) : ∃ pc' ls' st' h', K pc' ls' st' h' = some v ∧ h.1 ≤ h'.1 ∧ h.2.1 ≤ h'.2.1 := by
  cases i with
  | iconst n => exact ⟨_, _, _, _, hK, Nat.le_refl _, Nat.le_refl _⟩
  | bipush n => exact ⟨_, _, _, _, hK, Nat.le_refl _, Nat.le_refl _⟩
  | sipush n => exact ⟨_, _, _, _, hK, Nat.le_refl _, Nat.le_refl _⟩
  | lconst n => exact ⟨_, _, _, _, hK, Nat.le_refl _, Nat.le_refl _⟩
  | ldc k =>
    obtain ⟨x, h2, h3⟩ := dm_bn hK
    exact ⟨_, _, _, _, h3, Nat.le_refl _, Nat.le_refl _⟩
  | ldc_w k =>
    obtain ⟨x, h2, h3⟩ := dm_bn hK
    exact ⟨_, _, _, _, h3, Nat.le_refl _, Nat.le_refl _⟩
  | iload k =>
    obtain ⟨x, h2, h3⟩ := dm_ni_some hK
    exact ⟨_, _, _, _, h3, Nat.le_refl _, Nat.le_refl _⟩
  | iload_n k =>
    obtain ⟨x, h2, h3⟩ := dm_ni_some hK
    exact ⟨_, _, _, _, h3, Nat.le_refl _, Nat.le_refl _⟩
  | lload k =>
    obtain ⟨x, h2, h3⟩ := dm_nl_some hK
    exact ⟨_, _, _, _, h3, Nat.le_refl _, Nat.le_refl _⟩
  | aload k =>
    have hK : dm_nr ls[k]? (fun x => K (pc + 2) ls (x :: st) h) = some v := hK
    rcases dm_nr_some hK with ⟨x, h2, h3⟩ | ⟨x, h2, h3⟩
    · exact ⟨_, _, _, _, h3, Nat.le_refl _, Nat.le_refl _⟩
    · exact ⟨_, _, _, _, h3, Nat.le_refl _, Nat.le_refl _⟩
  | aload_n k =>
    have hK : dm_nr ls[k.val]? (fun x => K (pc + 1) ls (x :: st) h) = some v := hK
    rcases dm_nr_some hK with ⟨x, h2, h3⟩ | ⟨x, h2, h3⟩
    · exact ⟨_, _, _, _, h3, Nat.le_refl _, Nat.le_refl _⟩
    · exact ⟨_, _, _, _, h3, Nat.le_refl _, Nat.le_refl _⟩
  | istore k =>
    obtain ⟨x, r, rfl, h2⟩ := dm_i1_some hK
    obtain ⟨l2, h3, h4⟩ := dm_bn h2
    exact ⟨_, _, _, _, h4, Nat.le_refl _, Nat.le_refl _⟩
  | istore_n k =>
    obtain ⟨x, r, rfl, h2⟩ := dm_i1_some hK
    obtain ⟨l2, h3, h4⟩ := dm_bn h2
    exact ⟨_, _, _, _, h4, Nat.le_refl _, Nat.le_refl _⟩
  | lstore k =>
    unfold dm_step at hK
    dsimp only at hK
    split at hK
    · obtain ⟨l2, h3, h4⟩ := dm_bn hK
      exact ⟨_, _, _, _, h4, Nat.le_refl _, Nat.le_refl _⟩
    · cases hK
  | astore k =>
    unfold dm_step at hK
    dsimp only at hK
    split at hK
    · obtain ⟨l2, h3, h4⟩ := dm_bn hK
      exact ⟨_, _, _, _, h4, Nat.le_refl _, Nat.le_refl _⟩
    · cases hK
  | astore_n k =>
    unfold dm_step at hK
    dsimp only at hK
    split at hK
    · obtain ⟨l2, h3, h4⟩ := dm_bn hK
      exact ⟨_, _, _, _, h4, Nat.le_refl _, Nat.le_refl _⟩
    · cases hK
  | iinc k n =>
    obtain ⟨x, h2, hK⟩ := dm_ni_some hK
    obtain ⟨l2, h3, h4⟩ := dm_bn hK
    exact ⟨_, _, _, _, h4, Nat.le_refl _, Nat.le_refl _⟩
  | iadd =>
    obtain ⟨x, y, r, rfl, h2⟩ := dm_i2_some hK
    exact ⟨_, _, _, _, h2, Nat.le_refl _, Nat.le_refl _⟩
  | isub =>
    obtain ⟨x, y, r, rfl, h2⟩ := dm_i2_some hK
    exact ⟨_, _, _, _, h2, Nat.le_refl _, Nat.le_refl _⟩
  | imul =>
    obtain ⟨x, y, r, rfl, h2⟩ := dm_i2_some hK
    exact ⟨_, _, _, _, h2, Nat.le_refl _, Nat.le_refl _⟩
  | idiv =>
    obtain ⟨x, y, r, rfl, h2⟩ := dm_i2_some hK
    by_cases hy : y = 0
    · rw [if_pos hy] at h2
      cases h2
    · rw [if_neg hy] at h2
      exact ⟨_, _, _, _, h2, Nat.le_refl _, Nat.le_refl _⟩
  | irem =>
    obtain ⟨x, y, r, rfl, h2⟩ := dm_i2_some hK
    by_cases hy : y = 0
    · rw [if_pos hy] at h2
      cases h2
    · rw [if_neg hy] at h2
      exact ⟨_, _, _, _, h2, Nat.le_refl _, Nat.le_refl _⟩
  | iand =>
    obtain ⟨x, y, r, rfl, h2⟩ := dm_i2_some hK
    exact ⟨_, _, _, _, h2, Nat.le_refl _, Nat.le_refl _⟩
  | ior =>
    obtain ⟨x, y, r, rfl, h2⟩ := dm_i2_some hK
    exact ⟨_, _, _, _, h2, Nat.le_refl _, Nat.le_refl _⟩
  | ixor =>
    obtain ⟨x, y, r, rfl, h2⟩ := dm_i2_some hK
    exact ⟨_, _, _, _, h2, Nat.le_refl _, Nat.le_refl _⟩
  | ishl =>
    obtain ⟨x, y, r, rfl, h2⟩ := dm_i2_some hK
    exact ⟨_, _, _, _, h2, Nat.le_refl _, Nat.le_refl _⟩
  | ishr =>
    obtain ⟨x, y, r, rfl, h2⟩ := dm_i2_some hK
    exact ⟨_, _, _, _, h2, Nat.le_refl _, Nat.le_refl _⟩
  | iushr =>
    obtain ⟨x, y, r, rfl, h2⟩ := dm_i2_some hK
    exact ⟨_, _, _, _, h2, Nat.le_refl _, Nat.le_refl _⟩
  | ineg =>
    obtain ⟨x, r, rfl, h2⟩ := dm_i1_some hK
    exact ⟨_, _, _, _, h2, Nat.le_refl _, Nat.le_refl _⟩
  | i2l =>
    obtain ⟨x, r, rfl, h2⟩ := dm_i1_some hK
    exact ⟨_, _, _, _, h2, Nat.le_refl _, Nat.le_refl _⟩
  | lmul =>
    obtain ⟨x, y, r, rfl, h2⟩ := dm_l2_some hK
    exact ⟨_, _, _, _, h2, Nat.le_refl _, Nat.le_refl _⟩
  | lcmp =>
    obtain ⟨x, y, r, rfl, h2⟩ := dm_l2_some hK
    exact ⟨_, _, _, _, h2, Nat.le_refl _, Nat.le_refl _⟩
  | dup =>
    unfold dm_step at hK
    dsimp only at hK
    split at hK
    · exact ⟨_, _, _, _, hK, Nat.le_refl _, Nat.le_refl _⟩
    · exact ⟨_, _, _, _, hK, Nat.le_refl _, Nat.le_refl _⟩
    · cases hK
  | dup2 =>
    unfold dm_step at hK
    dsimp only at hK
    split at hK
    · exact ⟨_, _, _, _, hK, Nat.le_refl _, Nat.le_refl _⟩
    · cases hK
  | ifCond cd off =>
    obtain ⟨x, r, rfl, h2⟩ := dm_i1_some hK
    obtain ⟨t, h3, h4⟩ := dm_bn h2
    cases cd with
    | eq =>
      by_cases hc : x = 0
      · exact ⟨_, _, _, _, (if_pos hc).symm.trans h4, Nat.le_refl _, Nat.le_refl _⟩
      · exact ⟨_, _, _, _, (if_neg hc).symm.trans h4, Nat.le_refl _, Nat.le_refl _⟩
    | ne =>
      by_cases hc : x = 0
      · exact ⟨_, _, _, _, (if_pos hc).symm.trans h4, Nat.le_refl _, Nat.le_refl _⟩
      · exact ⟨_, _, _, _, (if_neg hc).symm.trans h4, Nat.le_refl _, Nat.le_refl _⟩
    | lt =>
      by_cases hc : x < 0
      · exact ⟨_, _, _, _, (if_pos hc).symm.trans h4, Nat.le_refl _, Nat.le_refl _⟩
      · exact ⟨_, _, _, _, (if_neg hc).symm.trans h4, Nat.le_refl _, Nat.le_refl _⟩
    | ge =>
      by_cases hc : 0 ≤ x
      · exact ⟨_, _, _, _, (if_pos hc).symm.trans h4, Nat.le_refl _, Nat.le_refl _⟩
      · exact ⟨_, _, _, _, (if_neg hc).symm.trans h4, Nat.le_refl _, Nat.le_refl _⟩
    | gt =>
      by_cases hc : 0 < x
      · exact ⟨_, _, _, _, (if_pos hc).symm.trans h4, Nat.le_refl _, Nat.le_refl _⟩
      · exact ⟨_, _, _, _, (if_neg hc).symm.trans h4, Nat.le_refl _, Nat.le_refl _⟩
    | le =>
      by_cases hc : x ≤ 0
      · exact ⟨_, _, _, _, (if_pos hc).symm.trans h4, Nat.le_refl _, Nat.le_refl _⟩
      · exact ⟨_, _, _, _, (if_neg hc).symm.trans h4, Nat.le_refl _, Nat.le_refl _⟩
  | if_icmp cd off =>
    obtain ⟨x, y, r, rfl, h2⟩ := dm_i2_some hK
    obtain ⟨t, h3, h4⟩ := dm_bn h2
    cases cd with
    | eq =>
      by_cases hc : x = y
      · exact ⟨_, _, _, _, (if_pos hc).symm.trans h4, Nat.le_refl _, Nat.le_refl _⟩
      · exact ⟨_, _, _, _, (if_neg hc).symm.trans h4, Nat.le_refl _, Nat.le_refl _⟩
    | ne =>
      by_cases hc : x = y
      · exact ⟨_, _, _, _, (if_pos hc).symm.trans h4, Nat.le_refl _, Nat.le_refl _⟩
      · exact ⟨_, _, _, _, (if_neg hc).symm.trans h4, Nat.le_refl _, Nat.le_refl _⟩
    | lt =>
      by_cases hc : x < y
      · exact ⟨_, _, _, _, (if_pos hc).symm.trans h4, Nat.le_refl _, Nat.le_refl _⟩
      · exact ⟨_, _, _, _, (if_neg hc).symm.trans h4, Nat.le_refl _, Nat.le_refl _⟩
    | ge =>
      by_cases hc : y ≤ x
      · exact ⟨_, _, _, _, (if_pos hc).symm.trans h4, Nat.le_refl _, Nat.le_refl _⟩
      · exact ⟨_, _, _, _, (if_neg hc).symm.trans h4, Nat.le_refl _, Nat.le_refl _⟩
    | gt =>
      by_cases hc : y < x
      · exact ⟨_, _, _, _, (if_pos hc).symm.trans h4, Nat.le_refl _, Nat.le_refl _⟩
      · exact ⟨_, _, _, _, (if_neg hc).symm.trans h4, Nat.le_refl _, Nat.le_refl _⟩
    | le =>
      by_cases hc : x ≤ y
      · exact ⟨_, _, _, _, (if_pos hc).symm.trans h4, Nat.le_refl _, Nat.le_refl _⟩
      · exact ⟨_, _, _, _, (if_neg hc).symm.trans h4, Nat.le_refl _, Nat.le_refl _⟩
  | goto off =>
    obtain ⟨t, h3, h4⟩ := dm_bn hK
    exact ⟨_, _, _, _, h4, Nat.le_refl _, Nat.le_refl _⟩
  | tableswitch dflt lo hi2 offs =>
    obtain ⟨x, r, rfl, h2⟩ := dm_i1_some hK
    obtain ⟨t, h3, h4⟩ := dm_bn h2
    by_cases hc : x.toInt < lo ∨ hi2 < x.toInt
    · rw [if_pos hc] at h4
      exact ⟨_, _, _, _, h4, Nat.le_refl _, Nat.le_refl _⟩
    · rw [if_neg hc] at h4
      obtain ⟨o, h5, h6⟩ := dm_bn h4
      obtain ⟨t2, h7, h8⟩ := dm_bn h6
      exact ⟨_, _, _, _, h8, Nat.le_refl _, Nat.le_refl _⟩
  | getfield k =>
    unfold dm_step at hK
    dsimp only at hK
    split at hK
    · obtain ⟨f, h3, h4⟩ := dm_bn hK
      by_cases hc : Nat.blt (f.2.2 % 4) 2 = true
      · rw [hc] at h4
        obtain ⟨x, h5, h6⟩ := dm_bn (h4 : Option.bind _ _ = _)
        obtain ⟨fs, h7, h8⟩ := dm_getI_some h5
        exact ⟨_, _, _, _, h6, Nat.le_refl _, Nat.le_refl _⟩
      · rw [Bool.eq_false_iff.mpr hc] at h4
        obtain ⟨x, h5, h6⟩ := dm_bn (h4 : Option.bind _ _ = _)
        obtain ⟨fs, h7, h8⟩ := dm_getR_some h5
        exact ⟨_, _, _, _, h6, Nat.le_refl _, Nat.le_refl _⟩
    · cases hK
  | putfield k =>
    unfold dm_step at hK
    dsimp only at hK
    split at hK
    · obtain ⟨f, h3, h4⟩ := dm_bn hK
      obtain ⟨h5, h6⟩ := dm_bif h4
      obtain ⟨h7, h8, h9⟩ := dm_bn h6
      obtain ⟨fs, g1, g2, rfl⟩ := dm_put_some h8
      exact ⟨_, _, _, _, h9, Nat.le_refl _, Nat.le_refl _⟩
    · cases hK
  | getstatic k =>
    obtain ⟨f, h3, h4⟩ := dm_bn hK
    exact ⟨_, _, _, _, h4, Nat.le_refl _, Nat.le_refl _⟩
  | iaload =>
    unfold dm_step at hK
    dsimp only at hK
    split at hK
    · rename_i st i a r
      obtain ⟨x, h3, h4⟩ := dm_bn hK
      obtain ⟨w, h5, h6⟩ := dm_bn h3
      obtain ⟨h7, h8⟩ := dm_at_some h6
      cases h8
      exact ⟨_, _, _, _, h4, Nat.le_refl _, Nat.le_refl _⟩
    · rename_i st i k r
      obtain ⟨h7, h8⟩ := dm_at_some hK
      exact ⟨_, _, _, _, h8, Nat.le_refl _, Nat.le_refl _⟩
    · cases hK
  | baload =>
    unfold dm_step at hK
    dsimp only at hK
    split at hK
    · rename_i st i a r
      obtain ⟨x, h3, h4⟩ := dm_bn hK
      obtain ⟨w, h5, h6⟩ := dm_bn h3
      obtain ⟨h7, h8⟩ := dm_at_some h6
      cases h8
      exact ⟨_, _, _, _, h4, Nat.le_refl _, Nat.le_refl _⟩
    · cases hK
  | laload =>
    unfold dm_step at hK
    dsimp only at hK
    split at hK
    · rename_i st i a r
      obtain ⟨x, h3, h4⟩ := dm_bn hK
      obtain ⟨w, h5, h6⟩ := dm_bn h3
      obtain ⟨h7, h8⟩ := dm_at_some h6
      cases h8
      exact ⟨_, _, _, _, h4, Nat.le_refl _, Nat.le_refl _⟩
    · cases hK
  | aaload =>
    unfold dm_step at hK
    dsimp only at hK
    split at hK
    · rename_i st i a r
      obtain ⟨x, h3, h4⟩ := dm_bn hK
      obtain ⟨w, h5, h6⟩ := dm_bn h3
      obtain ⟨h7, h8⟩ := dm_at_some h6
      exact ⟨_, _, _, _, h4, Nat.le_refl _, Nat.le_refl _⟩
    · cases hK
  | iastore =>
    unfold dm_step at hK
    dsimp only at hK
    split at hK
    · rename_i st x i a r
      obtain ⟨h2, h3, h4⟩ := dm_bn hK
      obtain ⟨w, h5, h6⟩ := dm_bn h3
      obtain ⟨h7, h8⟩ := dm_at_some h6
      cases h8
      exact ⟨_, _, _, _, h4, Nat.le_refl _, Nat.le_refl _⟩
    · cases hK
  | bastore =>
    unfold dm_step at hK
    dsimp only at hK
    split at hK
    · rename_i st x i a r
      obtain ⟨hb1, hK⟩ := dm_bif hK
      obtain ⟨h2, h3, h4⟩ := dm_bn hK
      obtain ⟨w, h5, h6⟩ := dm_bn h3
      obtain ⟨h7, h8⟩ := dm_at_some h6
      cases h8
      exact ⟨_, _, _, _, h4, Nat.le_refl _, Nat.le_refl _⟩
    · cases hK
  | aastore =>
    unfold dm_step at hK
    dsimp only at hK
    split at hK
    · rename_i st x i a r
      obtain ⟨h2, h3, h4⟩ := dm_bn hK
      obtain ⟨w, h5, h6⟩ := dm_bn h3
      obtain ⟨vs, h9, h6⟩ := dm_bn h6
      obtain ⟨h7, h8⟩ := dm_at_some h6
      cases h8
      exact ⟨_, _, _, _, h4, Nat.le_refl _, Nat.le_refl _⟩
    · cases hK
  | arraylength =>
    unfold dm_step at hK
    dsimp only at hK
    split at hK
    · rename_i st a r
      obtain ⟨w, h3, h4⟩ := dm_bn hK
      exact ⟨_, _, _, _, h4, Nat.le_refl _, Nat.le_refl _⟩
    · rename_i st k r
      exact ⟨_, _, _, _, hK, Nat.le_refl _, Nat.le_refl _⟩
    · cases hK
  | new k =>
    obtain ⟨ci, h3, h4⟩ := dm_bn hK
    exact ⟨_, _, _, _, h4, Nat.le_succ _, Nat.le_add_right _ _⟩
  | newarray t =>
    obtain ⟨n, r, rfl, h2⟩ := dm_i1_some hK
    by_cases hc : n < 0 ∨ 100000 < n
    · rw [if_pos hc] at h2
      cases h2
    · rw [if_neg hc] at h2
      cases t with
      | int =>
        exact ⟨_, _, _, _, h2, Nat.le_succ _, Nat.le_add_right _ _⟩
      | boolean =>
        exact ⟨_, _, _, _, h2, Nat.le_succ _, Nat.le_add_right _ _⟩
      | long =>
        exact ⟨_, _, _, _, h2, Nat.le_succ _, Nat.le_add_right _ _⟩
      | _ => cases h2
  | anewarray k =>
    obtain ⟨n, r, rfl, h2⟩ := dm_i1_some hK
    by_cases hc : n < 0 ∨ 100000 < n
    · rw [if_pos hc] at h2
      cases h2
    · rw [if_neg hc] at h2
      obtain ⟨ci, h3, h4⟩ := dm_bn h2
      obtain ⟨h5, h6⟩ := dm_bif h4
      exact ⟨_, _, _, _, h6, Nat.le_succ _, Nat.le_add_right _ _⟩
  | _ => cases hK
theorem dm_asI_some {ρ : Type} {o : Option (Option Value × dH)} {K : Int32 → dH → Option ρ} {v : ρ} (h : dm_asI o K = some v) : ∃ x h', o = some (some (.int x), h') ∧ K x h' = some v := by
  obtain ⟨q, h1, h2⟩ := dm_bn h
  obtain ⟨q1, q2⟩ := q
  dsimp only at h2
  split at h2
  · exact ⟨_, _, h1, h2⟩
  · cases h2
theorem dm_asR_some {ρ : Type} {o : Option (Option Value × dH)} {K : Nat → dH → Option ρ} {v : ρ} (h : dm_asR o K = some v) : ∃ x h', o = some (some (.ref x), h') ∧ K x h' = some v := by
  obtain ⟨q, h1, h2⟩ := dm_bn h
  obtain ⟨q1, q2⟩ := q
  dsimp only at h2
  split at h2
  · exact ⟨_, _, h1, h2⟩
  · cases h2
theorem dm_asV_some {ρ : Type} {o : Option (Option Value × dH)} {K : dH → Option ρ} {v : ρ} (h : dm_asV o K = some v) : ∃ h', o = some (none, h') ∧ K h' = some v := by
  obtain ⟨q, h1, h2⟩ := dm_bn h
  obtain ⟨q1, q2⟩ := q
  dsimp only at h2
  split at h2
  · exact ⟨_, h1, h2⟩
  · cases h2
/-- what a call is: the kind, the arguments, the answer, what is left -/
theorem dm_call_some {ρ : Type} {run : Nat → List Value → dH → Option (Option Value × dH)} {m : Nat × Nat × Nat × Nat × Nat} {spec : Nat} {st : List Value} {h : dH} {K : List Value → dH → Option ρ} {v : ρ} (hc : dm_call run m spec st h K = some v) :
    ∃ n r h', n = (bif Nat.beq spec 1 then m.2.2.1 else m.2.2.1 + 1) ∧ (match spec with
      | 0 => Nat.beq m.1 0 && dm_isr h st[m.2.2.1]? (dm_own m.2.1)
      | 1 => Nat.beq m.1 1 || Nat.beq m.1 2
      | _ => (Nat.beq m.1 3 || Nat.beq m.1 4) && dm_rf1 st[m.2.2.1]?) = true ∧ n ≤ st.length ∧ dm_cats (st.take n) = n ∧ dm_cats (st.drop n) ≤ 8 ∧ run m.2.1 (dm_pad m.2.2.2.1 (dm_args n st)) h = some (r, h') ∧ K (r.toList ++ st.drop n) h' = some v ∧ (match m.2.2.2.2 with
      | 0 => r = none
      | 1 => ∃ x, r = some (.int x)
      | _ => ∃ x, r = some (.ref x)) := by
  obtain ⟨h1, h2⟩ := dm_bif hc
  dsimp only at h2
  obtain ⟨h3, h4⟩ := dm_bif h2
  rw [Bool.and_eq_true, Bool.and_eq_true] at h3
  generalize hn : (bif Nat.beq spec 1 then m.2.2.1 else m.2.2.1 + 1) = n at h3 h4
  split at h4
  · rename_i hm
    obtain ⟨h', h5, h6⟩ := dm_asV_some h4
    exact ⟨n, none, h', rfl, h1, Nat.le_of_ble_eq_true h3.1, Nat.eq_of_beq_eq_true h3.2.1, Nat.le_of_ble_eq_true h3.2.2, h5, h6, by rw [hm]; exact rfl⟩
  · rename_i hm
    obtain ⟨x, h', h5, h6⟩ := dm_asI_some h4
    exact ⟨n, some (.int x), h', rfl, h1, Nat.le_of_ble_eq_true h3.1, Nat.eq_of_beq_eq_true h3.2.1, Nat.le_of_ble_eq_true h3.2.2, h5, h6, by rw [hm]; exact ⟨x, rfl⟩⟩
  · rename_i hm1 hm2
    obtain ⟨x, h', h5, h6⟩ := dm_asR_some h4
    refine ⟨n, some (.ref x), h', rfl, h1, Nat.le_of_ble_eq_true h3.1, Nat.eq_of_beq_eq_true h3.2.1, Nat.le_of_ble_eq_true h3.2.2, h5, h6, ?_⟩
    split
    · rename_i z; exact absurd z hm1
    · rename_i z; exact absurd z hm2
    · exact ⟨x, rfl⟩
theorem dm_stL_some {h h' : dH} {a : Nat} {i : Int32} {x : Int64} (hs : dm_stL h a i x = some h') : ∃ r, dm_rowL h a = some r ∧ vp_in i r.1 ∧ h' = (h.1, h.2.1, va_up h.2.2 a (some (.inl (4, r.1, .inr (.inl (vp_updL r.2 i.toNatClampNeg x)))))) := by
  obtain ⟨w, h5, h6⟩ := dm_bn hs
  obtain ⟨h7, h8⟩ := dm_at_some h6
  cases h8
  exact ⟨w, h5, h7, rfl⟩
theorem dm_lat_some {ρ : Type} {o : Option (Option Value × dH)} {out : Nat} {K : Int32 → dH → Option ρ} {v : ρ} (h : dm_lat o out K = some v) : (∃ y h1 h2, o = some (some (.int y), h1) ∧ dm_stL h1 out 0 y.toInt64 = some h2 ∧ K 0 h2 = some v) ∨ ∃ w h1, o = some (some (.retAddr w), h1) ∧ K 1 (h1.1 + 1, h1.2.1 + 6, h1.2.2) = some v := by
  obtain ⟨q, h1, h2⟩ := dm_bn h
  obtain ⟨q1, q2⟩ := q
  dsimp only at h2
  split at h2
  · obtain ⟨h3, h4, h5⟩ := dm_bn h2
    exact Or.inl ⟨_, _, _, h1, h4, h5⟩
  · exact Or.inr ⟨_, _, h1, h2⟩
  · cases h2
theorem dm_mono {tb : dT} (n : Nat) : ∀ {d mi pc : Nat} {ls st : List Value} {h : dH} {v : Option Value × dH}, dm_run tb n d mi pc ls st h = some v → h.1 ≤ v.2.1 ∧ h.2.1 ≤ v.2.2.1 := by
  induction n with
  | zero => intro d mi pc ls st h v hr; cases hr
  | succ n ih =>
    intro d mi pc ls st h v hr
    rw [dm_run_s] at hr
    cases hc : dm_code mi pc with
    | none => rw [hc] at hr; cases hr
    | some i =>
      rw [hc] at hr
      have plain : dm_step tb mi i pc ls st h (fun pc ls st h => dm_run tb n d mi pc ls st h) = some v → h.1 ≤ v.2.1 ∧ h.2.1 ≤ v.2.2.1 := by
        intro hs
        obtain ⟨pc', ls', st', h', h1, h2, h3⟩ := dm_step_next hs
        have h4 := ih h1
        omega
      have callp : ∀ (k m : Nat × Nat × Nat × Nat × Nat) (spec : Nat), dm_call (fun t as h => dm_run tb n (d - 1) t 0 as [] h) m spec st h (fun st h => dm_run tb n d mi (pc + 3) ls st h) = some v → h.1 ≤ v.2.1 ∧ h.2.1 ≤ v.2.2.1 := by
        intro k m spec hs
        obtain ⟨q, r, h', -, -, -, -, -, h1, h2, -⟩ := dm_call_some hs
        have h3 := ih h1
        have h4 := ih h2
        dsimp only at h3
        omega
      cases i with
      | ireturn =>
        unfold dm_one at hr
        dsimp only at hr
        split at hr
        · cases hb : dm_isb mi with
          | true =>
            rw [hb] at hr
            obtain ⟨-, hr⟩ := dm_bif (hr : (bif _ then _ else none) = some v)
            cases hr
            exact ⟨Nat.le_refl _, Nat.le_refl _⟩
          | false =>
            rw [hb] at hr
            cases hr
            exact ⟨Nat.le_refl _, Nat.le_refl _⟩
        · cases hr
      | areturn =>
        unfold dm_one at hr
        dsimp only at hr
        split at hr
        · cases hr
          exact ⟨Nat.le_refl _, Nat.le_refl _⟩
        · cases hr
      | return_ =>
        unfold dm_one at hr
        dsimp only at hr
        split at hr
        · cases hr
          exact ⟨Nat.le_refl _, Nat.le_refl _⟩
        · cases hr
      | new k =>
        by_cases hz : (Nat.beq mi 85 && Nat.beq pc 33) = true
        · unfold dm_one at hr
          dsimp only at hr
          rw [hz] at hr
          simp only [cond_true] at hr
          split at hr
          · cases hr
            exact ⟨Nat.le_refl _, Nat.le_refl _⟩
          · cases hr
        · unfold dm_one at hr
          dsimp only at hr
          rw [Bool.eq_false_iff.mpr hz] at hr
          exact plain hr
      | invokevirtual k =>
        obtain ⟨-, hr⟩ := dm_bif (hr : (bif _ then _ else none) = some v)
        obtain ⟨m, h1, h2⟩ := dm_bn hr
        exact callp m m 0 h2
      | invokestatic k =>
        obtain ⟨-, hr⟩ := dm_bif (hr : (bif _ then _ else none) = some v)
        obtain ⟨m, h1, h2⟩ := dm_bn hr
        dsimp only at h2
        split at h2
        · obtain ⟨x, r, -, h3⟩ := dm_i1_some h2
          obtain ⟨-, h4⟩ := dm_bif h3
          exact ih h4
        · obtain ⟨x, y, r, -, h3⟩ := dm_i2_some h2
          obtain ⟨-, h4⟩ := dm_bif h3
          exact ih h4
        · obtain ⟨x, y, r, -, h3⟩ := dm_i2_some h2
          obtain ⟨-, h4⟩ := dm_bif h3
          exact ih h4
        · split at h2
          · obtain ⟨-, h3⟩ := dm_bif h2
            rcases dm_lat_some h3 with ⟨y, g1, g2, e1, e2, e3⟩ | ⟨w, g1, e1, e3⟩
            · have a1 := ih e1
              have a2 := ih e3
              obtain ⟨r, -, -, rfl⟩ := dm_stL_some e2
              dsimp only at a1 a2
              omega
            · have a1 := ih e1
              have a2 := ih e3
              dsimp only at a1 a2
              omega
          · cases h2
        · exact callp m m 1 h2
      | invokespecial k =>
        obtain ⟨-, hr⟩ := dm_bif (hr : (bif _ then _ else none) = some v)
        obtain ⟨m, h1, h2⟩ := dm_bn hr
        dsimp only at h2
        by_cases h5 : Nat.beq m.1 5 = true
        · rw [h5] at h2
          simp only [cond_true] at h2
          split at h2
          · obtain ⟨-, h3⟩ := dm_bif h2
            exact ih h3
          · cases h2
        · rw [Bool.eq_false_iff.mpr h5] at h2
          exact callp m m 2 h2
      | _ => exact plain hr
