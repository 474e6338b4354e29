/-! SOUNDNESS 3: the plain instructions all together -/
theorem dm_bn {α β : Type} {o : Option α} {K : α → Option β} {v : β} (h : o.bind K = some v) : ∃ x, o = some x ∧ K x = some v := by
  cases o with
  | none => cases h
  | some x => exact ⟨x, rfl, h⟩
theorem dm_bif {β : Type} {c : Bool} {a : Option β} {v : β} (h : (bif c then a else none) = some v) : c = true ∧ a = some v := by
  cases c with
  | false => cases h
  | true => exact ⟨rfl, h⟩
theorem dm_getI_some {h : dH} {a ci j : Nat} {x : Int32} (hg : dm_getI h a ci j = some x) : ∃ fs, dm_obj h a ci = some fs ∧ fs[j]? = some (.int x) := by
  obtain ⟨fs, h1, h2⟩ := dm_bn hg
  refine ⟨fs, h1, ?_⟩
  split at h2
  · rename_i y hy
    cases h2
    exact hy
  · cases h2
theorem dm_getR_some {h : dH} {a ci j : Nat} {x : Nat} (hg : dm_getR h a ci j = some x) : ∃ fs, dm_obj h a ci = some fs ∧ fs[j]? = some (.ref x) := by
  obtain ⟨fs, h1, h2⟩ := dm_bn hg
  refine ⟨fs, h1, ?_⟩
  split at h2
  · rename_i y hy
    cases h2
    exact hy
  · cases h2
theorem dm_put_some {h h' : dH} {a ci j : Nat} {v : Value} (hg : dm_put h a ci j v = some h') : ∃ fs, dm_obj h a ci = some fs ∧ j < fs.length ∧ h' = (h.1, h.2.1, va_up h.2.2 a (some (.inr (ci, fs.set j v)))) := by
  obtain ⟨fs, h1, h2⟩ := dm_bn hg
  obtain ⟨h3, h4⟩ := dm_bif h2
  cases h4
  exact ⟨fs, h1, by simpa [Nat.blt_eq] using h3, rfl⟩
/-- what a step of K does: the counters never fall -/
theorem dm_new1 (h : dH) (n : Nat) (x : dE) : (dm_new h n x).1 = h.1 + 1 ∧ (dm_new h n x).2.1 = h.2.1 + n := ⟨rfl, rfl⟩
theorem dm_ar_int : Cond.arrayClass .int ∈ dm_TBL := List.mem_filter.mpr ⟨List.mem_append_right _ (by decide +kernel), rfl⟩
theorem dm_ar_boolean : Cond.arrayClass .boolean ∈ dm_TBL := List.mem_filter.mpr ⟨List.mem_append_right _ (by decide +kernel), rfl⟩
theorem dm_ar_long : Cond.arrayClass .long ∈ dm_TBL := List.mem_filter.mpr ⟨List.mem_append_right _ (by decide +kernel), rfl⟩
theorem dm_ov_leg : Cond.arrayOver (.object "PenArm$Leg") ∈ dm_TBL := List.mem_filter.mpr ⟨List.mem_append_right _ (by decide +kernel), rfl⟩
theorem dm_ov_stroke : Cond.arrayOver (.object "PenArm$Stroke") ∈ dm_TBL := List.mem_filter.mpr ⟨List.mem_append_right _ (by decide +kernel), rfl⟩
theorem dm_ix2 {mi k : Nat} : (dm_own mi * 512 + k) / 512 = dm_own mi + k / 512 ∧ (dm_own mi * 512 + k) % 512 = k % 512 := by omega
/-- places of the constant pool that the code names are below 512: checked by program -/
def dc_idx (mi pc : Nat) : Bool := match dm_code mi pc with
  | some (.ldc k) => Nat.blt k 512
  | some (.ldc_w k) => Nat.blt k 512
  | some (.getfield k) => Nat.blt k 512
  | some (.putfield k) => Nat.blt k 512
  | some (.getstatic k) => Nat.blt k 512
  | some (.new k) => Nat.blt k 512
  | some (.anewarray k) => Nat.blt k 512
  | some (.invokevirtual k) => Nat.blt k 512
  | some (.invokespecial k) => Nat.blt k 512
  | some (.invokestatic k) => Nat.blt k 512
  | _ => true
theorem dc_idx_0 : (List.range 11).all (fun q => (List.range 700).all (fun pc => dc_idx (0 + q) pc)) = true := by decide +kernel
theorem dc_idx_1 : (List.range 11).all (fun q => (List.range 700).all (fun pc => dc_idx (11 + q) pc)) = true := by decide +kernel
theorem dc_idx_2 : (List.range 11).all (fun q => (List.range 700).all (fun pc => dc_idx (22 + q) pc)) = true := by decide +kernel
theorem dc_idx_3 : (List.range 11).all (fun q => (List.range 700).all (fun pc => dc_idx (33 + q) pc)) = true := by decide +kernel
theorem dc_idx_4 : (List.range 11).all (fun q => (List.range 700).all (fun pc => dc_idx (44 + q) pc)) = true := by decide +kernel
theorem dc_idx_5 : (List.range 11).all (fun q => (List.range 700).all (fun pc => dc_idx (55 + q) pc)) = true := by decide +kernel
theorem dc_idx_6 : (List.range 11).all (fun q => (List.range 700).all (fun pc => dc_idx (66 + q) pc)) = true := by decide +kernel
theorem dc_idx_7 : (List.range 11).all (fun q => (List.range 700).all (fun pc => dc_idx (77 + q) pc)) = true := by decide +kernel
theorem dc_idx_8 : (List.range 11).all (fun q => (List.range 700).all (fun pc => dc_idx (88 + q) pc)) = true := by decide +kernel
theorem dc_idx_9 : (List.range 11).all (fun q => (List.range 700).all (fun pc => dc_idx (99 + q) pc)) = true := by decide +kernel
theorem dc_idx_10 : (List.range 11).all (fun q => (List.range 700).all (fun pc => dc_idx (110 + q) pc)) = true := by decide +kernel
theorem dc_idx_11 : (List.range 11).all (fun q => (List.range 700).all (fun pc => dc_idx (121 + q) pc)) = true := by decide +kernel
theorem dc_idx_12 : (List.range 11).all (fun q => (List.range 700).all (fun pc => dc_idx (132 + q) pc)) = true := by decide +kernel
theorem dc_idx_ok (mi : Nat) (h : mi < 143) : (List.range 700).all (fun pc => dc_idx mi pc) = true := by
  have f : ∀ (b n : Nat), (List.range n).all (fun q => (List.range 700).all (fun pc => dc_idx (b + q) pc)) = true → b ≤ mi → mi < b + n → (List.range 700).all (fun pc => dc_idx mi pc) = true := fun b n hh h1 h2 => dm_seg (f := fun mi => (List.range 700).all (fun pc => dc_idx mi pc)) b n hh h1 h2
  rcases (show (0 ≤ mi ∧ mi < 0 + 11) ∨ (11 ≤ mi ∧ mi < 11 + 11) ∨ (22 ≤ mi ∧ mi < 22 + 11) ∨ (33 ≤ mi ∧ mi < 33 + 11) ∨ (44 ≤ mi ∧ mi < 44 + 11) ∨ (55 ≤ mi ∧ mi < 55 + 11) ∨ (66 ≤ mi ∧ mi < 66 + 11) ∨ (77 ≤ mi ∧ mi < 77 + 11) ∨ (88 ≤ mi ∧ mi < 88 + 11) ∨ (99 ≤ mi ∧ mi < 99 + 11) ∨ (110 ≤ mi ∧ mi < 110 + 11) ∨ (121 ≤ mi ∧ mi < 121 + 11) ∨ (132 ≤ mi ∧ mi < 132 + 11) by omega) with h | h | h | h | h | h | h | h | h | h | h | h | h
  · exact f _ _ dc_idx_0 h.1 h.2
  · exact f _ _ dc_idx_1 h.1 h.2
  · exact f _ _ dc_idx_2 h.1 h.2
  · exact f _ _ dc_idx_3 h.1 h.2
  · exact f _ _ dc_idx_4 h.1 h.2
  · exact f _ _ dc_idx_5 h.1 h.2
  · exact f _ _ dc_idx_6 h.1 h.2
  · exact f _ _ dc_idx_7 h.1 h.2
  · exact f _ _ dc_idx_8 h.1 h.2
  · exact f _ _ dc_idx_9 h.1 h.2
  · exact f _ _ dc_idx_10 h.1 h.2
  · exact f _ _ dc_idx_11 h.1 h.2
  · exact f _ _ dc_idx_12 h.1 h.2
theorem dm_code_lt {mi pc : Nat} {i : Instr} (h : dm_code mi pc = some i) : mi < 143 ∧ pc < 700 := by
  by_cases h1 : (Nat.blt mi 143 && Nat.blt pc 700) = true
  · simpa [Nat.blt_eq] using h1
  · exfalso
    unfold dm_code at h
    rw [Bool.eq_false_iff.mpr h1] at h
    exact absurd h (by simp)
theorem dm_idx {mi pc : Nat} {i : Instr} (h : dm_code mi pc = some i) : dc_idx mi pc = true := List.all_eq_true.mp (dc_idx_ok mi (dm_code_lt h).1) pc (List.mem_range.mpr (dm_code_lt h).2)
theorem dm_okv {ty : Nat} {t : FieldType} {v : Value} {sa : Nat → Nat} {b : Nat} (h : dm_ok ty v = true) (ht : (t = .int ∧ ty % 4 = 0) ∨ (t = .boolean ∧ ty % 4 = 1) ∨ ((∃ n, t = .object n) ∨ ∃ q, t = .array q) ∧ ty % 4 = 2) : narrow t (dm_rv sa b v) = dm_rv sa b v ∧ fits t (dm_rv sa b v) = true := by
  cases v with
  | int x =>
    unfold dm_ok at h
    dsimp only at h
    rcases ht with ⟨rfl, h2⟩ | ⟨rfl, h2⟩ | ⟨-, h2⟩
    · exact ⟨rfl, rfl⟩
    · rw [h2] at h
      have h3 : x = 0 ∨ x = 1 := by simpa using h
      rcases h3 with rfl | rfl
      · exact ⟨rfl, by show fits .boolean (.int 0) = true; decide⟩
      · exact ⟨rfl, by show fits .boolean (.int 1) = true; decide⟩
    · rw [h2] at h
      cases h
  | ref a =>
    unfold dm_ok at h
    have h2 := Nat.eq_of_beq_eq_true h
    rcases ht with ⟨-, h3⟩ | ⟨-, h3⟩ | ⟨h3 | h3, -⟩
    · omega
    · omega
    · obtain ⟨n, rfl⟩ := h3
      exact ⟨rfl, rfl⟩
    · obtain ⟨n, rfl⟩ := h3
      exact ⟨rfl, rfl⟩
  | _ => cases h
section DS
variable {p : Program} {l : Launch} {e : Env} {R : Room} {s : State} {m : MethodId} {args : Array Value} {below : List Frame} {meth : Method} {c : Code} {Q : State → Prop}
variable {D : va_G} {cy : Nat → ClassId} {sa : Nat → Nat} {b : Nat} {tb : dT}
/-- the machine comes to Q from where the picture is -/
def dm_G (p : Program) (l : Launch) (e : Env) (R : Room) (s : State) (m : MethodId) (args : Array Value) (below : List Frame) (meth : Method) (c : Code) (Q : State → Prop) (D : va_G) (cy : Nat → ClassId) (sa : Nat → Nat) (b : Nat) (tb : dT) (mi c0 s0 : Nat) (pc : Nat) (ls st : List Value) (h : dH) : Prop :=
  ∀ (H : Heap) (locs : List Loc) (lc : Array Slot), c0 ≤ h.1 → s0 ≤ h.2.1 → dm_W D cy sa b tb h s H → va_S (dm_A b) s.heap H locs → dm_L sa b mi ls lc c.maxLocals → W p l e R s m args below meth c H locs (h.1 - c0) (h.2.1 - s0) Q (F0 m pc lc (st.map (dm_rv sa b)))
set_option maxHeartbeats 4000000 in
theorem dm_step_ok {mi c0 s0 pc : Nat} {i : Instr} {ls st : List Value} {h : dH} {v : Option Value × dH} {K : Nat → List Value → List Value → dH → Option (Option Value × dH)} (hC : dm_C mi b p s m args meth c)
    (nx : ∀ pc ls st h, K pc ls st h = some v → dm_G p l e R s m args below meth c Q D cy sa b tb mi c0 s0 pc ls st h)
    (mono : ∀ pc ls st h, K pc ls st h = some v → h.1 ≤ v.2.1 ∧ h.2.1 ≤ v.2.2.1)
    (hrc : v.2.1 - c0 ≤ R.cells) (hrs : v.2.2.1 - s0 ≤ R.slots) (hi : dm_code mi pc = some i) (hd : decode c.code pc = .ok (i, dm_len pc i))
    (hK : dm_step tb mi i pc ls st h K = some v) : dm_G p l e R s m args below meth c Q D cy sa b tb mi c0 s0 pc ls st h := by
  obtain ⟨hx, -, hown, hts, hini, hb0⟩ := hC
  have hid := dm_idx hi
  unfold dc_idx at hid
  rw [hi] at hid
  intro H locs lc h0 h1 hW hS hL
  have hn : c.maxLocals = ls.length := hL.2.1.symm
  cases i with
  | iconst n => exact lv_iconst hx rfl hd rfl (nx _ _ _ _ hK H locs lc h0 h1 hW hS hL)
  | bipush n => exact lv_bipush hx rfl hd rfl (nx _ _ _ _ hK H locs lc h0 h1 hW hS hL)
  | sipush n => exact lv_sipush hx rfl hd rfl (nx _ _ _ _ hK H locs lc h0 h1 hW hS hL)
  | lconst n => exact lv_lconst hx rfl hd rfl (nx _ _ _ _ hK H locs lc h0 h1 hW hS hL)
  | ldc k =>
    obtain ⟨x, h2, h3⟩ := dm_bn hK
    have hk : k < 512 := by simpa [Nat.blt_eq] using hid
    have hw := dm_cstw h2
    rw [(dm_ix hk).1, (dm_ix hk).2] at hw
    exact lv_ldc hx rfl hown (hts _ hw) hd (nx _ _ _ _ h3 H locs lc h0 h1 hW hS hL)
  | ldc_w k =>
    obtain ⟨x, h2, h3⟩ := dm_bn hK
    have hk : k < 512 := by simpa [Nat.blt_eq] using hid
    have hw := dm_cstw h2
    rw [(dm_ix hk).1, (dm_ix hk).2] at hw
    exact lv_ldcw hx rfl hown (hts _ hw) hd (nx _ _ _ _ h3 H locs lc h0 h1 hW hS hL)
  | iload k =>
    obtain ⟨x, h2, h3⟩ := dm_ni_some hK
    exact lv_iload hx rfl hd (hL.get h2 (fun z => by cases z)) (nx _ _ _ _ h3 H locs lc h0 h1 hW hS hL)
  | iload_n k =>
    obtain ⟨x, h2, h3⟩ := dm_ni_some hK
    exact lv_iload_n hx rfl hd rfl (hL.get h2 (fun z => by cases z)) (nx _ _ _ _ h3 H locs lc h0 h1 hW hS hL)
  | lload k =>
    obtain ⟨x, h2, h3⟩ := dm_nl_some hK
    exact lv_lload hx rfl hd (hL.get h2 (fun z => by cases z)) (nx _ _ _ _ h3 H locs lc h0 h1 hW hS hL)
  | aload k =>
    have hK : dm_nr ls[k]? (fun x => K (pc + 2) ls (x :: st) h) = some v := hK
    rcases dm_nr_some hK with ⟨x, h2, h3⟩ | ⟨x, h2, h3⟩
    · exact lv_aload hx rfl hd (hL.get h2 (fun z => by cases z)) (nx _ _ _ _ h3 H locs lc h0 h1 hW hS hL)
    · exact lv_aload hx rfl hd (hL.get h2 (fun z => by cases z)) (nx _ _ _ _ h3 H locs lc h0 h1 hW hS hL)
  | aload_n k =>
    have hK : dm_nr ls[k.val]? (fun x => K (pc + 1) ls (x :: st) h) = some v := hK
    rcases dm_nr_some hK with ⟨x, h2, h3⟩ | ⟨x, h2, h3⟩
    · exact lv_aload_n hx rfl hd rfl (hL.get h2 (fun z => by cases z)) (nx _ _ _ _ h3 H locs lc h0 h1 hW hS hL)
    · exact lv_aload_n hx rfl hd rfl (hL.get h2 (fun z => by cases z)) (nx _ _ _ _ h3 H locs lc h0 h1 hW hS hL)
  | istore k =>
    obtain ⟨x, r, rfl, h2⟩ := dm_i1_some hK
    obtain ⟨l2, h3, h4⟩ := dm_bn h2
    exact lv_istore hx rfl hd hL.1 (by rw [hn]; exact (dm_sto_some h3).1) rfl (fun lc' hl' => nx _ _ _ _ h4 H locs lc' h0 h1 hW hS (hL.sto h3 rfl hl'))
  | istore_n k =>
    obtain ⟨x, r, rfl, h2⟩ := dm_i1_some hK
    obtain ⟨l2, h3, h4⟩ := dm_bn h2
    exact lv_istore_n hx rfl hd rfl hL.1 (by rw [hn]; exact (dm_sto_some h3).1) rfl (fun lc' hl' => nx _ _ _ _ h4 H locs lc' h0 h1 hW hS (hL.sto h3 rfl hl'))
  | lstore k =>
    unfold dm_step at hK
    dsimp only at hK
    split at hK
    · obtain ⟨l2, h3, h4⟩ := dm_bn hK
      exact lv_lstore hx rfl hd hL.1 (by rw [hn]; exact (dm_stoL_some h3).1) rfl (fun lc' hl' => nx _ _ _ _ h4 H locs lc' h0 h1 hW hS (hL.stoL h3 hl'))
    · cases hK
  | astore k =>
    unfold dm_step at hK
    dsimp only at hK
    split at hK
    · obtain ⟨l2, h3, h4⟩ := dm_bn hK
      exact lv_astore hx rfl hd hL.1 (by rw [hn]; exact (dm_sto_some h3).1) rfl (fun lc' hl' => nx _ _ _ _ h4 H locs lc' h0 h1 hW hS (hL.sto h3 rfl hl'))
    · cases hK
  | astore_n k =>
    unfold dm_step at hK
    dsimp only at hK
    split at hK
    · obtain ⟨l2, h3, h4⟩ := dm_bn hK
      exact lv_astore_n hx rfl hd rfl hL.1 (by rw [hn]; exact (dm_sto_some h3).1) rfl (fun lc' hl' => nx _ _ _ _ h4 H locs lc' h0 h1 hW hS (hL.sto h3 rfl hl'))
    · cases hK
  | iinc k n =>
    obtain ⟨x, h2, hK⟩ := dm_ni_some hK
    obtain ⟨l2, h3, h4⟩ := dm_bn hK
    obtain ⟨q, hq⟩ := List.getElem?_of_mem (dm_lv_mem.mpr ⟨.int x, h2, (fun z => by cases z), rfl⟩ : (k, dm_rv sa b (.int x)) ∈ dm_lv sa b ls)
    exact lv_iinc hx rfl hd hL.1 hq rfl (by rw [hn]; exact (dm_sto_some h3).1) rfl (fun lc' hl' => nx _ _ _ _ h4 H locs lc' h0 h1 hW hS (hL.sto h3 rfl hl'))
  | iadd =>
    obtain ⟨x, y, r, rfl, h2⟩ := dm_i2_some hK
    exact lv_iadd hx rfl hd (nx _ _ _ _ h2 H locs lc h0 h1 hW hS hL)
  | isub =>
    obtain ⟨x, y, r, rfl, h2⟩ := dm_i2_some hK
    exact lv_isub hx rfl hd (nx _ _ _ _ h2 H locs lc h0 h1 hW hS hL)
  | imul =>
    obtain ⟨x, y, r, rfl, h2⟩ := dm_i2_some hK
    exact lv_imul hx rfl hd (nx _ _ _ _ h2 H locs lc h0 h1 hW hS hL)
  | idiv =>
    obtain ⟨x, y, r, rfl, h2⟩ := dm_i2_some hK
    by_cases hy : y = 0
    · rw [if_pos hy] at h2
      cases h2
    · rw [if_neg hy] at h2
      exact lv_idiv hx rfl hd hy (nx _ _ _ _ h2 H locs lc h0 h1 hW hS hL)
  | irem =>
    obtain ⟨x, y, r, rfl, h2⟩ := dm_i2_some hK
    by_cases hy : y = 0
    · rw [if_pos hy] at h2
      cases h2
    · rw [if_neg hy] at h2
      exact lv_irem hx rfl hd hy (nx _ _ _ _ h2 H locs lc h0 h1 hW hS hL)
  | iand =>
    obtain ⟨x, y, r, rfl, h2⟩ := dm_i2_some hK
    exact lv_iand hx rfl hd (nx _ _ _ _ h2 H locs lc h0 h1 hW hS hL)
  | ior =>
    obtain ⟨x, y, r, rfl, h2⟩ := dm_i2_some hK
    exact lv_ior hx rfl hd (nx _ _ _ _ h2 H locs lc h0 h1 hW hS hL)
  | ixor =>
    obtain ⟨x, y, r, rfl, h2⟩ := dm_i2_some hK
    exact lv_ixor hx rfl hd (nx _ _ _ _ h2 H locs lc h0 h1 hW hS hL)
  | ishl =>
    obtain ⟨x, y, r, rfl, h2⟩ := dm_i2_some hK
    exact lv_ishl hx rfl hd (nx _ _ _ _ h2 H locs lc h0 h1 hW hS hL)
  | ishr =>
    obtain ⟨x, y, r, rfl, h2⟩ := dm_i2_some hK
    exact lv_ishr hx rfl hd (nx _ _ _ _ h2 H locs lc h0 h1 hW hS hL)
  | iushr =>
    obtain ⟨x, y, r, rfl, h2⟩ := dm_i2_some hK
    exact lv_iushr hx rfl hd rfl (nx _ _ _ _ h2 H locs lc h0 h1 hW hS hL)
  | ineg =>
    obtain ⟨x, r, rfl, h2⟩ := dm_i1_some hK
    exact lv_ineg hx rfl hd (nx _ _ _ _ h2 H locs lc h0 h1 hW hS hL)
  | i2l =>
    obtain ⟨x, r, rfl, h2⟩ := dm_i1_some hK
    exact lv_i2l hx rfl hd rfl (nx _ _ _ _ h2 H locs lc h0 h1 hW hS hL)
  | lmul =>
    obtain ⟨x, y, r, rfl, h2⟩ := dm_l2_some hK
    exact lv_lmul hx rfl hd (nx _ _ _ _ h2 H locs lc h0 h1 hW hS hL)
  | lcmp =>
    obtain ⟨x, y, r, rfl, h2⟩ := dm_l2_some hK
    exact W.lcmp hx rfl hd (nx _ _ _ _ h2 H locs lc h0 h1 hW hS hL)
  | dup =>
    unfold dm_step at hK
    dsimp only at hK
    split at hK
    · exact lv_dup hx rfl hd rfl (nx _ _ _ _ hK H locs lc h0 h1 hW hS hL)
    · exact lv_dup hx rfl hd rfl (nx _ _ _ _ hK H locs lc h0 h1 hW hS hL)
    · cases hK
  | dup2 =>
    unfold dm_step at hK
    dsimp only at hK
    split at hK
    · exact lv_dup2_11 hx rfl hd rfl rfl (nx _ _ _ _ hK H locs lc h0 h1 hW hS hL)
    · cases hK
  | ifCond cd off =>
    obtain ⟨x, r, rfl, h2⟩ := dm_i1_some hK
    obtain ⟨t, h3, h4⟩ := dm_bn h2
    have ht := dm_to_some h3
    cases cd with
    | eq => exact lv_if_eq hx rfl hd ht (fun hc => nx _ _ _ _ ((if_pos hc).symm.trans h4) H locs lc h0 h1 hW hS hL) (fun hc => nx _ _ _ _ ((if_neg hc).symm.trans h4) H locs lc h0 h1 hW hS hL)
    | ne => exact lv_if_ne hx rfl hd ht (fun hc => nx _ _ _ _ ((if_neg hc).symm.trans h4) H locs lc h0 h1 hW hS hL) (fun hc => nx _ _ _ _ ((if_pos hc).symm.trans h4) H locs lc h0 h1 hW hS hL)
    | lt => exact lv_if_lt hx rfl hd ht (fun hc => nx _ _ _ _ ((if_pos hc).symm.trans h4) H locs lc h0 h1 hW hS hL) (fun hc => nx _ _ _ _ ((if_neg hc).symm.trans h4) H locs lc h0 h1 hW hS hL)
    | ge => exact lv_if_ge hx rfl hd ht (fun hc => nx _ _ _ _ ((if_pos hc).symm.trans h4) H locs lc h0 h1 hW hS hL) (fun hc => nx _ _ _ _ ((if_neg hc).symm.trans h4) H locs lc h0 h1 hW hS hL)
    | gt => exact lv_if_gt hx rfl hd ht (fun hc => nx _ _ _ _ ((if_pos hc).symm.trans h4) H locs lc h0 h1 hW hS hL) (fun hc => nx _ _ _ _ ((if_neg hc).symm.trans h4) H locs lc h0 h1 hW hS hL)
    | le => exact lv_if_le hx rfl hd ht (fun hc => nx _ _ _ _ ((if_pos hc).symm.trans h4) H locs lc h0 h1 hW hS hL) (fun hc => nx _ _ _ _ ((if_neg hc).symm.trans h4) H locs lc h0 h1 hW hS hL)
  | if_icmp cd off =>
    obtain ⟨x, y, r, rfl, h2⟩ := dm_i2_some hK
    obtain ⟨t, h3, h4⟩ := dm_bn h2
    have ht := dm_to_some h3
    cases cd with
    | eq => exact lv_icmp_eq hx rfl hd ht (fun hc => nx _ _ _ _ ((if_pos hc).symm.trans h4) H locs lc h0 h1 hW hS hL) (fun hc => nx _ _ _ _ ((if_neg hc).symm.trans h4) H locs lc h0 h1 hW hS hL)
    | ne => exact lv_icmp_ne hx rfl hd ht (fun hc => nx _ _ _ _ ((if_neg hc).symm.trans h4) H locs lc h0 h1 hW hS hL) (fun hc => nx _ _ _ _ ((if_pos hc).symm.trans h4) H locs lc h0 h1 hW hS hL)
    | lt => exact lv_icmp_lt hx rfl hd ht (fun hc => nx _ _ _ _ ((if_pos hc).symm.trans h4) H locs lc h0 h1 hW hS hL) (fun hc => nx _ _ _ _ ((if_neg hc).symm.trans h4) H locs lc h0 h1 hW hS hL)
    | ge => exact lv_icmp_ge hx rfl hd ht (fun hc => nx _ _ _ _ ((if_pos hc).symm.trans h4) H locs lc h0 h1 hW hS hL) (fun hc => nx _ _ _ _ ((if_neg hc).symm.trans h4) H locs lc h0 h1 hW hS hL)
    | gt => exact lv_icmp_gt hx rfl hd ht (fun hc => nx _ _ _ _ ((if_pos hc).symm.trans h4) H locs lc h0 h1 hW hS hL) (fun hc => nx _ _ _ _ ((if_neg hc).symm.trans h4) H locs lc h0 h1 hW hS hL)
    | le => exact lv_icmp_le hx rfl hd ht (fun hc => nx _ _ _ _ ((if_pos hc).symm.trans h4) H locs lc h0 h1 hW hS hL) (fun hc => nx _ _ _ _ ((if_neg hc).symm.trans h4) H locs lc h0 h1 hW hS hL)
  | goto off =>
    obtain ⟨t, h3, h4⟩ := dm_bn hK
    exact lv_goto hx rfl hd (dm_to_some h3) (nx _ _ _ _ h4 H locs lc h0 h1 hW hS hL)
  | tableswitch dflt lo hi2 offs =>
    obtain ⟨x, r, rfl, h2⟩ := dm_i1_some hK
    obtain ⟨t, h3, h4⟩ := dm_bn h2
    by_cases hc : x.toInt < lo ∨ hi2 < x.toInt
    · rw [if_pos hc] at h4
      exact lv_tableOut hx rfl hd hc (dm_to_some h3) (nx _ _ _ _ h4 H locs lc h0 h1 hW hS hL)
    · rw [if_neg hc] at h4
      obtain ⟨o, h5, h6⟩ := dm_bn h4
      obtain ⟨t2, h7, h8⟩ := dm_bn h6
      exact lv_tableIn hx rfl hd (fun z => hc (Or.inl z)) (fun z => hc (Or.inr z)) h5 (dm_to_some h7) (nx _ _ _ _ h8 H locs lc h0 h1 hW hS hL)
  | getfield k =>
    unfold dm_step at hK
    dsimp only at hK
    split at hK
    · obtain ⟨f, h3, h4⟩ := dm_bn hK
      have hk : k < 512 := by simpa [Nat.blt_eq] using hid
      obtain ⟨w1, w2, w3, -⟩ := dm_fldw h3
      rw [(dm_ix hk).1, (dm_ix hk).2] at w1
      by_cases hc : Nat.blt (f.2.2 % 4) 2 = true
      · rw [hc] at h4
        obtain ⟨x, h5, h6⟩ := dm_bn (h4 : Option.bind _ _ = _)
        obtain ⟨fs, h7, h8⟩ := dm_getI_some h5
        exact dm_rget hx rfl hts hown hW w2 w3 w1 h7 h8 hd (nx _ _ _ _ h6 H locs lc h0 h1 hW hS hL)
      · rw [Bool.eq_false_iff.mpr hc] at h4
        obtain ⟨x, h5, h6⟩ := dm_bn (h4 : Option.bind _ _ = _)
        obtain ⟨fs, h7, h8⟩ := dm_getR_some h5
        exact dm_rget hx rfl hts hown hW w2 w3 w1 h7 h8 hd (nx _ _ _ _ h6 H locs lc h0 h1 hW hS hL)
    · cases hK
  | putfield k =>
    unfold dm_step at hK
    dsimp only at hK
    split at hK
    · obtain ⟨f, h3, h4⟩ := dm_bn hK
      have hk : k < 512 := by simpa [Nat.blt_eq] using hid
      obtain ⟨w1, w2, w3, w4, w5, w6⟩ := dm_fldw h3
      rw [(dm_ix hk).1, (dm_ix hk).2] at w1
      obtain ⟨h5, h6⟩ := dm_bif h4
      rw [Bool.and_eq_true, Bool.or_eq_true, Bool.and_eq_true] at h5
      obtain ⟨h7, h8, h9⟩ := dm_bn h6
      obtain ⟨fs, g1, g2, rfl⟩ := dm_put_some h8
      have hok := dm_okv (sa := sa) (b := b) h5.1 w5
      refine dm_rput hx rfl hts hown hW hS w2 w3 w1 g1 g2 hok.1 hok.2 ?_ hd (fun H1 locs1 hW1 hS1 => nx _ _ _ _ h9 H1 locs1 lc h0 h1 hW1 hS1 hL)
      by_cases hf : (dm_T f.1 f.2.1).2.2.2 = true
      · refine Or.inr ⟨hf, ?_⟩
        rcases h5.2 with z | z
        · rw [w4] at hf
          have z1 : f.2.2 < 4 := by simpa [Nat.blt_eq] using z
          have z2 : 4 ≤ f.2.2 := Nat.le_of_ble_eq_true hf
          omega
        · exact ⟨hini.1 z.1, by rw [w6, Nat.eq_of_beq_eq_true z.2]⟩
      · exact Or.inl (Bool.eq_false_iff.mpr hf)
    · cases hK
  | getstatic k =>
    obtain ⟨f, h3, h4⟩ := dm_bn hK
    have hk : k < 512 := by simpa [Nat.blt_eq] using hid
    obtain ⟨w1, w2⟩ := dm_stcw h3
    rw [(dm_ix hk).1, (dm_ix hk).2] at w2
    have hZ := hW.2.2.2.2 f.1 w1
    have hZ0 : va_Z "PenArm" (dm_sn f.1) "[I" (.ref (sa f.1)) (dm_A b) s s.heap := by
      obtain ⟨cf, kf, fi, fd, a, cell, z1, z2, z3, z4, z5, z6, z7, z8⟩ := hZ
      have ha : a < s.heap.size := Nat.lt_of_lt_of_le (Nat.not_le.mp z8) hb0
      exact ⟨cf, kf, fi, fd, a, cell, z1, z2, z3, z4, by rw [← hS.2.1 a ha z8]; exact z5, z6, z7, z8⟩
    have hnum : (UInt32.ofNat f.1).toNat = f.1 := by
      rcases (show f.1 = 0 ∨ f.1 = 1 ∨ f.1 = 2 by omega) with z | z | z <;> rw [z] <;> rfl
    have hnx := nx _ _ _ _ h4 H locs lc h0 h1 hW hS hL
    have hnx : W p l e R s m args below meth c H locs (h.1 - c0) (h.2.1 - s0) Q (F0 m (pc + 3) lc (.ref (sa (UInt32.ofNat f.1).toNat) :: st.map (dm_rv sa b))) := hnx
    rw [hnum] at hnx
    rcases w2 with w2 | w2
    · exact va_gets hx rfl hZ0 hS hown (hts _ w2) (fun _ h9 => h9) hd hnx
    · exact va_getsN hx rfl hZ0 hS hown (hts _ w2) (fun _ h9 => h9) hd hnx
  | iaload =>
    unfold dm_step at hK
    dsimp only at hK
    split at hK
    · rename_i st i a r
      obtain ⟨x, h3, h4⟩ := dm_bn hK
      obtain ⟨w, h5, h6⟩ := dm_bn h3
      obtain ⟨h7, h8⟩ := dm_at_some h6
      cases h8
      have hP : va_P D vwCl [(b + a, .inl (cy 0, w.1, .inl w.2))] H := dm_P1 (hW.2.1 a _ (dm_rowI_some h5))
      exact va_iald hx rfl hW.2.2.1 hP 0 0 rfl rfl h7 hd (nx _ _ _ _ h4 H locs lc h0 h1 hW hS hL)
    · rename_i st i k r
      obtain ⟨h7, h8⟩ := dm_at_some hK
      have hnx := nx _ _ _ _ h8 H locs lc h0 h1 hW hS hL
      obtain ⟨cell, z1, z2, z3, z4, z5, z6, z7⟩ := hW.2.2.2.1 k.toNat
      have hlt : i.toNatClampNeg < (tb k.toNat).1 := Nat.not_le.mp fun q => h7 (Or.inr q)
      exact W.iald (v := .int ((tb k.toNat).2 i.toNatClampNeg)) hx rfl z1 z2 z3 (fun q => q.elim (fun q => h7 (Or.inl q)) (fun q => by omega)) (z6 _ hlt) rfl rfl hd hnx
    · cases hK
  | baload =>
    unfold dm_step at hK
    dsimp only at hK
    split at hK
    · rename_i st i a r
      obtain ⟨x, h3, h4⟩ := dm_bn hK
      obtain ⟨w, h5, h6⟩ := dm_bn h3
      obtain ⟨h7, h8⟩ := dm_at_some h6
      cases h8
      have hP : va_P D vwCl [(b + a, .inl (cy 1, w.1, .inl w.2))] H := dm_P1 (hW.2.1 a _ (dm_rowI_some h5))
      exact va_zald hx rfl hW.2.2.1 hP 0 1 rfl rfl h7 hd (nx _ _ _ _ h4 H locs lc h0 h1 hW hS hL)
    · cases hK
  | laload =>
    unfold dm_step at hK
    dsimp only at hK
    split at hK
    · rename_i st i a r
      obtain ⟨x, h3, h4⟩ := dm_bn hK
      obtain ⟨w, h5, h6⟩ := dm_bn h3
      obtain ⟨h7, h8⟩ := dm_at_some h6
      cases h8
      have hat : H[b + a]? = some (vp_cell (cy 4) (w.1, .inr (.inl w.2))) := hW.2.1 a _ (dm_rowL_some h5)
      have hlt : i.toNatClampNeg < w.1 := Nat.not_le.mp fun q => h7 (Or.inr q)
      exact W.lald (v := .long (w.2 i.toNatClampNeg)) hx rfl hat ((hW.2.2.1.2 4 (cy 4, .long) rfl).1 w.1 (fun j => .long (w.2 j))) (fun q => by cases q) (by show ¬ (i < 0 ∨ (arrV _ _ _).slots.size ≤ _); rw [arrV_size]; exact h7) (by show (arrV _ _ _).slots[_]? = _; rw [arrV_read _ _ hlt]) rfl rfl hd (nx _ _ _ _ h4 H locs lc h0 h1 hW hS hL)
    · cases hK
  | aaload =>
    unfold dm_step at hK
    dsimp only at hK
    split at hK
    · rename_i st i a r
      obtain ⟨x, h3, h4⟩ := dm_bn hK
      obtain ⟨w, h5, h6⟩ := dm_bn h3
      obtain ⟨h7, h8⟩ := dm_at_some h6
      obtain ⟨hr, hk⟩ := dm_rowR_some h5
      have hP : va_P D vwCl [(b + a, .inl (cy w.1, w.2.1, .inr (.inr (.inr (.inr fun j => (w.2.2 j).map (fun q => b + q))))))] H := dm_P1 (hW.2.1 a _ hr)
      obtain ⟨t0, Cn, ht⟩ : ∃ (t0 : Nat) (Cn : String), (dm_tys cy)[t0]? = some (cy w.1, FieldType.object Cn) := by
        rcases hk with hk | hk
        · exact ⟨2, "PenArm$Leg", by rw [hk]; rfl⟩
        · exact ⟨3, "PenArm$Stroke", by rw [hk]; rfl⟩
      have hnx := nx _ _ _ _ h4 H locs lc h0 h1 hW hS hL
      refine va_aldq hx rfl hW.2.2.1 hP 0 t0 rfl ht h7 hd ?_
      rw [show w.2.2 i.toNatClampNeg = some x from h8]
      exact hnx
    · cases hK
  | iastore =>
    unfold dm_step at hK
    dsimp only at hK
    split at hK
    · rename_i st x i a r
      obtain ⟨h2, h3, h4⟩ := dm_bn hK
      obtain ⟨w, h5, h6⟩ := dm_bn h3
      obtain ⟨h7, h8⟩ := dm_at_some h6
      cases h8
      exact dm_rist hx rfl hW hS h5 h7 hd (fun H1 locs1 hW1 hS1 => nx _ _ _ _ h4 H1 locs1 lc h0 h1 hW1 hS1 hL)
    · cases hK
  | bastore =>
    unfold dm_step at hK
    dsimp only at hK
    split at hK
    · rename_i st x i a r
      obtain ⟨hb1, hK⟩ := dm_bif hK
      obtain ⟨h2, h3, h4⟩ := dm_bn hK
      obtain ⟨w, h5, h6⟩ := dm_bn h3
      obtain ⟨h7, h8⟩ := dm_at_some h6
      cases h8
      exact dm_rzst hx rfl hW hS h5 h7 (by simpa using hb1) hd (fun H1 locs1 hW1 hS1 => nx _ _ _ _ h4 H1 locs1 lc h0 h1 hW1 hS1 hL)
    · cases hK
  | aastore =>
    unfold dm_step at hK
    dsimp only at hK
    split at hK
    · rename_i st x i a r
      obtain ⟨h2, h3, h4⟩ := dm_bn hK
      obtain ⟨w, h5, h6⟩ := dm_bn h3
      obtain ⟨vs, h9, h6⟩ := dm_bn h6
      obtain ⟨h7, h8⟩ := dm_at_some h6
      cases h8
      exact dm_rast (k := 0) hx rfl hW hS h5 h9 h7 hd (fun H1 locs1 hW1 hS1 => nx _ _ _ _ h4 H1 locs1 lc h0 h1 hW1 hS1 hL)
    · cases hK
  | arraylength =>
    unfold dm_step at hK
    dsimp only at hK
    split at hK
    · rename_i st a r
      obtain ⟨w, h3, h4⟩ := dm_bn hK
      have hat : H[b + a]? = some (vp_cell (cy 0) (w.1, .inl w.2)) := hW.2.1 a _ (dm_rowI_some h3)
      exact W.alen (n := Int32.ofNat w.1) hx rfl hat ((hW.2.2.1.2 0 (cy 0, .int) rfl).1 w.1 (fun j => .int (w.2 j))) (by rw [vp_cell_i, arrV_size] <;> rfl) rfl rfl hd (nx _ _ _ _ h4 H locs lc h0 h1 hW hS hL)
    · rename_i st k r
      have hnx := nx _ _ _ _ hK H locs lc h0 h1 hW hS hL
      obtain ⟨cell, z1, z2, z3, z4, z5, z6, z7⟩ := hW.2.2.2.1 k.toNat
      exact W.alen (n := Int32.ofNat (tb k.toNat).1) hx rfl z1 z2 z5 rfl rfl hd hnx
    · cases hK
  | new k =>
    obtain ⟨ci, h3, h4⟩ := dm_bn hK
    have hk : k < 512 := by simpa [Nat.blt_eq] using hid
    obtain ⟨w1, w2⟩ := dm_clsw h3
    rw [(dm_ix hk).1, (dm_ix hk).2] at w1
    have hm := mono _ _ _ _ h4
    have e1 := dm_new1 h (dm_def ci).length (.inr (ci, dm_def ci))
    rw [e1.1, e1.2] at hm
    refine dm_rnew hx rfl hts hown hW hS hb0 w2 w1 (by omega) (by omega) hd (fun H1 hW1 hS1 => ?_)
    have hnx := nx _ _ _ _ h4 H1 locs lc (by rw [e1.1]; omega) (by rw [e1.2]; omega) hW1 hS1 hL
    rw [e1.1, e1.2, show h.1 + 1 - c0 = h.1 - c0 + 1 by omega, show h.2.1 + (dm_def ci).length - s0 = h.2.1 - s0 + (dm_def ci).length by omega] at hnx
    exact hnx
  | newarray t =>
    obtain ⟨n, r, rfl, h2⟩ := dm_i1_some hK
    by_cases hc : n < 0 ∨ 100000 < n
    · rw [if_pos hc] at h2
      cases h2
    · rw [if_neg hc] at h2
      cases t with
      | int =>
        have hm := mono _ _ _ _ h2
        have e1 := dm_new1 h n.toNatClampNeg (.inl (0, n.toNatClampNeg, .inl fun _ => 0))
        rw [e1.1, e1.2] at hm
        refine dm_rnwa (k := 0) (t0 := 0) (a0 := (n.toNatClampNeg, .inl fun _ => 0)) (at_ := .int) (ty := .int) hx rfl hts hW hS rfl dm_ar_int rfl (fun C z => by cases z) (by decide) rfl (fun cA => rfl) hc (by omega) (by omega) hd (fun H1 hW1 hS1 => ?_)
        have hnx := nx _ _ _ _ h2 H1 locs lc (by rw [e1.1]; omega) (by rw [e1.2]; omega) hW1 hS1 hL
        rw [e1.1, e1.2, show h.1 + 1 - c0 = h.1 - c0 + 1 by omega, show h.2.1 + n.toNatClampNeg - s0 = h.2.1 - s0 + n.toNatClampNeg by omega] at hnx
        exact hnx
      | boolean =>
        have hm := mono _ _ _ _ h2
        have e1 := dm_new1 h n.toNatClampNeg (.inl (1, n.toNatClampNeg, .inl fun _ => 0))
        rw [e1.1, e1.2] at hm
        refine dm_rnwa (k := 1) (t0 := 1) (a0 := (n.toNatClampNeg, .inl fun _ => 0)) (at_ := .boolean) (ty := .boolean) hx rfl hts hW hS rfl dm_ar_boolean rfl (fun C z => by cases z) (by decide) rfl (fun cA => rfl) hc (by omega) (by omega) hd (fun H1 hW1 hS1 => ?_)
        have hnx := nx _ _ _ _ h2 H1 locs lc (by rw [e1.1]; omega) (by rw [e1.2]; omega) hW1 hS1 hL
        rw [e1.1, e1.2, show h.1 + 1 - c0 = h.1 - c0 + 1 by omega, show h.2.1 + n.toNatClampNeg - s0 = h.2.1 - s0 + n.toNatClampNeg by omega] at hnx
        exact hnx
      | long =>
        have hm := mono _ _ _ _ h2
        have e1 := dm_new1 h n.toNatClampNeg (.inl (4, n.toNatClampNeg, .inr (.inl fun _ => 0)))
        rw [e1.1, e1.2] at hm
        refine dm_rnwa (k := 4) (t0 := 4) (a0 := (n.toNatClampNeg, .inr (.inl fun _ => 0))) (at_ := .long) (ty := .long) hx rfl hts hW hS rfl dm_ar_long rfl (fun C z => by cases z) (by decide) rfl (fun cA => rfl) hc (by omega) (by omega) hd (fun H1 hW1 hS1 => ?_)
        have hnx := nx _ _ _ _ h2 H1 locs lc (by rw [e1.1]; omega) (by rw [e1.2]; omega) hW1 hS1 hL
        rw [e1.1, e1.2, show h.1 + 1 - c0 = h.1 - c0 + 1 by omega, show h.2.1 + n.toNatClampNeg - s0 = h.2.1 - s0 + n.toNatClampNeg by omega] at hnx
        exact hnx
      | _ => cases h2
  | anewarray k =>
    obtain ⟨n, r, rfl, h2⟩ := dm_i1_some hK
    by_cases hc : n < 0 ∨ 100000 < n
    · rw [if_pos hc] at h2
      cases h2
    · rw [if_neg hc] at h2
      obtain ⟨ci, h3, h4⟩ := dm_bn h2
      have hk : k < 512 := by simpa [Nat.blt_eq] using hid
      obtain ⟨w1, w2⟩ := dm_clsw h3
      rw [(dm_ix hk).1, (dm_ix hk).2] at w1
      obtain ⟨h5, h6⟩ := dm_bif h4
      rw [Bool.or_eq_true] at h5
      have hm := mono _ _ _ _ h6
      have e1 := dm_new1 h n.toNatClampNeg (.inl (bif Nat.beq ci 1 then 2 else 3, n.toNatClampNeg, .inr (.inr (.inr (.inr fun _ => none)))))
      rw [e1.1, e1.2] at hm
      have go : ∀ (H1 : Heap), dm_W D cy sa b tb (dm_new h n.toNatClampNeg (.inl (bif Nat.beq ci 1 then 2 else 3, n.toNatClampNeg, .inr (.inr (.inr (.inr fun _ => none)))))) s H1 → va_S (dm_A b) s.heap H1 locs → W p l e R s m args below meth c H1 locs (h.1 - c0 + 1) (h.2.1 - s0 + n.toNatClampNeg) Q (F0 m (pc + 3) lc (.ref (b + h.1) :: r.map (dm_rv sa b))) := by
        intro H1 hW1 hS1
        have hnx := nx _ _ _ _ h6 H1 locs lc (by rw [e1.1]; omega) (by rw [e1.2]; omega) hW1 hS1 hL
        rw [e1.1, e1.2, show h.1 + 1 - c0 = h.1 - c0 + 1 by omega, show h.2.1 + n.toNatClampNeg - s0 = h.2.1 - s0 + n.toNatClampNeg by omega] at hnx
        exact hnx
      rcases h5 with h5 | h5
      · have h5 := Nat.eq_of_beq_eq_true h5
        subst h5
        exact dm_rnwq (k := 2) (t0 := 2) hx rfl hts hown hW hS w1 dm_ov_leg rfl hc (by omega) (by omega) hd go
      · have h5 := Nat.eq_of_beq_eq_true h5
        subst h5
        exact dm_rnwq (k := 3) (t0 := 3) hx rfl hts hown hW hS w1 dm_ov_stroke rfl hc (by omega) (by omega) hd go
  | _ => cases hK
end DS
