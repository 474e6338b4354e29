/-! SOUNDNESS 5: methods and calls -/
theorem dm_cat_pos (v : Value) : 1 ≤ dm_cat v := by cases v <;> simp [dm_cat]
theorem dm_cats_len : ∀ (l : List Value), l.length ≤ dm_cats l
  | [] => Nat.le_refl _
  | v :: r => by
    have h1 := dm_cats_len r
    have h2 := dm_cat_pos v
    show r.length + 1 ≤ dm_cat v + dm_cats r
    omega
theorem dm_cats_one : ∀ {l : List Value}, dm_cats l = l.length → ∀ v ∈ l, dm_two (some v) = false
  | [], _, v, hv => by cases hv
  | w :: r, h, v, hv => by
    have h1 := dm_cats_len r
    have h2 := dm_cat_pos w
    have h : dm_cat w + dm_cats r = r.length + 1 := h
    rcases List.mem_cons.mp hv with rfl | hv
    · have h3 : dm_cat v = 1 := by omega
      cases v <;> simp [dm_cat, dm_two] at h3 ⊢
    · exact dm_cats_one (by omega) v hv
theorem dm_cats_sum (sa : Nat → Nat) (b : Nat) : ∀ (l : List Value), ((l.map (dm_rv sa b)).map fun v => v.category).sum = dm_cats l
  | [] => rfl
  | v :: r => by
    have h1 := dm_cats_sum sa b r
    have h2 : (dm_rv sa b v).category = dm_cat v := by cases v <;> rfl
    show (dm_rv sa b v).category + _ = dm_cat v + dm_cats r
    rw [h2]
    exact congrArg _ h1
theorem dm_cats_app : ∀ (l r : List Value), dm_cats (l ++ r) = dm_cats l + dm_cats r
  | [], r => by simp [dm_cats]
  | v :: l, r => by
    have h1 := dm_cats_app l r
    show dm_cat v + dm_cats (l ++ r) = dm_cat v + dm_cats l + dm_cats r
    omega
theorem dm_cats_rev : ∀ (l : List Value), dm_cats l.reverse = dm_cats l
  | [] => rfl
  | v :: l => by
    have h1 := dm_cats_rev l
    rw [List.reverse_cons, dm_cats_app, h1]
    show dm_cats l + (dm_cat v + 0) = dm_cat v + dm_cats l
    omega
theorem dm_lgsl (sa : Nat → Nat) (b : Nat) : ∀ {l : List Value}, (∀ v ∈ l, dm_two (some v) = false) → lg_sl (l.map (dm_rv sa b)) = (l.map (dm_rv sa b)).map Slot.val
  | [], _ => rfl
  | v :: r, h => by
    have h1 := dm_lgsl sa b (l := r) (fun w hw => h w (List.mem_cons_of_mem _ hw))
    have h2 : (dm_rv sa b v).category = 1 := dm_cat1 (h v List.mem_cons_self)
    unfold lg_sl at h1 ⊢
    rw [List.map_cons, List.flatMap_cons, h1, h2]
    rfl
theorem dm_largs (sa : Nat → Nat) (b : Nat) : ∀ {l : List Value} (k : Nat), (∀ v ∈ l, dm_two (some v) = false) → ∀ i v, l[i]? = some v → (k + i, dm_rv sa b v) ∈ lv_args k (l.map (dm_rv sa b))
  | [], _, _, i, v, hi => by simp at hi
  | w :: r, k, h, i, v, hi => by
    have h2 : ¬ (dm_rv sa b w).category = 2 := by
      have h3 : (dm_rv sa b w).category = 1 := dm_cat1 (h w List.mem_cons_self)
      omega
    show _ ∈ (k, dm_rv sa b w) :: lv_args (if (dm_rv sa b w).category = 2 then k + 2 else k + 1) (r.map (dm_rv sa b))
    rw [if_neg h2]
    cases i with
    | zero =>
      cases hi
      exact List.mem_cons_self
    | succ i =>
      have h1 := dm_largs sa b (l := r) (k + 1) (fun w hw => h w (List.mem_cons_of_mem _ hw)) i v hi
      rw [show k + (i + 1) = k + 1 + i by omega]
      exact List.mem_cons_of_mem _ h1
theorem dm_entry {sa : Nat → Nat} {b mi maxL : Nat} {as : List Value} (hc : dm_cats as = as.length) (hl : as.length ≤ maxL) : dm_L sa b mi (dm_pad maxL as) ((lg_sl (as.map (dm_rv sa b)) ++ List.replicate (maxL - (lg_sl (as.map (dm_rv sa b))).length) Slot.unset).toArray) maxL := by
  have h1 := dm_cats_one hc
  have h2 : (lg_sl (as.map (dm_rv sa b))).length ≤ maxL := by rw [dm_lgsl sa b h1]; simpa using hl
  have h3 := lv_entry (as.map (dm_rv sa b)) h2
  refine ⟨⟨h3.1, h3.2.1, fun q hq => ?_⟩, by unfold dm_pad; simp; omega, fun _ v hv => ?_⟩
  · obtain ⟨v, g1, g2, g3⟩ := dm_lv_mem.mp hq
    have hi : q.1 < as.length := by
      rcases Nat.lt_or_ge q.1 as.length with z | z
      · exact z
      · unfold dm_pad at g1
        rw [List.getElem?_append_right z, List.getElem?_replicate] at g1
        split at g1
        · cases g1
          exact absurd rfl g2
        · cases g1
    unfold dm_pad at g1
    rw [List.getElem?_append_left hi] at g1
    have h4 := dm_largs sa b 0 h1 q.1 v g1
    rw [Nat.zero_add] at h4
    have h5 := h3.2.2 _ h4
    rw [g3]
    exact h5
  · unfold dm_pad at hv
    rcases List.mem_append.mp hv with hv | hv
    · exact h1 v hv
    · rw [(List.mem_replicate.mp hv).2]
      rfl
def dm_Qc (D : va_G) (cy : Nat → ClassId) (sa : Nat → Nat) (b : Nat) (tb : dT) (v : Option Value × dH) : Array Value → State → Outcome → State → Prop := fun _ st oc t => (oc = .returned (v.1.map (dm_rv sa b)) ∧ dm_W D cy sa b tb v.2 t t.heap) ∧ va_F (dm_A b) st t
/-- what is owed at a method's end -/
def dm_End (mi pc : Nat) (c : Code) (v : Option Value) : Prop := match v with
  | none => decode c.code pc = .ok (.return_, 1)
  | some (.int x) => decode c.code pc = .ok (.ireturn, 1) ∧ (dm_isb mi = true → x = 0 ∨ x = 1)
  | some (.ref _) => decode c.code pc = .ok (.areturn, 1)
  | some (.retAddr _) => mi = 85 ∧ pc = 33
  | _ => False
def dm_top (sa : Nat → Nat) (b : Nat) (v : Option Value) : List Value := match v with
  | none => []
  | some (.retAddr _) => []
  | some x => [dm_rv sa b x]
def dm_Fin (p : Program) (l : Launch) (e : Env) (R : Room) (s : State) (m : MethodId) (args : Array Value) (below : List Frame) (meth : Method) (c : Code) (Q : State → Prop) (D : va_G) (cy : Nat → ClassId) (sa : Nat → Nat) (b : Nat) (tb : dT) (mi c0 s0 : Nat) (v : Option Value × dH) : Prop :=
  ∀ (H : Heap) (locs : List Loc) (lc : Array Slot) (pc : Nat), c0 ≤ v.2.1 → s0 ≤ v.2.2.1 → dm_W D cy sa b tb v.2 s H → va_S (dm_A b) s.heap H locs → lc.size = c.maxLocals → dm_End mi pc c v.1 → W p l e R s m args below meth c H locs (v.2.1 - c0) (v.2.2.1 - s0) Q (F0 m pc lc (dm_top sa b v.1))
def dm_S (l : Launch) (D : va_G) (cy : Nat → ClassId) (sa : Nat → Nat) (b : Nat) (tb : dT) (n : Nat) : Prop :=
  ∀ (d mi : Nat) (v : Option Value × dH) (p : Program) (e : Env) (R : Room) (s : State) (m : MethodId) (args : Array Value) (below : List Frame) (meth : Method) (c : Code) (Q : State → Prop) (c0 s0 : Nat), dm_C mi b p s m args meth c → (dm_own mi = 10 → 11 ≤ R.frames ∧ 448 ≤ R.locals) → d ≤ R.frames → 32 * d ≤ R.locals → v.2.1 - c0 ≤ R.cells → v.2.2.1 - s0 ≤ R.slots → dm_Fin p l e R s m args below meth c Q D cy sa b tb mi c0 s0 v →
    ∀ (pc : Nat) (ls st : List Value) (h : dH), dm_run tb n d mi pc ls st h = some v → dm_G p l e R s m args below meth c Q D cy sa b tb mi c0 s0 pc ls st h
theorem dm_msw {t : Nat} (ht : t < 139) {r : MethodName × ByteArray × Nat × Option FieldType} (hr : dm_ms[t]? = some r) : Cond.code r.1 r.2.1 r.2.2.1 r.2.2.2 ∈ dm_TBL ∧ r.1.cls = dm_c (dm_own t) ∧ Cond.initialized r.1.cls ∈ dm_TBL ∧ ((dp_ms.getD t (0, 0, 0, 0, 0)).2.1 = 0 → Cond.static r.1 ∈ dm_TBL) ∧ (¬ (dp_ms.getD t (0, 0, 0, 0, 0)).2.1 = 0 → Cond.instanceMethod r.1 ∈ dm_TBL) ∧ plainName r.1.cls = true ∧ r.2.2.1 ≤ 13 ∧ dm_ini t = decide (r.1.name = "<init>") ∧ r.1.cls ≠ "java/lang/invoke/MethodHandle" ∧ r.1.cls ≠ "java/lang/invoke/VarHandle" ∧ dm_isb t = decide (r.2.2.2 = some .boolean) := by
  have h2 := List.all_eq_true.mp dc_ms_ok t (List.mem_range.mpr ht)
  unfold dc_ms at h2
  rw [hr] at h2
  split at h2
  · rename_i r' q hr' hq
    cases hr'
    simp only [Bool.and_eq_true, decide_eq_true_eq] at h2
    obtain ⟨a1, a2, a3, a4, a5, a6, a7, a8, a9⟩ := h2
    have hg : dp_ms.getD t (0, 0, 0, 0, 0) = q := by rw [List.getD_eq_getElem?_getD, hq]; rfl
    rw [hg]
    refine ⟨dm_in (dq_all t ht _ _ hr hq) rfl, a1, dm_in a2 rfl, fun z => ?_, fun z => ?_, a4, a5, a6, a7, a8, a9⟩
    · rw [z] at a3
      exact dm_in (of_decide_eq_true a3) rfl
    · rw [show Nat.beq q.2.1 0 = false by rw [Bool.eq_false_iff]; exact fun y => z (Nat.eq_of_beq_eq_true y)] at a3
      exact dm_in (of_decide_eq_true a3) rfl
  · cases h2
theorem dm_blind {D : va_G} {cy : Nat → ClassId} {sa : Nat → Nat} {b : Nat} {tb : dT} {h : dH} {av : List Value} : FrameBlind (va_Pc av (fun U => dm_W D cy sa b tb h U U.heap)) := fun a U g mk q => ⟨q.1, dm_W.moved (u := U) (U := U.calling g mk a) (Vm.Alike.refl U.vm) q.2⟩
theorem dm_own_ne {t : Nat} (h : t < 139) : dm_own t ≠ 10 := by
  have h1 : (List.range 139).all (fun t => !(Nat.beq (dm_own t) 10)) = true := by decide +kernel
  have h2 := List.all_eq_true.mp h1 t (List.mem_range.mpr h)
  intro z
  rw [z] at h2
  cases h2
/-- a method's contract out of its run -/
theorem dm_met {l : Launch} {D : va_G} {cy : Nat → ClassId} {sa : Nat → Nat} {b : Nat} {tb : dT} {n : Nat} (hS : dm_S l D cy sa b tb n) {d t : Nat} {as : List Value} {h h' : dH} {r : Option Value} {q : MethodName × ByteArray × Nat × Option FieldType} (hm : dm_ms[t]? = some q) (ht : t < 139) (hrun : dm_run tb n d t 0 (dm_pad q.2.2.1 as) [] h = some (r, h')) (hcat : dm_cats as = as.length) (hlen : as.length ≤ q.2.2.1)
    (hrk : (q.2.2.2 = none ∧ r = none) ∨ (∃ x, r = some (.int x) ∧ (q.2.2.2 = some .int ∨ q.2.2.2 = some .boolean)) ∨ ∃ x o, r = some (.ref x) ∧ q.2.2.2 = some (.object o)) :
    Met l q.1 (.code q.1 q.2.1 q.2.2.1 q.2.2.2 :: dm_TBL) { frames := d, cells := h'.1 - h.1, slots := h'.2.1 - h.2.1, locals := 32 * d } (va_Pc (as.map (dm_rv sa b)) (fun U => dm_W D cy sa b tb h U U.heap)) (dm_Qc D cy sa b tb (r, h')) (h'.1 - h.1) (h'.2.1 - h.2.1) (dm_A b) := by
  obtain ⟨k1, k2, k3, k4, k5, k6, k7, k8, k9, k10, k11⟩ := dm_msw ht hm
  refine Met.ofW (cc := q.2.1) (maxL := q.2.2.1) (ret := q.2.2.2) k6 rfl ?_
  intro p e s m args below meth c s₁ B hml hv
  obtain ⟨rfl, hW⟩ := hv
  have hx := B.exec
  have hb := B.bytes
  have hr := B.returns
  have hts := atoms_spec (ws := .code q.1 q.2.1 q.2.2.1 q.2.2.2 :: dm_TBL) B.pre
  have hown : s.vm.findClass q.1.cls = some m.cls := findClass_of_methodNamed B.named
  have hlocks := B.notSynchronized
  rw [lg_entry_eq]
  have hfin : dm_Fin p l e { frames := d, cells := h'.1 - h.1, slots := h'.2.1 - h.2.1, locals := 32 * d } s m (as.map (dm_rv sa b)).toArray below meth c (MQ below (dm_Qc D cy sa b tb (r, h')) (as.map (dm_rv sa b)).toArray s (h'.1 - h.1) (h'.2.1 - h.2.1) (dm_A b)) D cy sa b tb t h.1 h.2.1 (r, h') := by
    intro H locs lc pc _ _ hW2 hS2 hlc hend
    have post : ∀ t2 : State, t2.heap = H → s.WarmedH t2.vm → dm_Qc D cy sa b tb (r, h') (as.map (dm_rv sa b)).toArray s (.returned (r.map (dm_rv sa b))) t2 := fun t2 e2 w2 => ⟨⟨rfl, by rw [e2]; exact dm_W.moved w2.alike hW2⟩, hS2.F e2⟩
    rcases hrk with ⟨z1, rfl⟩ | ⟨x, rfl, z1⟩ | ⟨x, o, rfl, z1⟩
    · exact W.vret hx rfl (by rw [hr, z1]) post hS2.2.2 hend
    · rcases z1 with z1 | z1
      · exact W.iret hx rfl (by rw [hr, z1]) post hS2.2.2 hend.1
      · refine W.zret hx rfl (by rw [hr, z1]) ?_ post hS2.2.2 hend.1
        rcases hend.2 (by rw [k11, z1]; rfl) with rfl | rfl <;> rfl
    · exact W.aret hx rfl (by rw [hr, z1]) (Or.inl ⟨o, rfl⟩) (Or.inr ⟨_, rfl⟩) post hS2.2.2 hend
  have hgo := hS d t (r, h') p e { frames := d, cells := h'.1 - h.1, slots := h'.2.1 - h.2.1, locals := 32 * d } s m (as.map (dm_rv sa b)).toArray below meth c _ h.1 h.2.1
    ⟨hx, ⟨q, hm, hb, hml⟩, by rw [← k2]; exact hown, fun w hw => hts w (List.mem_cons_of_mem _ hw), ⟨fun z => by
      rw [k8] at z
      rw [(name_of_methodNamed B.named B.method).1]
      exact of_decide_eq_true z, fun z => absurd z (dm_own_ne ht)⟩, by rw [hW.1]; omega⟩ (fun z => absurd z (dm_own_ne ht)) (Nat.le_refl _) (Nat.le_refl _) (Nat.le_refl _) (Nat.le_refl _) hfin 0 (dm_pad q.2.2.1 as) [] h hrun s.heap [] _ (Nat.le_refl _) (Nat.le_refl _) hW va_S.rf (by rw [hml]; exact dm_entry hcat hlen)
  rw [Nat.sub_self, Nat.sub_self] at hgo
  exact hgo
theorem dm_split : ∀ {l : List Value} {k : Nat} {x : Value}, l[k]? = some x → l = l.take k ++ x :: l.drop (k + 1)
  | [], k, x, h => by simp at h
  | a :: r, 0, x, h => by cases h; rfl
  | a :: r, k + 1, x, h => by
    have h1 := dm_split (l := r) (k := k) (x := x) h
    show a :: r = a :: (r.take k ++ x :: r.drop (k + 1))
    rw [← h1]
section DC
variable {p : Program} {l : Launch} {e : Env} {R : Room} {s : State} {m : MethodId} {args : Array Value} {below : List Frame} {meth : Method} {c : Code} {H : Heap} {locs : List Loc} {cells slots : Nat} {Q : State → Prop}
variable {D : va_G} {cy : Nat → ClassId} {sa : Nat → Nat} {b : Nat} {tb : dT}
theorem dm_callK {v : Option Value × dH} {mc ms pc : Nat} {lc : Array Slot} {st0 rest : List Value} {a : Array Value} (hr : va_Run p l e R s m args below meth c H locs cells slots mc ms (F0 m pc lc st0) rest (dm_Qc D cy sa b tb v a) (dm_A b)) (hS : va_S (dm_A b) s.heap H locs)
    (kk : ∀ (H1 : Heap) (locs1 : List Loc), dm_W D cy sa b tb v.2 s H1 → va_S (dm_A b) s.heap H1 locs1 → W p l e R s m args below meth c H1 locs1 (cells + mc) (slots + ms) Q (F0 m (pc + 3) lc ((v.1.map (dm_rv sa b)).toList ++ rest))) : W p l e R s m args below meth c H locs cells slots Q (F0 m pc lc st0) := by
  intro T hT X
  obtain ⟨w, st₀, t, T', L, h0, X', hL, e1, e2, ⟨⟨hv, hW1⟩, hz, hk⟩, st⟩ := hr T hT X
  cases hv
  rw [h0] at hz hk
  have hal : s.vm.Alike t.vm := by rw [← e2]; exact X'.warmed.alike
  obtain ⟨t2, a1, b1⟩ := kk T'.heap (locs ++ L) (by rw [e1]; exact dm_W.moved hal.symm hW1) ⟨Nat.le_trans hS.1 (by rw [e1]; exact hz), fun q h1 h2 => by rw [e1, hk q (Nat.lt_of_lt_of_le h1 hS.1) h2]; exact hS.2.1 q h1 h2, fun q hq => by
      rcases List.mem_append.mp hq with h | h
      · exact hS.2.2 q h
      · exact hL q h⟩ T' rfl X'
  exact ⟨t2, st t2 a1, b1⟩
theorem dm_mthw {k : Nat} {q : Nat × Nat × Nat × Nat × Nat} (h : dg_mth k = some q) : k < 6144 ∧ dc_mth k = true ∧ dc_sel k = true := by
  have hk : k < 6144 := by
    by_cases hc : Nat.blt k 6144 = true
    · simpa [Nat.blt_eq] using hc
    · unfold dg_mth at h
      rw [Bool.eq_false_iff.mpr hc] at h
      cases h
  exact ⟨hk, List.all_eq_true.mp dc_mth_ok k (List.mem_range.mpr hk), List.all_eq_true.mp dc_sel_ok k (List.mem_range.mpr hk)⟩
/-- what the tables say of a call of one of our methods -/
theorem dm_mthm {k : Nat} {q : Nat × Nat × Nat × Nat × Nat} (h : dg_mth k = some q) (h5 : q.1 < 5) : ∃ r, dm_ms[q.2.1]? = some r ∧ q.2.1 < 139 ∧ r.2.2.1 = q.2.2.2.1 ∧ dm_prm r.1.desc = some q.2.2.1 ∧ (if q.1 = 2 ∨ q.1 = 4 then Cond.methodLinkNest (dm_c (k / 512)) (k % 512) r.1 "PenArm" ∈ dm_TBL else Cond.methodLink (dm_c (k / 512)) (k % 512) r.1 ∈ dm_TBL) ∧ (if q.1 = 1 ∨ q.1 = 2 then Cond.static r.1 ∈ dm_TBL else Cond.instanceMethod r.1 ∈ dm_TBL) ∧ (q.1 = 0 → Cond.selects r.1.cls r.1 r.1 ∈ dm_TBL) ∧ (q.1 = 3 ∨ q.1 = 4 → r.1.name = "<init>") ∧ (match q.2.2.2.2 with
      | 0 => r.2.2.2 = none
      | 1 => r.2.2.2 = some .int ∨ r.2.2.2 = some .boolean
      | _ => ∃ o, r.2.2.2 = some (.object o)) := by
  obtain ⟨h1, h2, h3⟩ := dm_mthw h
  unfold dc_mth at h2
  rw [h] at h2
  dsimp only at h2
  split at h2
  · omega
  · omega
  · omega
  · omega
  · omega
  · split at h2
    · cases h2
    · rename_i r hr
      simp only [Bool.and_eq_true, decide_eq_true_eq, beq_iff_eq] at h2
      obtain ⟨a1, a2, a3, a4, a5, a6, a7, a8⟩ := h2
      obtain ⟨k1, k2, k3, k4, k5, -⟩ := dm_msw a5 hr
      refine ⟨r, hr, a5, a2, a3, ?_, ?_, fun z => ?_, fun z => ?_, ?_⟩
      · by_cases z : q.1 = 2 ∨ q.1 = 4
        · rw [if_pos z]
          rw [show (Nat.beq q.1 2 || Nat.beq q.1 4) = true by rcases z with z | z <;> rw [z] <;> rfl] at a1
          exact dm_in a1 rfl
        · rw [if_neg z]
          rw [show (Nat.beq q.1 2 || Nat.beq q.1 4) = false by
            rw [Bool.or_eq_false_iff]
            exact ⟨Bool.eq_false_iff.mpr fun y => z (Or.inl (Nat.eq_of_beq_eq_true y)), Bool.eq_false_iff.mpr fun y => z (Or.inr (Nat.eq_of_beq_eq_true y))⟩] at a1
          exact dm_in a1 rfl
      · by_cases z : q.1 = 1 ∨ q.1 = 2
        · rw [if_pos z]
          rw [show (Nat.beq q.1 1 || Nat.beq q.1 2) = true by rcases z with z | z <;> rw [z] <;> rfl] at a6
          exact k4 a6
        · rw [if_neg z]
          rw [show (Nat.beq q.1 1 || Nat.beq q.1 2) = false by
            rw [Bool.or_eq_false_iff]
            exact ⟨Bool.eq_false_iff.mpr fun y => z (Or.inl (Nat.eq_of_beq_eq_true y)), Bool.eq_false_iff.mpr fun y => z (Or.inr (Nat.eq_of_beq_eq_true y))⟩] at a6
          exact k5 (by rw [a6]; decide)
      · unfold dc_sel at h3
        rw [h] at h3
        dsimp only at h3
        rw [z] at h3
        rw [show Nat.beq 0 0 = true from rfl] at h3
        simp only [cond_true] at h3
        rw [hr] at h3
        dsimp only at h3
        exact List.mem_filter.mpr ⟨List.mem_of_getElem? (of_decide_eq_true h3), rfl⟩
      · rw [show (Nat.beq q.1 3 || Nat.beq q.1 4) = true by rcases z with z | z <;> rw [z] <;> rfl] at a7
        exact of_decide_eq_true a7
      · split at a8
        · rename_i z
          have y := Nat.eq_of_beq_eq_true a8
          rw [y]
          exact z
        · rename_i z
          have y := Nat.eq_of_beq_eq_true a8
          rw [y]
          exact Or.inl z
        · rename_i z
          have y := Nat.eq_of_beq_eq_true a8
          rw [y]
          exact Or.inr z
        · rename_i o z
          have y := Nat.eq_of_beq_eq_true a8
          rw [y]
          exact ⟨o, z⟩
        · cases a8
end DC
