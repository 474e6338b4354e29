/-! SOUNDNESS 1: how a picture of the heap and of the locals lies in the machine -/
def dm_rv (sa : Nat → Nat) (b : Nat) (v : Value) : Value := match v with
  | .ref a => .ref (b + a)
  | .float k => .ref (sa k.toNat)
  | v => v
def dm_ra (b : Nat) (r : (Nat → Int32) ⊕ (Nat → Int64) ⊕ (Nat → UInt32) ⊕ (Nat → UInt64) ⊕ (Nat → Option Nat)) : (Nat → Int32) ⊕ (Nat → Int64) ⊕ (Nat → UInt32) ⊕ (Nat → UInt64) ⊕ (Nat → Option Nat) := match r with
  | .inr (.inr (.inr (.inr f))) => .inr (.inr (.inr (.inr fun j => (f j).map (fun q => b + q))))
  | r => r
def dm_re (cy : Nat → ClassId) (sa : Nat → Nat) (b : Nat) (e : dE) : va_E := match e with
  | .inl x => .inl (cy x.1, x.2.1, dm_ra b x.2.2)
  | .inr x => .inr (x.1, x.2.map (dm_rv sa b))
def dm_tys (cy : Nat → ClassId) : List (ClassId × FieldType) := [(cy 0, .int), (cy 1, .boolean), (cy 2, .object "PenArm$Leg"), (cy 3, .object "PenArm$Stroke"), (cy 4, .long)]
abbrev dm_A (b : Nat) : Nat → Prop := fun q => b ≤ q
def dm_W (D : va_G) (cy : Nat → ClassId) (sa : Nat → Nat) (b : Nat) (tb : dT) (h : dH) (U : State) (H : Heap) : Prop :=
  H.size = b + h.1 ∧ (∀ (i : Nat) (e : dE), h.2.2 i = some e → va_at D vwCl (b + i, dm_re cy sa b e) H) ∧ va_K D vwCl (dm_tys cy) U ∧ (∀ k : Nat, va_T .int (sa k) (tb k).1 (fun j => .int ((tb k).2 j)) (dm_A b) U H) ∧ (∀ k : Nat, k < 3 → va_Z "PenArm" (dm_sn k) "[I" (.ref (sa k)) (dm_A b) U H)
theorem dm_W.moved {D : va_G} {cy : Nat → ClassId} {sa : Nat → Nat} {b : Nat} {tb : dT} {h : dH} {u U : State} {H : Heap} (hvm : u.vm.Alike U.vm) (hW : dm_W D cy sa b tb h u H) : dm_W D cy sa b tb h U H :=
  ⟨hW.1, hW.2.1, va_K.moved hvm hW.2.2.1, fun k => (hW.2.2.2.1 k).moved hvm, fun k hk => (hW.2.2.2.2 k hk).moved hvm⟩
theorem dm_W.up {D : va_G} {cy : Nat → ClassId} {sa : Nat → Nat} {b : Nat} {tb : dT} {h : dH} {U : State} {H : Heap} (hW : dm_W D cy sa b tb h U H) {a : Nat} {e : dE} {H1 : Heap} (e1 : va_at D vwCl (b + a, dm_re cy sa b e) H1) (z : H1.size = H.size) (o : ∀ q : Nat, q ≠ b + a → H1[q]? = H[q]?) : dm_W D cy sa b tb (h.1, h.2.1, va_up h.2.2 a (some e)) U H1 := by
  obtain ⟨w1, w2, w3, w4, w5⟩ := hW
  have hk : ∀ q : Nat, q < H.size → ¬ dm_A b q → H1[q]? = H[q]? := fun q _ hq => o q (fun hh => hq (by show b ≤ q; omega))
  refine ⟨by rw [z]; exact w1, fun i x hx => ?_, w3, fun k => (w4 k).kept hk, fun k hk' => (w5 k hk').kept hk⟩
  by_cases hi : i = a
  · subst hi
    have hx : va_up h.2.2 i (some e) i = some x := hx
    rw [show va_up h.2.2 i (some e) i = some e by simp [va_up]] at hx
    cases hx
    exact e1
  · have hx : va_up h.2.2 a (some e) i = some x := hx
    rw [show va_up h.2.2 a (some e) i = h.2.2 i by simp [va_up, hi]] at hx
    exact (w2 i x hx).kept (o (b + i) (by omega))
theorem dm_W.new {D : va_G} {cy : Nat → ClassId} {sa : Nat → Nat} {b : Nat} {tb : dT} {h : dH} {U : State} {H : Heap} (hW : dm_W D cy sa b tb h U H) {n : Nat} {e : dE} {H1 : Heap} (e1 : va_at D vwCl (b + h.1, dm_re cy sa b e) H1) (z : H1.size = H.size + 1) (o : ∀ q : Nat, q < H.size → H1[q]? = H[q]?) : dm_W D cy sa b tb (dm_new h n e) U H1 := by
  obtain ⟨w1, w2, w3, w4, w5⟩ := hW
  refine ⟨by show H1.size = b + (h.1 + 1); omega, fun i x hx => ?_, w3, fun k => (w4 k).kept (fun q hq _ => o q hq), fun k hk' => (w5 k hk').kept (fun q hq _ => o q hq)⟩
  by_cases hi : i = h.1
  · subst hi
    have hx : va_up h.2.2 h.1 (some e) h.1 = some x := hx
    rw [show va_up h.2.2 h.1 (some e) h.1 = some e by simp [va_up]] at hx
    cases hx
    exact e1
  · have hx : va_up h.2.2 h.1 (some e) i = some x := hx
    rw [show va_up h.2.2 h.1 (some e) i = h.2.2 i by simp [va_up, hi]] at hx
    exact (w2 i x hx).kept (o (b + i) (w2 i x hx).lt)
/-- the locals -/
def dm_lv (sa : Nat → Nat) (b : Nat) (ls : List Value) : List (Nat × Value) := (List.range ls.length).filterMap fun i => match (ls[i]? : Option Value) with
  | some Value.null => none
  | some v => some (i, dm_rv sa b v)
  | none => none
theorem dm_lv_mem {sa : Nat → Nat} {b : Nat} {ls : List Value} {q : Nat × Value} : q ∈ dm_lv sa b ls ↔ ∃ v, ls[q.1]? = some v ∧ v ≠ .null ∧ q.2 = dm_rv sa b v := by
  unfold dm_lv
  rw [List.mem_filterMap]
  constructor
  · rintro ⟨i, hi, h⟩
    split at h
    · cases h
    · rename_i v hv he
      cases h
      exact ⟨v, he, fun z => hv z, rfl⟩
    · cases h
  · rintro ⟨v, h1, h2, h3⟩
    have hlt : q.1 < ls.length := (List.getElem?_eq_some_iff.mp h1).1
    refine ⟨q.1, List.mem_range.mpr hlt, ?_⟩
    rw [h1]
    cases v with
    | null => exact absurd rfl h2
    | _ =>
      show some (q.1, dm_rv sa b _) = some q
      rw [← h3]
def dm_L (sa : Nat → Nat) (b mi : Nat) (ls : List Value) (lc : Array Slot) (nL : Nat) : Prop := lv_has lc nL (dm_lv sa b ls) ∧ ls.length = nL ∧ (mi ≠ 68 → ∀ v ∈ ls, dm_two (some v) = false)
theorem dm_L.get {sa : Nat → Nat} {b mi nL i : Nat} {ls : List Value} {lc : Array Slot} {v : Value} (h : dm_L sa b mi ls lc nL) (hi : ls[i]? = some v) (hv : v ≠ .null) : lc[i]? = some (.val (dm_rv sa b v)) := h.1.2.2 (i, _) (dm_lv_mem.mpr ⟨v, hi, hv, rfl⟩)
theorem dm_two_cat {sa : Nat → Nat} {b : Nat} {v : Value} (h : (dm_rv sa b v).category = 2) : dm_two (some v) = true := by
  cases v <;> simp [dm_rv, Value.category, dm_two] at h ⊢
theorem dm_cat1 {sa : Nat → Nat} {b : Nat} {v : Value} (h : dm_two (some v) = false) : (dm_rv sa b v).category = 1 := by
  cases v <;> simp [dm_rv, Value.category, dm_two] at h ⊢
theorem dm_sto_some {mi k : Nat} {ls l : List Value} {v : Value} (h : dm_sto mi ls k v = some l) : k < ls.length ∧ l = ls.set k v ∧ (mi = 68 → 0 < k → dm_two ls[k - 1]? = false) := by
  unfold dm_sto at h
  by_cases hc : (Nat.blt k ls.length && !(Nat.beq mi 68 && (Nat.blt 0 k && dm_two ls[k - 1]?))) = true
  · rw [hc] at h
    cases h
    simp only [Bool.and_eq_true, Bool.not_eq_true', Nat.blt_eq] at hc
    refine ⟨hc.1, rfl, fun h1 h2 => ?_⟩
    have h3 := hc.2
    subst h1
    simpa [Nat.blt_eq, h2] using h3
  · rw [Bool.eq_false_iff.mpr hc] at h
    cases h
theorem dm_stoL_some {mi k : Nat} {ls l : List Value} {v : Value} (h : dm_stoL mi ls k v = some l) : k + 1 < ls.length ∧ l = (ls.set k v).set (k + 1) .null ∧ mi = 68 ∧ (0 < k → dm_two ls[k - 1]? = false) := by
  unfold dm_stoL at h
  by_cases hc : (Nat.blt (k + 1) ls.length && (Nat.beq mi 68 && !(Nat.blt 0 k && dm_two ls[k - 1]?))) = true
  · rw [hc] at h
    cases h
    simp only [Bool.and_eq_true, Bool.not_eq_true', Nat.blt_eq] at hc
    refine ⟨hc.1, rfl, Nat.eq_of_beq_eq_true hc.2.1, fun h2 => ?_⟩
    have h3 := hc.2.2
    simpa [Nat.blt_eq, h2] using h3
  · rw [Bool.eq_false_iff.mpr hc] at h
    cases h
theorem dm_L.sto {sa : Nat → Nat} {b mi nL k : Nat} {ls l : List Value} {lc lc' : Array Slot} {v : Value} (h : dm_L sa b mi ls lc nL) (hs : dm_sto mi ls k v = some l) (hv : dm_two (some v) = false) (h' : lv_has lc' nL ((k, dm_rv sa b v) :: (dm_lv sa b ls).filter (fun q => !(q.1 == k) && !(q.1 + 1 == k && q.2.category == 2)))) : dm_L sa b mi l lc' nL := by
  obtain ⟨hk, rfl, h68⟩ := dm_sto_some hs
  refine ⟨⟨h'.1, h'.2.1, fun q hq => ?_⟩, by rw [List.length_set]; exact h.2.1, fun hm u hu => ?_⟩
  · obtain ⟨u, h1, h2, h3⟩ := dm_lv_mem.mp hq
    by_cases hi : q.1 = k
    · rw [hi, List.getElem?_set_self hk] at h1
      cases h1
      have := h'.2.2 (k, dm_rv sa b v) List.mem_cons_self
      rw [hi, h3]
      exact this
    · rw [List.getElem?_set_ne (fun z => hi z.symm)] at h1
      refine h'.2.2 q (List.mem_cons_of_mem _ (List.mem_filter.mpr ⟨dm_lv_mem.mpr ⟨u, h1, h2, h3⟩, ?_⟩))
      have hcat : q.1 + 1 = k → q.2.category ≠ 2 := by
        intro hq1 hc
        rw [h3] at hc
        have h5 := dm_two_cat hc
        by_cases hm : mi = 68
        · have h6 := h68 hm (by omega)
          rw [show k - 1 = q.1 by omega, h1, h5] at h6
          cases h6
        · rw [h.2.2 hm u (List.mem_of_getElem? h1)] at h5
          cases h5
      simp only [Bool.and_eq_true, Bool.not_eq_true', beq_eq_false_iff_ne, ne_eq, Bool.and_eq_false_iff]
      refine ⟨hi, ?_⟩
      by_cases hq1 : q.1 + 1 = k
      · exact Or.inr (hcat hq1)
      · exact Or.inl hq1
  · rcases List.mem_or_eq_of_mem_set hu with hu | hu
    · exact h.2.2 hm u hu
    · rw [hu]
      exact hv
theorem dm_L.stoL {sa : Nat → Nat} {b mi nL k : Nat} {ls l : List Value} {lc lc' : Array Slot} {x : Int64} (h : dm_L sa b mi ls lc nL) (hs : dm_stoL mi ls k (.long x) = some l) (h' : lv_has lc' nL ((k, Value.long x) :: (dm_lv sa b ls).filter (fun q => !(q.1 == k) && (!(q.1 == k + 1) && !(q.1 + 1 == k && q.2.category == 2))))) : dm_L sa b mi l lc' nL := by
  obtain ⟨hk, rfl, hmi, h68⟩ := dm_stoL_some hs
  refine ⟨⟨h'.1, h'.2.1, fun q hq => ?_⟩, by rw [List.length_set, List.length_set]; exact h.2.1, fun hm => absurd hmi hm⟩
  obtain ⟨u, h1, h2, h3⟩ := dm_lv_mem.mp hq
  by_cases hj : q.1 = k + 1
  · rw [hj, List.getElem?_set_self (by rw [List.length_set]; exact hk)] at h1
    cases h1
    exact absurd rfl h2
  rw [List.getElem?_set_ne (fun z => hj z.symm)] at h1
  by_cases hi : q.1 = k
  · rw [hi, List.getElem?_set_self (by omega)] at h1
    cases h1
    have := h'.2.2 (k, Value.long x) List.mem_cons_self
    rw [hi, h3]
    exact this
  · rw [List.getElem?_set_ne (fun z => hi z.symm)] at h1
    refine h'.2.2 q (List.mem_cons_of_mem _ (List.mem_filter.mpr ⟨dm_lv_mem.mpr ⟨u, h1, h2, h3⟩, ?_⟩))
    simp only [Bool.and_eq_true, Bool.not_eq_true', beq_eq_false_iff_ne, ne_eq, Bool.and_eq_false_iff]
    refine ⟨hi, hj, ?_⟩
    by_cases hq1 : q.1 + 1 = k
    · refine Or.inr fun hc => ?_
      rw [h3] at hc
      have h5 := dm_two_cat hc
      have h6 := h68 (by omega)
      rw [show k - 1 = q.1 by omega, h1, h5] at h6
      cases h6
    · exact Or.inl hq1
/-- the words that a method may use -/
def dm_gw (w : Cond) : Bool := goodWord w || (match w with
  | .methodLinkNest _ _ _ _ => true
  | .fieldLinkNest _ _ _ _ _ _ => true
  | .arrayOver (.object _) => true
  | .declares _ => true
  | .castable _ _ => true
  | _ => false)
def dm_TBL : List Cond := lw_tbl.filter dm_gw
theorem dm_in {i : Nat} {w : Cond} (h : tables_1[i]? = some w) (hg : dm_gw w = true) : w ∈ dm_TBL := List.mem_filter.mpr ⟨List.mem_append_right _ (List.mem_of_getElem? h), hg⟩
theorem dm_warm {w : Cond} {args a' : Array Value} {s U : State} (hw : w ∈ dm_TBL) (h : w.before args s = true) (hW : s.WarmedH U.vm) : w.before a' U = true := by
  have hg := (List.mem_filter.mp hw).2
  unfold dm_gw at hg
  rw [Bool.or_eq_true] at hg
  rcases hg with hg | hg
  · exact word_at hW (good_of_word hg) h
  · split at hg
    · exact va_Nw.use rfl (va_Nw.warmM hW (va_Nw.of rfl h))
    · exact va_Nw.use rfl (va_Nw.warmF hW (va_Nw.of rfl h))
    · exact va_AO.use (va_AO.moved hW.alike (va_AO.of h))
    · exact va_Nw.use rfl (va_Nw.warmD hW (va_Nw.of rfl h))
    · exact va_Nw.use rfl (va_Nw.warmC hW (va_Nw.of rfl h))
    · cases hg
/-- the classes -/
theorem dm_cl {ci : Nat} (h : ci < 8) : vwCl[ci]? = some (dm_c ci, dm_T ci, dm_N ci) := by
  match ci, h with
  | 0, _ => rfl
  | 1, _ => rfl
  | 2, _ => rfl
  | 3, _ => rfl
  | 4, _ => rfl
  | 5, _ => rfl
  | 6, _ => rfl
  | 7, _ => rfl
theorem dm_lay0 : ∀ w ∈ u_ws (dm_c 0) (dm_T 0) (dm_N 0), w ∈ tables_1 ∧ dm_gw w = true := by decide +kernel
theorem dm_lay1 : ∀ w ∈ u_ws (dm_c 1) (dm_T 1) (dm_N 1), w ∈ tables_1 ∧ dm_gw w = true := by decide +kernel
theorem dm_lay2 : ∀ w ∈ u_ws (dm_c 2) (dm_T 2) (dm_N 2), w ∈ tables_1 ∧ dm_gw w = true := by decide +kernel
theorem dm_lay3 : ∀ w ∈ u_ws (dm_c 3) (dm_T 3) (dm_N 3), w ∈ tables_1 ∧ dm_gw w = true := by decide +kernel
theorem dm_lay4 : ∀ w ∈ u_ws (dm_c 4) (dm_T 4) (dm_N 4), w ∈ tables_1 ∧ dm_gw w = true := by decide +kernel
theorem dm_lay5 : ∀ w ∈ u_ws (dm_c 5) (dm_T 5) (dm_N 5), w ∈ tables_1 ∧ dm_gw w = true := by decide +kernel
theorem dm_lay6 : ∀ w ∈ u_ws (dm_c 6) (dm_T 6) (dm_N 6), w ∈ tables_1 ∧ dm_gw w = true := by decide +kernel
theorem dm_lay7 : ∀ w ∈ u_ws (dm_c 7) (dm_T 7) (dm_N 7), w ∈ tables_1 ∧ dm_gw w = true := by decide +kernel
theorem dm_lay {ci : Nat} (h : ci < 8) : ∀ w ∈ u_ws (dm_c ci) (dm_T ci) (dm_N ci), w ∈ dm_TBL := by
  have k : ∀ w ∈ u_ws (dm_c ci) (dm_T ci) (dm_N ci), w ∈ tables_1 ∧ dm_gw w = true := by
    match ci, h with
    | 0, _ => exact dm_lay0
    | 1, _ => exact dm_lay1
    | 2, _ => exact dm_lay2
    | 3, _ => exact dm_lay3
    | 4, _ => exact dm_lay4
    | 5, _ => exact dm_lay5
    | 6, _ => exact dm_lay6
    | 7, _ => exact dm_lay7
  exact fun w hw => List.mem_filter.mpr ⟨List.mem_append_right _ (k w hw).1, (k w hw).2⟩
theorem dm_tyk {ci : Nat} (h : ci < 8) : ∀ k, k < dm_N ci → parseFieldDescriptor (dm_T ci k).2.2.1 = some (dm_ty ci k) := by
  match ci, h with
  | 0, _ => exact tyX0_ok
  | 1, _ => exact tyX1_ok
  | 2, _ => exact tyX2_ok
  | 3, _ => exact tyX3_ok
  | 4, _ => exact tyX4_ok
  | 5, _ => exact tyX5_ok
  | 6, _ => exact tyX6_ok
  | 7, _ => exact tyX7_ok
theorem dm_nmk {ci : Nat} (h : ci < 8) : ∀ a, a < dm_N ci → ∀ b, b < dm_N ci → a ≠ b → (dm_T ci a).2.1 ≠ (dm_T ci b).2.1 := by
  match ci, h with
  | 0, _ => exact nmX0
  | 1, _ => exact nmX1
  | 2, _ => exact nmX2
  | 3, _ => exact nmX3
  | 4, _ => exact nmX4
  | 5, _ => exact nmX5
  | 6, _ => exact nmX6
  | 7, _ => exact nmX7
theorem dm_dfk {ci : Nat} (h : ci < 8) (sa : Nat → Nat) (b : Nat) : ((dm_def ci).map (dm_rv sa b)) = dm_def ci ∧ (dm_def ci).length = dm_N ci ∧ ∀ j, j < dm_N ci → defaultValue (dm_ty ci j) = vp_V (dm_def ci) j := by
  match ci, h with
  | 0, _ => exact ⟨rfl, rfl, by decide +kernel⟩
  | 1, _ => exact ⟨rfl, rfl, by decide +kernel⟩
  | 2, _ => exact ⟨rfl, rfl, by decide +kernel⟩
  | 3, _ => exact ⟨rfl, rfl, by decide +kernel⟩
  | 4, _ => exact ⟨rfl, rfl, by decide +kernel⟩
  | 5, _ => exact ⟨rfl, rfl, by decide +kernel⟩
  | 6, _ => exact ⟨rfl, rfl, by decide +kernel⟩
  | 7, _ => exact ⟨rfl, rfl, by decide +kernel⟩
