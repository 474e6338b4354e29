/-! THE CLAIM OUT OF ONE WALK OF THE LAW'S BODY. Your part is whole_start (and what it stands on); all else here is the same for every law, but numbers. -/
def R_law : String := "PenArmLaw"
def lw_P (b : Addr) (xs : List Int32) (args : Array Value) (s : State) : Prop := args = #[.ref b] ∧ s.IntsAt b xs ∧ xs.length ≤ 2048 ∧ (Jvm.Cond.and given_1 narrow_1).before args s = true
def lw_Q (_ : Array Value) (s : State) (o : Outcome) (t : State) : Prop := o = .returned (some (.int 1)) ∧ Framed s o t [] 601024 7293034
def lw_Z (below : List Frame) (a : Array Value) (s : State) : State → Prop := fun t => ∃ o, t.status = .running ∧ Ended t below o ∧ lw_Q a s o t
/-- the law's own end, with 1 on the stack, nothing written that was there before, its room as the claim has it -/
theorem lw_ret {p : Program} {l : Launch} {e : Env} {s : State} {m : MethodId} {below : List Frame} {meth : Method} {c : Code} {b : Nat} (hx : p.tables.exec = Jvm.exec) (hb : c.code = code) (hr : meth.sig.returnType = ret) (hlocks : meth.locks = false) {pc : Nat} {H : Heap} {ls : Array Slot} (hdg : decode code pc = .ok (.ireturn, 1)) : W p l e room_1 s m #[Value.ref b] below meth c H [] 601024 7293034 (lw_Z below #[Value.ref b] s) (F0 m pc ls [.int 1]) := by
  intro T hT X
  obtain ⟨fs, hret, hrun, hended, hW, hframe⟩ := X.leave (v := some (.int 1)) (hlocks := hlocks) (fun h => by rw [hr] at h; cases h)
  have hmeth' : T.vm.method? m = some meth := X.method'
  refine ⟨T.setFrames fs, ?_, .returned (some (.int 1)), hrun, hended, rfl, ⟨_, rfl⟩, hW, hframe⟩
  jvm_step X.here [X.here.top, hx, hb, hdg, hmeth', hr, ret, narrow_b1]
  (try refine ⟨rfl, ?_⟩); (try refine ⟨rfl, ?_⟩)
  first | (intro acts; rw [hret _ acts rfl rfl rfl]) | rw [hret _ _ rfl rfl rfl]
  exact Steps.refl _
/-- what holds at the law's entry: the machine, the code, the tables' words (any of lw_tbl by 'hts w (by decide +kernel)'), the script of L ints xs at the cell b, what the Statement gives of the start (any of its parts by flat_of_before) -/
def lw_At (p : Program) (s : State) (m : MethodId) (meth : Method) (c : Code) (b L : Nat) (xs : Nat → Int32) : Prop :=
  p.tables.exec = Jvm.exec ∧ c.code = code ∧ meth.sig.returnType = ret ∧ c.maxLocals = 7 ∧ s.vm.findClass R_law = some m.cls ∧ (∀ w ∈ lw_tbl, w.before #[Value.ref b] s = true) ∧ va_X b L xs s s.heap ∧ b < s.heap.size ∧ meth.locks = false ∧ (Jvm.Cond.and given_1 narrow_1).before #[Value.ref b] s = true

/-- the constant arrays, and the script -/
def dm_tb (L : Nat) (xs : Nat → Int32) : dT := fun k => match k with
  | 0 => (5, fun j => ([2, 1, 5, 30, 3] : List Int32).getD j 0)
  | 1 => (5, fun j => ([1, 1, 0, 0, 0] : List Int32).getD j 0)
  | 2 => (5, fun j => ([9, 9, 99, 999, 99] : List Int32).getD j 0)
  | _ => (L, xs)
theorem dm_lays : Cond.laysStatic "PenArm" "FIRST_PRICE" "[I" ∈ tables_1 ∧ Cond.laysStatic "PenArm" "LOWEST_PRICE" "[I" ∈ tables_1 ∧ Cond.laysStatic "PenArm" "HIGHEST_PRICE" "[I" ∈ tables_1 ∧ Cond.initialized "PenArm" ∈ tables_1 := by decide +kernel
theorem dm_laysT : Cond.laysStatic Bundle.tN "UNASSIGNED_STACK" Bundle.steD ∈ tables_1 ∧ Cond.laysStatic Bundle.tN "SUPPRESSED_SENTINEL" Bundle.listD ∈ tables_1 ∧ Cond.initialized Bundle.tN ∈ tables_1 ∧ Cond.stringRef "PenArm" 177 "no such point" ∈ tables_1 := by decide +kernel
theorem dm_strR {s : State} {args : Array Value} (h : (Cond.stringRef "PenArm" 177 "no such point").before args s = true) (h2 : (Cond.exactly (.string "PenArm" 177) "java/lang/String").before args s = true) : ∃ k : Nat, vk_R "PenArm" 177 "no such point" k s := by
  obtain ⟨a, _, _, _, ha, -⟩ := Cond.exactly_spec h2
  exact ⟨a, vk_R.of h ha⟩
set_option maxHeartbeats 4000000 in
theorem dm_start {p : Program} {e : Env} {s : State} {m : MethodId} {below : List Frame} {meth : Method} {c : Code} (l : Launch) {b L : Nat} {xs : Nat → Int32} (C0 : lw_At p s m meth c b L xs)
    (hAT : ∀ (D : va_G) (cy : Nat → ClassId) (sa : Nat → Nat) (n : Nat), dm_S l D cy sa s.heap.size (dm_tb L xs) n → dm_LAT l D cy sa s.heap.size (dm_tb L xs) n)
    {n : Nat} {h' : dH} (hrun : dm_run (dm_tb L xs) n 11 142 0 [.float 3, .null, .null, .null, .null, .null, .null] [] (0, 0, fun _ => none) = some (some (.int 1), h')) (hc1 : h'.1 ≤ 601024) (hs1 : h'.2.1 ≤ 7293034) :
    W p l e room_1 s m #[Value.ref b] below meth c s.heap [] 0 0 (lw_Z below #[Value.ref b] s) (entryFrame m ([Value.ref b] : List Value).toArray 7) := by
  obtain ⟨hx, hb, hr, hml, hown, hts, hX, hbl, hlocks, hgv⟩ := id C0
  have htsT : ∀ w ∈ dm_TBL, w.before #[Value.ref b] s = true := fun w hw => hts w (List.mem_filter.mp hw).1
  have htb : ∀ w ∈ tables_1, w.before #[Value.ref b] s = true := fun w hw => hts w (List.mem_append_right _ hw)
  have hA : ∀ a : Nat, a < s.heap.size → ¬ dm_A s.heap.size a := fun a h => Nat.not_le.mpr h
  have hkn : ∀ ci, ∃ q : ClassId × (Nat → Nat), ci < 8 → u_Kn s (dm_c ci) (dm_T ci) (dm_N ci) q.1 q.2 := by
    intro ci
    by_cases hci : ci < 8
    · have h3 := List.all_eq_true.mp dc_cl_ok ci (List.mem_range.mpr hci)
      unfold dc_cl at h3
      simp only [Bool.and_eq_true, decide_eq_true_eq] at h3
      obtain ⟨cC, iS, h⟩ := u_known (C := dm_c ci) (T := dm_T ci) (N := dm_N ci) (n := dm_N ci) htsT (dm_lay hci) (htsT _ (dm_in h3.1 rfl))
      exact ⟨(cC, iS), fun _ => h⟩
    · exact ⟨(0, fun _ => 0), fun z => absurd z hci⟩
  obtain ⟨kI, k1, comp1, f11, f12, f13⟩ := Cond.arrayClass_spec (htsT _ dm_ar_int)
  obtain ⟨kZ, k2, comp2, f21, f22, f23⟩ := Cond.arrayClass_spec (htsT _ dm_ar_boolean)
  obtain ⟨kJ, k3, comp3, f31, f32, f33⟩ := Cond.arrayClass_spec (htsT _ dm_ar_long)
  obtain ⟨comp4, kL, k4, f41, f42, f43, f44, f45⟩ := Cond.arrayOver_spec (htsT _ dm_ov_leg)
  obtain ⟨comp5, kS, k5, f51, f52, f53, f54, f55⟩ := Cond.arrayOver_spec (htsT _ dm_ov_stroke)
  obtain ⟨D, hD⟩ : ∃ D : va_G, ∀ ci, ci < 8 → u_Kn s (dm_c ci) (dm_T ci) (dm_N ci) (D.1 ci) (D.2 ci) := ⟨(fun ci => (Classical.choose (hkn ci)).1, fun ci => (Classical.choose (hkn ci)).2), fun ci h => Classical.choose_spec (hkn ci) h⟩
  obtain ⟨cy, hcy⟩ : ∃ cy : Nat → ClassId, cy = fun k => if k = 0 then kI else if k = 1 then kZ else if k = 2 then kL else if k = 3 then kS else kJ := ⟨_, rfl⟩
  have hK : va_K D vwCl (dm_tys cy) s := by
    refine ⟨fun ci q hq => ?_, fun k q hq => ?_⟩
    · have h8 : ci < 8 := (List.getElem?_eq_some_iff.mp hq).1
      rw [dm_cl h8] at hq
      cases hq
      exact hD ci h8
    · subst hcy
      match k, hq with
      | 0, hq => cases hq; exact ⟨fun n z => ⟨(fun k h => (by cases h)), k1, f12, comp1, f13⟩, f11⟩
      | 1, hq => cases hq; exact ⟨fun n z => ⟨(fun k h => (by cases h)), k2, f22, comp2, f23⟩, f21⟩
      | 2, hq => cases hq; exact ⟨fun n z => ⟨(fun k h => (by cases h)), k4, f43, comp4, f44⟩, ⟨k4, comp4, f43, f44, f41, f45⟩⟩
      | 3, hq => cases hq; exact ⟨fun n z => ⟨(fun k h => (by cases h)), k5, f53, comp5, f54⟩, ⟨k5, comp5, f53, f54, f51, f55⟩⟩
      | 4, hq => cases hq; exact ⟨fun n z => ⟨(fun k h => (by cases h)), k3, f32, comp3, f33⟩, f31⟩
      | k + 5, hq => simp [dm_tys] at hq
  have hs := flat_of_before _ hgv
  obtain ⟨t0, g0, hT0⟩ := va_Tof (tm := .static "PenArm" "FIRST_PRICE" "[I") (ty := .int) (N := 5) (f := fun j => .int ((dm_tb L xs 0).2 j)) (A := dm_A s.heap.size) (by decide) (hs _ (by decide +kernel)) (va_eqt (hs (.eq (.length (.static "PenArm" "FIRST_PRICE" "[I")) (.int 5)) (by decide +kernel))) (fun j hj => by
    match j, hj with
    | 0, _ => exact va_eqt (hs (.eq (.elem (.static "PenArm" "FIRST_PRICE" "[I") (.int 0)) (.int 2)) (by decide +kernel))
    | 1, _ => exact va_eqt (hs (.eq (.elem (.static "PenArm" "FIRST_PRICE" "[I") (.int 1)) (.int 1)) (by decide +kernel))
    | 2, _ => exact va_eqt (hs (.eq (.elem (.static "PenArm" "FIRST_PRICE" "[I") (.int 2)) (.int 5)) (by decide +kernel))
    | 3, _ => exact va_eqt (hs (.eq (.elem (.static "PenArm" "FIRST_PRICE" "[I") (.int 3)) (.int 30)) (by decide +kernel))
    | 4, _ => exact va_eqt (hs (.eq (.elem (.static "PenArm" "FIRST_PRICE" "[I") (.int 4)) (.int 3)) (by decide +kernel))) hA
  obtain ⟨t1, g1, hT1⟩ := va_Tof (tm := .static "PenArm" "LOWEST_PRICE" "[I") (ty := .int) (N := 5) (f := fun j => .int ((dm_tb L xs 1).2 j)) (A := dm_A s.heap.size) (by decide) (hs _ (by decide +kernel)) (va_eqt (hs (.eq (.length (.static "PenArm" "LOWEST_PRICE" "[I")) (.int 5)) (by decide +kernel))) (fun j hj => by
    match j, hj with
    | 0, _ => exact va_eqt (hs (.eq (.elem (.static "PenArm" "LOWEST_PRICE" "[I") (.int 0)) (.int 1)) (by decide +kernel))
    | 1, _ => exact va_eqt (hs (.eq (.elem (.static "PenArm" "LOWEST_PRICE" "[I") (.int 1)) (.int 1)) (by decide +kernel))
    | 2, _ => exact va_eqt (hs (.eq (.elem (.static "PenArm" "LOWEST_PRICE" "[I") (.int 2)) (.int 0)) (by decide +kernel))
    | 3, _ => exact va_eqt (hs (.eq (.elem (.static "PenArm" "LOWEST_PRICE" "[I") (.int 3)) (.int 0)) (by decide +kernel))
    | 4, _ => exact va_eqt (hs (.eq (.elem (.static "PenArm" "LOWEST_PRICE" "[I") (.int 4)) (.int 0)) (by decide +kernel))) hA
  obtain ⟨t2, g2, hT2⟩ := va_Tof (tm := .static "PenArm" "HIGHEST_PRICE" "[I") (ty := .int) (N := 5) (f := fun j => .int ((dm_tb L xs 2).2 j)) (A := dm_A s.heap.size) (by decide) (hs _ (by decide +kernel)) (va_eqt (hs (.eq (.length (.static "PenArm" "HIGHEST_PRICE" "[I")) (.int 5)) (by decide +kernel))) (fun j hj => by
    match j, hj with
    | 0, _ => exact va_eqt (hs (.eq (.elem (.static "PenArm" "HIGHEST_PRICE" "[I") (.int 0)) (.int 9)) (by decide +kernel))
    | 1, _ => exact va_eqt (hs (.eq (.elem (.static "PenArm" "HIGHEST_PRICE" "[I") (.int 1)) (.int 9)) (by decide +kernel))
    | 2, _ => exact va_eqt (hs (.eq (.elem (.static "PenArm" "HIGHEST_PRICE" "[I") (.int 2)) (.int 99)) (by decide +kernel))
    | 3, _ => exact va_eqt (hs (.eq (.elem (.static "PenArm" "HIGHEST_PRICE" "[I") (.int 3)) (.int 999)) (by decide +kernel))
    | 4, _ => exact va_eqt (hs (.eq (.elem (.static "PenArm" "HIGHEST_PRICE" "[I") (.int 4)) (.int 99)) (by decide +kernel))) hA
  have hini := htb _ dm_lays.2.2.2
  have hZ0 := va_Zof (htb _ dm_lays.1) hini g0 hA
  have hZ1 := va_Zof (htb _ dm_lays.2.1) hini g1 hA
  have hZ2 := va_Zof (htb _ dm_lays.2.2.1) hini g2 hA
  have hT3 : va_T .int b L (fun j => .int (xs j)) (dm_A s.heap.size) s s.heap := by
    obtain ⟨scr, h1, h2, h3, h4, h5⟩ := hX
    exact ⟨scr, h1, h2, h3, Nat.le_of_eq h4.symm, by rw [h4] <;> rfl, h5, Nat.not_le.mpr hbl⟩
  obtain ⟨sa, hsa⟩ : ∃ sa : Nat → Nat, sa = fun k => if k = 0 then t0 else if k = 1 then t1 else if k = 2 then t2 else b := ⟨_, rfl⟩
  have hW : dm_W D cy sa s.heap.size (dm_tb L xs) (0, 0, fun _ => none) s s.heap := by
    refine ⟨rfl, fun i x hx => absurd hx (by simp), hK, fun k => ?_, fun k hk => ?_⟩
    · subst hsa
      match k with
      | 0 => exact hT0
      | 1 => exact hT1
      | 2 => exact hT2
      | k + 3 => exact hT3
    · subst hsa
      match k, hk with
      | 0, _ => exact hZ0
      | 1, _ => exact hZ1
      | 2, _ => exact hZ2
  have hXX : dm_X s.heap.size s #[Value.ref b] := by
    refine ⟨vx_Zqof (htb _ dm_laysT.1) (htb _ dm_laysT.2.2.1) (hs _ (by decide +kernel)) hA, vx_Zqof (htb _ dm_laysT.2.1) (htb _ dm_laysT.2.2.1) (hs _ (by decide +kernel)) hA, ?_, hts⟩
    exact dm_strR (htb _ dm_laysT.2.2.2) (hs (.exactly (.string "PenArm" 177) "java/lang/String") (by decide +kernel))
  have hC : dm_C 142 s.heap.size p s m #[Value.ref b] meth c := ⟨hx, ⟨_, rfl, hb, hml⟩, hown, htsT, ⟨fun z => absurd z (by decide), fun _ => hXX⟩, Nat.le_refl _⟩
  have hF : dm_Fin p l e room_1 s m #[Value.ref b] below meth c (lw_Z below #[Value.ref b] s) D cy sa s.heap.size (dm_tb L xs) 142 0 0 (some (.int 1), h') := by
    intro H locs lc pc _ _ hW2 hS2 hlc hend
    refine va_forget (fun q hq => hS2.2.2 q hq) ?_
    refine W.widen (k := 601024) (n := 7293034) (by omega) (by omega) ?_
    exact lw_ret hx hb hr hlocks (by rw [← hb]; exact hend.1)
  have hgo := dm_sound_open (hAT D cy sa) n 11 142 (some (.int 1), h') p e room_1 s m #[Value.ref b] below meth c (lw_Z below #[Value.ref b] s) 0 0 hC (fun _ => ⟨by decide, by decide⟩) (by decide) (by decide) (by show h'.1 - 0 ≤ 601024; omega) (by show h'.2.1 - 0 ≤ 7293034; omega) hF 0 [.float 3, .null, .null, .null, .null, .null, .null] [] (0, 0, fun _ => none) hrun
  have hent := dm_entry (sa := sa) (b := s.heap.size) (mi := 142) (maxL := 7) (as := [.float 3]) rfl (by decide)
  have hv : ([.float 3] : List Value).map (dm_rv sa s.heap.size) = [Value.ref b] := by subst hsa; rfl
  rw [hv] at hent
  rw [lg_entry_eq]
  exact hgo s.heap [] _ (Nat.le_refl _) (Nat.le_refl _) hW va_S.rf (by rw [hml]; exact hent)
