/-! THE LAW'S OWN 'at': PenArm.at returns or throws; the throw is caught -/
section DT
variable {p : Program} {l : Launch} {e : Env} {R : Room} {s : State} {m : MethodId} {args : Array Value} {below : List Frame} {meth : Method} {c : Code} {H : Heap} {locs : List Loc} {cells slots : Nat} {Q : State → Prop}
variable {free : Addr → Prop} {ls : Array Slot} {rest : List Value}
variable {Qc : Array Value → State → Outcome → State → Prop} {XC : String → State → State → Prop}
/-- the kit's vx_throwS, and that the heap has just one cell more -/
theorem dm_throwS {cc : ByteArray} {pc : Nat} (hexec : p.tables.exec = Jvm.exec) (hb : c.code = cc) (hl : l.stackTraces = false) {own cls sup text : String} {names : List String} {ik is ic kx mc ms sa : Nat} {bx : ByteArray} {A : Nat → Prop}
    (hown : s.vm.findClass own = some m.cls) (hcls : Bundle.fit cls = true) (hsup : Bundle.fit sup = true) (hb0 : decode bx 0 = .ok (.aload_n 0, 1)) (hb1 : decode bx 1 = .ok (.aload_n 1, 1)) (hb2 : decode bx 2 = .ok (.invokespecial kx, 3)) (hb5 : decode bx 5 = .ok (.return_, 1)) (hnames : ∀ n ∈ names, Bundle.fit n = true)
    (hk : (Cond.classLink own ik cls).before args s = true) (hini : (Cond.initialized cls).before args s = true) (hstr : vk_R own is text sa s) (hat : ∀ w ∈ (dm_ownA own ic cls sup kx bx names).filter vx_no, w.before args s = true)
    (hgood : ∀ w ∈ Cond.classLink own ik cls :: Cond.initialized cls :: (dm_ownA own ic cls sup kx bx names).filter vx_no, vx_ot w = true)
    (hU : vx_Zq Bundle.tN "UNASSIGNED_STACK" Bundle.steD A s s.heap) (hN : vx_Zq Bundle.tN "SUPPRESSED_SENTINEL" Bundle.listD A s s.heap) (hS : va_S A s.heap H locs) (hsize : ls.size = c.maxLocals)
    (d0 : decode cc pc = .ok (.new ik, 3)) (d3 : decode cc (pc + 3) = .ok (.dup, 1)) (d4 : decode cc (pc + 4) = .ok (.ldc is, 2)) (d6 : decode cc (pc + 6) = .ok (.invokespecial ic, 3)) (d9 : decode cc (pc + 9) = .ok (.athrow, 1))
    (hout : ∀ x ∈ c.exceptionTable.toList, covers x (pc + 9) = false)
    (hRframes : names.length + 4 < R.frames) (hRlocals : (rest.map fun v => v.category).sum + (13 * (names.length + 2) + 43) ≤ R.locals) (hRcells : cells + 1 ≤ R.cells) (hRslots : slots + 6 ≤ R.slots) (hlocks : meth.locks = false)
    (hx : ∀ t : State, s.vm.Alike t.vm → t.heap.size = H.size + 1 → (∀ q : Nat, q < H.size → t.heap[q]? = H[q]?) → XC cls s t)
    (hf : ∀ z ∈ locs, free z.base) (hc : cells + 1 ≤ mc) (hs : slots + 6 ≤ ms) :
    W p l e R s m args below meth c H locs cells slots (vx_MQ below Qc XC args s mc ms free) (F0 m pc ls rest) := by
  intro T hT X
  have htr : e.platform.stackTraces = false := (show e.platform.stackTraces = l.stackTraces by rw [X.admits.platform]).trans hl
  have Y := vx_rebase X (R' := { frames := R.frames, locals := R.locals, cells := 1, slots := 6 }) (Nat.le_refl _) (Nat.le_refl _) hRcells hRslots
  obtain ⟨s', hA⟩ : ∃ z, z = (T.setVm s.vm).setFrames (.invoking m args :: below) := ⟨_, rfl⟩
  rw [← hA] at Y
  have hvm : s'.vm = s.vm := by rw [hA]; rfl
  have hhp : s'.heap = H := by rw [hA]; exact hT
  have hW0 : s.WarmedH s'.vm := by rw [hvm]; exact State.WarmedH.refl s
  have hat' : ∀ w ∈ (dm_ownA own ic cls sup kx bx names).filter vx_no, w.before args s' = true := fun w hw => vx_ot_at hW0 hvm.symm (hgood w (List.mem_cons_of_mem _ (List.mem_cons_of_mem _ hw))) (hat w hw)
  have hk' : (Cond.classLink own ik cls).before args s' = true := vx_ot_at hW0 hvm.symm (hgood _ List.mem_cons_self) hk
  have hini' : (Cond.initialized cls).before args s' = true := vx_ot_at hW0 hvm.symm (hgood _ (List.mem_cons_of_mem _ List.mem_cons_self)) hini
  have hU' : vx_Zq Bundle.tN "UNASSIGNED_STACK" Bundle.steD A s' s'.heap := by rw [hhp]; exact vx_Zq.moved hW0.alike (hU.kept hS.2.1)
  have hN' : vx_Zq Bundle.tN "SUPPRESSED_SENTINEL" Bundle.listD A s' s'.heap := by rw [hhp]; exact vx_Zq.moved hW0.alike (hN.kept hS.2.1)
  have h : ∀ w ∈ dm_ownA own ic cls sup kx bx names, w.before args s' = true := vx_own hat' (vx_isRefq hU'.1) (vx_isRefq hN'.1) hU'.2.word hN'.2.word
  have hown' : s'.vm.findClass own = some m.cls := by rw [hvm]; exact hown
  have hins : (Cond.instantiable cls 6).before args s' = true := h _ (by simp [dm_ownA])
  obtain ⟨vm₁, cX, kX, hfX, hkX, -, -, X₁, st1⟩ := Y.newCold hexec (own := own) (C := cls) (index := ik) (n := 6) hown' hk' hins hini'
    (g := F0 m pc ls rest) rfl (by rw [hb]; exact d0) (Nat.le_refl _) (Nat.le_refl _)
  generalize hT1 : (T.setVm vm₁).pushCell { cls := cX, slots := kX.instanceTypes.map defaultValue, vm := .none } = T1 at X₁ st1
  have hcat : (Value.ref T.heap.size).category = 1 := rfl
  have hcellA : T1.heap[T.heap.size]? = some (freshCell cX kX) := by rw [← hT1]; exact State.heap_pushCell_size _ _
  have d3' : decode c.code (pc + 3) = .ok (.dup, 1) := by rw [hb]; exact d3
  have d4' : decode c.code (pc + 4) = .ok (.ldc is, 2) := by rw [hb]; exact d4
  have hstr' : vk_R own is text sa s' := vk_R.warm hW0 hstr
  obtain ⟨U, hsteps, hrun, hend, hW, hsame, ce, hce, hv9, hO⟩ := dm_ctorThrow X₁ hexec htr (own := own) (cls := cls) (sup := sup) (names := names) (ic := ic) hown' hcls hsup hnames hb0 hb1 hb2 hb5 h (fun x hx => nomatch hx) hfX hkX hcellA (by rw [hhp, hT]; exact Nat.le_refl _) (msg := .ref sa) rfl
    (g := { method := m, pc := pc + 6, locals := ls, stack := .ref sa :: .ref T.heap.size :: .ref T.heap.size :: rest, locked := none }) rfl hsize rfl rfl (rest := rest) rfl
    (by rw [hb]; exact d6) (by rw [hb]; exact d9) hout hRframes (by simp only [List.map_cons, List.sum_cons, hcat]; omega) hlocks
  obtain ⟨f1, f2⟩ := vx_frame hsame
  have f4 : U.heap.size ≤ s'.heap.size + 1 := hsame.2.2.1
  rw [hhp] at f1 f2 f4
  have f3 : U.heap.size = H.size + 1 := by
    have h7 : T.heap.size < U.heap.size := (Array.getElem?_eq_some_iff.mp hce).1
    rw [hT] at h7
    omega
  have hWs : s.WarmedH U.vm := State.WarmedH.trans hW0 hW
  have hcl : s.vm.findClass cls = some ce.cls := by
    have h9 := hO
    rw [hvm] at h9
    exact h9
  have hall : s.sameButNew ({ U with vm := s.vm } : State) locs mc ms := by
    subst hA
    obtain ⟨e1, e2⟩ := hsame
    rw [State.setFrames_setFrames] at e1
    have h2 : (T.setVm s.vm).sameButNew ({ U with vm := s.vm } : State) [] (0 + 1) (0 + 6) := ⟨e1, e2⟩
    have h3 := X.same.trans h2
    rw [List.append_nil] at h3
    exact h3.mono hc hs
  refine ⟨U, ?_, .threw T.heap.size, hrun, hend, Or.inr ⟨T.heap.size, rfl, cls, ce, locs, hx U hWs.alike f3 (fun q hq => f2 q hq (fun z hz => nomatch hz)), hce, hv9, hcl, hWs, hall, hf⟩⟩
  refine st1 _ ?_
  show Steps p.tables e below (T1.setTop { method := m, pc := pc + 3, locals := ls, stack := .ref T.heap.size :: rest, locked := none }) _
  jvm_step X₁.here [X₁.here.top, hexec, d3', Value.category]
  exact X₁.ldcString hexec (own := own) (text := text) (index := is) (a := sa) hown' hstr'.1 hstr'.2
    (g := { method := m, pc := pc + 4, locals := ls, stack := .ref T.heap.size :: .ref T.heap.size :: rest, locked := none }) rfl d4' _ hsteps
end DT
/-- a method with a table of handlers that never throws itself -/
theorem dm_ofWH {l : Launch} {y : MethodName} {ws ws' : List Cond} {rm : Room} {Pc : Array Value → State → Prop} {Qc : Array Value → State → Outcome → State → Prop} {mc ms : Nat} {free : Addr → Prop} {cc : ByteArray} {maxL : Nat} {ret : Option FieldType} {hh : List (Nat × Nat × Nat × Nat)}
    (hy : plainName y.cls = true) (hw : ws = Cond.codeWith y cc maxL ret hh :: ws')
    (body : ∀ p e s m args below meth c s₁, BodyLoose p l y (headSpec ws rm) cc maxL ret e s m args below meth c s₁ → c.maxLocals = maxL → Pc args s →
      W p l e (headSpec ws rm).room s m args below meth c s.heap [] 0 0 (MQ below Qc args s mc ms free) (entryFrame m args maxL)) : Met l y ws rm Pc Qc mc ms free := by
  refine MetFree.of_bodyS (code := cc) (maxLocals := maxL) (ret := ret) hy ?_ ?_
  · intro args s m h hn
    obtain ⟨m9, meth, c, hn9, h1, h2, h3, h4, -, h5, h6, -⟩ := Cond.codeWith_spec (atoms_spec (ws := ws) h _ (by rw [hw]; exact List.mem_cons_self))
    cases hn.symm.trans hn9
    exact ⟨meth, c, h1, h2, h3, h4, h5, h6⟩
  · intro p e s m args below meth c s₁ B hml hP _
    have hh0 : s₁.heap = s.heap := by rw [B.state]; rfl
    obtain ⟨t, a1, o, b1, b2, b3⟩ := body p e s m args below meth c s₁ B hml hP s₁ hh0 (Stand.of_body B)
    exact ⟨t, o, a1, b1, b2, ⟨b3.1, b3.2⟩⟩
def dm_NSE : String := "java/util/NoSuchElementException"
def dm_RTE : String := "java/lang/RuntimeException"
def dm_nms : List String := ["java/lang/Exception"]
theorem dm_atS1 : ∀ w ∈ (dm_ownA "PenArm" 179 dm_NSE dm_RTE 13 prog_16_method_4_code dm_nms).filter vx_no, w ∈ lw_tbl := by decide +kernel
theorem dm_atS2 : ∀ w ∈ (dm_ownA "PenArm" 179 dm_NSE dm_RTE 13 prog_16_method_4_code dm_nms).filter vx_no, dm_gw w = true := by decide +kernel
theorem dm_atS : ∀ w ∈ (dm_ownA "PenArm" 179 dm_NSE dm_RTE 13 prog_16_method_4_code dm_nms).filter vx_no, w ∈ dm_TBL := fun w hw => List.mem_filter.mpr ⟨dm_atS1 w hw, dm_atS2 w hw⟩
theorem dm_bx : decode prog_16_method_4_code 0 = .ok (.aload_n 0, 1) ∧ decode prog_16_method_4_code 1 = .ok (.aload_n 1, 1) ∧ decode prog_16_method_4_code 2 = .ok (.invokespecial 13, 3) ∧ decode prog_16_method_4_code 5 = .ok (.return_, 1) := by decide +kernel
theorem dm_atG : ∀ w ∈ Cond.classLink "PenArm" 175 dm_NSE :: Cond.initialized dm_NSE :: (dm_ownA "PenArm" 179 dm_NSE dm_RTE 13 prog_16_method_4_code dm_nms).filter vx_no, vx_ot w = true := by decide +kernel
theorem dm_atL : Cond.classLink "PenArm" 175 dm_NSE ∈ tables_1 ∧ Cond.initialized dm_NSE ∈ tables_1 ∧ Cond.classLink "PenArmLaw" 13 dm_NSE ∈ tables_1 ∧ Cond.castable dm_NSE dm_NSE ∈ tables_1 ∧ Cond.static yL_at ∈ tables_1 ∧ Cond.methodLink "PenArmLaw" 82 yL_at ∈ tables_1 ∧ Cond.initialized "PenArmLaw" ∈ tables_1 := by decide +kernel
abbrev dm_hh : List (Nat × Nat × Nat × Nat) := [(0, 12, 15, 13)]
set_option maxRecDepth 20000 in
theorem dm_atC : Cond.codeWith yL_at cL_at 6 (some .int) dm_hh ∈ lw_tbl := List.mem_append_right _ (List.mem_of_getElem? (i := 696) rfl)
theorem dm_d85 : decode cX6_at 33 = .ok (.new 175, 3) ∧ decode cX6_at 36 = .ok (.dup, 1) ∧ decode cX6_at 37 = .ok (.ldc 177, 2) ∧ decode cX6_at 39 = .ok (.invokespecial 179, 3) ∧ decode cX6_at 42 = .ok (.athrow, 1) := by decide +kernel
theorem dm_e0 : decode cL_at 0 = .ok (.aload 4, 2) := by decide +kernel
theorem dm_e2 : decode cL_at 2 = .ok (.iconst 0, 1) := by decide +kernel
theorem dm_e3 : decode cL_at 3 = .ok (.aload_n 0, 1) := by decide +kernel
theorem dm_e4 : decode cL_at 4 = .ok (.iload_n 1, 1) := by decide +kernel
theorem dm_e5 : decode cL_at 5 = .ok (.iload_n 2, 1) := by decide +kernel
theorem dm_e6 : decode cL_at 6 = .ok (.iload_n 3, 1) := by decide +kernel
theorem dm_e7 : decode cL_at 7 = .ok (.invokevirtual 7, 3) := by decide +kernel
theorem dm_e10 : decode cL_at 10 = .ok (.i2l, 1) := by decide +kernel
theorem dm_e11 : decode cL_at 11 = .ok (.lastore, 1) := by decide +kernel
theorem dm_e12 : decode cL_at 12 = .ok (.goto 7, 3) := by decide +kernel
theorem dm_e15 : decode cL_at 15 = .ok (.astore 5, 2) := by decide +kernel
theorem dm_e17 : decode cL_at 17 = .ok (.iconst 1, 1) := by decide +kernel
theorem dm_e18 : decode cL_at 18 = .ok (.ireturn, 1) := by decide +kernel
theorem dm_e19 : decode cL_at 19 = .ok (.iconst 0, 1) := by decide +kernel
theorem dm_e20 : decode cL_at 20 = .ok (.ireturn, 1) := by decide +kernel
section DL
variable {l : Launch} {D : va_G} {cy : Nat → ClassId} {sa : Nat → Nat} {b : Nat} {tb : dT} {n d x : Nat} {p0 p1 p2 : Int32} {h g1 : dH}
/-- what the callees of the law's 'at' find -/
def dm_WX (D : va_G) (cy : Nat → ClassId) (sa : Nat → Nat) (b : Nat) (tb : dT) (k : Nat) (h : dH) (U : State) : Prop := dm_W D cy sa b tb h U U.heap ∧ vx_Zq Bundle.tN "UNASSIGNED_STACK" Bundle.steD (dm_A b) U U.heap ∧ vx_Zq Bundle.tN "SUPPRESSED_SENTINEL" Bundle.listD (dm_A b) U U.heap ∧ vk_R "PenArm" 177 "no such point" k U
theorem dm_blindX {k : Nat} {av : List Value} : FrameBlind (va_Pc av (fun U => dm_WX D cy sa b tb k h U)) := fun a U g mk q => ⟨q.1, dm_W.moved (u := U) (U := U.calling g mk a) (Vm.Alike.refl U.vm) q.2.1, vx_Zq.moved (u := U) (U := U.calling g mk a) (Vm.Alike.refl U.vm) q.2.2.1, vx_Zq.moved (u := U) (U := U.calling g mk a) (Vm.Alike.refl U.vm) q.2.2.2.1, vk_R.same rfl q.2.2.2.2⟩
/-- PenArm.at where it throws -/
theorem dm_at85 (hS : dm_S l D cy sa b tb n) (hl : l.stackTraces = false) {w k F Lo : Nat} (hrun : dm_run tb n d 85 0 [.ref x, .int p0, .int p1, .int p2, .null] [] h = some (some (.retAddr w), g1)) (hF : d ≤ F) (h6 : 6 ≤ F) (hLo : 32 * d ≤ Lo) (h82 : 82 ≤ Lo) :
    vx_Met l yX6_at (.code yX6_at cX6_at 5 (some .int) :: dm_TBL) { frames := F, cells := g1.1 - h.1 + 1, slots := g1.2.1 - h.2.1 + 6, locals := Lo } (va_Pc [.ref (b + x), .int p0, .int p1, .int p2] (fun U => dm_WX D cy sa b tb k h U))
      (va_Qi (fun (_ : Int32) (_ : Unit) => False) (fun _ _ => True) (dm_A b)) (vx_X (fun _ : Unit => True) (fun E _ t => E = dm_NSE ∧ dm_W D cy sa b tb (g1.1 + 1, g1.2.1 + 6, g1.2.2) t t.heap) (dm_A b)) (g1.1 - h.1 + 1) (g1.2.1 - h.2.1 + 6) (dm_A b) := by
  refine vx_ofW (cc := cX6_at) (maxL := 5) (ret := some .int) (by decide) rfl ?_
  intro p e s m args below meth c s₁ B hml hex hv
  obtain ⟨rfl, hW, hU, hN, hstr⟩ := hv
  have hx := B.exec
  have hb := B.bytes
  have hts := atoms_spec (ws := .code yX6_at cX6_at 5 (some .int) :: dm_TBL) B.pre
  have htsT : ∀ w ∈ dm_TBL, w.before _ s = true := fun w hw => hts w (List.mem_cons_of_mem _ hw)
  have hown : s.vm.findClass "PenArm" = some m.cls := findClass_of_methodNamed B.named
  have hlocks := B.notSynchronized
  have hmm := dm_mono n hrun
  have hent := dm_entry (sa := sa) (b := b) (mi := 85) (maxL := 5) (as := [.ref x, .int p0, .int p1, .int p2]) rfl (Nat.le_of_ble_eq_true rfl)
  rw [lg_entry_eq]
  have hfin : dm_Fin p l e { frames := F, cells := g1.1 - h.1 + 1, slots := g1.2.1 - h.2.1 + 6, locals := Lo } s m ([.ref (b + x), .int p0, .int p1, .int p2] : List Value).toArray below meth c (vx_MQ below (va_Qi (fun (_ : Int32) (_ : Unit) => False) (fun _ _ => True) (dm_A b)) (vx_X (fun _ : Unit => True) (fun E _ t => E = dm_NSE ∧ dm_W D cy sa b tb (g1.1 + 1, g1.2.1 + 6, g1.2.2) t t.heap) (dm_A b)) ([.ref (b + x), .int p0, .int p1, .int p2] : List Value).toArray s (g1.1 - h.1 + 1) (g1.2.1 - h.2.1 + 6) (dm_A b)) D cy sa b tb 85 h.1 h.2.1 (some (.retAddr w), g1) := by
    intro H locs lc pc _ _ hW2 hS2 hlc hend
    obtain ⟨-, rfl⟩ := hend
    have hin : ∀ w ∈ tables_1, dm_gw w = true → w ∈ dm_TBL := fun w h1 h2 => List.mem_filter.mpr ⟨List.mem_append_right _ h1, h2⟩
    refine dm_throwS (names := dm_nms) (own := "PenArm") (cls := dm_NSE) (sup := dm_RTE) (kx := 13) (bx := prog_16_method_4_code) (text := "no such point") (ik := 175) (is := 177) (ic := 179) (sa := k) (A := dm_A b) (rest := []) hx hb hl hown (by decide) (by decide) dm_bx.1 dm_bx.2.1 dm_bx.2.2.1 dm_bx.2.2.2 (by decide) (htsT _ (hin _ dm_atL.1 rfl)) (htsT _ (hin _ dm_atL.2.1 rfl)) hstr (fun w hw => htsT w (dm_atS w hw)) dm_atG hU hN hS2 hlc dm_d85.1 dm_d85.2.1 dm_d85.2.2.1 dm_d85.2.2.2.1 dm_d85.2.2.2.2 (fun x hx => (hex x hx).elim) (by show 1 + 4 < F; omega) (by show 0 + (13 * (1 + 2) + 43) ≤ Lo; omega) (by show g1.1 - h.1 + 1 ≤ g1.1 - h.1 + 1; omega) (by show g1.2.1 - h.2.1 + 6 ≤ g1.2.1 - h.2.1 + 6; omega) hlocks ?_ hS2.2.2 (Nat.le_refl _) (Nat.le_refl _)
    intro t hal hz ho
    have hW3 := dm_W.moved hal hW2
    obtain ⟨w1, w2, w3, w4, w5⟩ := hW3
    have w1 : H.size = b + g1.1 := w1
    refine ⟨(), trivial, ⟨rfl, by show t.heap.size = b + (g1.1 + 1); omega, fun i y hy => (w2 i y hy).kept (ho _ (w2 i y hy).lt), w3, fun k => (w4 k).kept (fun q hq _ => ho q hq), fun k hk => (w5 k hk).kept (fun q hq _ => ho q hq)⟩, ?_⟩
    exact ⟨by have := hS2.1; omega, fun q h1 h2 => (ho q (Nat.lt_of_lt_of_le h1 hS2.1)).trans (hS2.2.1 q h1 h2)⟩
  have hgo := hS d 85 (some (.retAddr w), g1) p e { frames := F, cells := g1.1 - h.1 + 1, slots := g1.2.1 - h.2.1 + 6, locals := Lo } s m ([.ref (b + x), .int p0, .int p1, .int p2] : List Value).toArray below meth c _ h.1 h.2.1
    ⟨hx, ⟨_, rfl, hb, hml⟩, hown, htsT, ⟨fun z => absurd z (by decide), fun z => absurd z (by decide)⟩, by rw [hW.1]; omega⟩ (fun z => absurd z (by decide)) hF hLo (by show g1.1 - h.1 ≤ g1.1 - h.1 + 1; omega) (by show g1.2.1 - h.2.1 ≤ g1.2.1 - h.2.1 + 6; omega) hfin 0 [.ref x, .int p0, .int p1, .int p2, .null] [] h hrun s.heap [] _ (Nat.le_refl _) (Nat.le_refl _) hW va_S.rf (by rw [hml]; exact hent)
  rw [Nat.sub_self, Nat.sub_self] at hgo
  exact hgo
end DL
