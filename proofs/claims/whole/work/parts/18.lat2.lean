/-! THE LAW'S OWN 'at' 2: its two ways, and the law's call of it -/
theorem dm_rlst {p : Program} {l : Launch} {e : Env} {R : Room} {s : State} {m : MethodId} {args : Array Value} {below : List Frame} {meth : Method} {c : Code} {H H0 : Heap} {locs : List Loc} {cells slots : Nat} {Q : State → Prop} {D : va_G} {cy : Nat → ClassId} {sa : Nat → Nat} {b : Nat} {tb : dT} {h : dH} {cc : ByteArray} {pc a : Nat} {lc : Array Slot} {rest : List Value} {i : Int32} {x : Int64} {r : Nat × (Nat → Int64)} (hx : p.tables.exec = Jvm.exec) (hb : c.code = cc) (hW : dm_W D cy sa b tb h s H) (hS : va_S (dm_A b) H0 H locs) (ho : dm_rowL h a = some r) (hin : vp_in i r.1) (hd : decode cc pc = .ok (.lastore, 1))
    (kk : ∀ (H1 : Heap) (locs1 : List Loc), dm_W D cy sa b tb (h.1, h.2.1, va_up h.2.2 a (some (.inl (4, r.1, .inr (.inl (vp_updL r.2 i.toNatClampNeg x)))))) s H1 → va_S (dm_A b) H0 H1 locs1 → W p l e R s m args below meth c H1 locs1 cells slots Q (F0 m (pc + 1) lc rest)) : W p l e R s m args below meth c H locs cells slots Q (F0 m pc lc (.long x :: .int i :: .ref (b + a) :: rest)) := by
  have hat : H[b + a]? = some (vp_cell (cy 4) (r.1, .inr (.inl r.2))) := hW.2.1 a _ (dm_rowL_some ho)
  refine W.last hx hb hat ((hW.2.2.1.2 4 (cy 4, .long) rfl).1 r.1 (fun j => .long (r.2 j))) (fun q => by cases q) (by show ¬ (i < 0 ∨ (arrV _ _ _).slots.size ≤ _); rw [arrV_size]; exact hin) rfl rfl hd fun H1 e1 z oq => ?_
  refine kk H1 _ (hW.up (e := .inl (4, r.1, .inr (.inl (vp_updL r.2 i.toNatClampNeg x)))) ?_ z oq) (hS.put z oq (show b ≤ b + a by omega))
  show H1[b + a]? = some (vp_cell (cy 4) (r.1, .inr (.inl _)))
  rw [e1, vp_cell_l, vp_cell_l, arrV_store]
  congr 2
  funext q
  by_cases hq : q = i.toNatClampNeg
  · subst hq
    simp [updV, vp_updL]
  · simp [updV, vp_updL, hq]
section DL
variable {l : Launch} {D : va_G} {cy : Nat → ClassId} {sa : Nat → Nat} {b : Nat} {tb : dT} {n d x out : Nat} {p0 p1 p2 : Int32} {h g1 : dH}
set_option maxHeartbeats 2000000 in
theorem dm_latI (hS : dm_S l D cy sa b tb n) {y : Int32} {g2 : dH} (hrun : dm_run tb n d 85 0 [.ref x, .int p0, .int p1, .int p2, .null] [] h = some (some (.int y), g1)) (hst : dm_stL g1 out 0 y.toInt64 = some g2) (hobj : (dm_obj h x 6).isSome = true) :
    Met l yL_at (.codeWith yL_at cL_at 6 (some .int) dm_hh :: dm_TBL) { frames := d + 1, cells := g1.1 - h.1, slots := g1.2.1 - h.2.1, locals := 32 * d + 24 } (va_Pc [.ref (b + x), .int p0, .int p1, .int p2, .ref (b + out)] (fun U => dm_W D cy sa b tb h U U.heap)) (dm_Qc D cy sa b tb (some (.int 0), g2)) (g1.1 - h.1) (g1.2.1 - h.2.1) (dm_A b) := by
  refine dm_ofWH (cc := cL_at) (maxL := 6) (ret := some .int) (hh := dm_hh) (by decide) rfl ?_
  intro p e s m args below meth c s₁ B hml hv
  obtain ⟨rfl, hWv⟩ := hv
  have hx := B.exec
  have hb := B.bytes
  have hr := B.returns
  have hts0 := atoms_spec (ws := .codeWith yL_at cL_at 6 (some .int) dm_hh :: dm_TBL) B.pre
  have hts : ∀ w ∈ dm_TBL, w.before _ s = true := fun w hw => hts0 w (List.mem_cons_of_mem _ hw)
  have hown : s.vm.findClass "PenArmLaw" = some m.cls := findClass_of_methodNamed B.named
  have hlocks := B.notSynchronized
  rw [lg_entry_eq]
  have hl := lv_entry ([.ref (b + x), .int p0, .int p1, .int p2, .ref (b + out)]) (n := 6) (Nat.le_of_ble_eq_true rfl)
  generalize (lg_sl ([.ref (b + x), .int p0, .int p1, .int p2, .ref (b + out)]) ++ List.replicate (6 - (lg_sl ([.ref (b + x), .int p0, .int p1, .int p2, .ref (b + out)])).length) Slot.unset).toArray = ls at hl ⊢
  have hl : lv_has ls 6 [(0, .ref (b + x)), (1, .int p0), (2, .int p1), (3, .int p2), (4, .ref (b + out))] := hl
  refine lv_aload hx hb dm_e0 (lv_at hl 4 rfl) ?_
  refine lv_iconst (v := 0) hx hb dm_e2 (by decide) ?_
  refine lv_aload_n hx hb dm_e3 rfl (lv_at hl 0 rfl) ?_
  refine lv_iload_n hx hb dm_e4 rfl (lv_at hl 1 rfl) ?_
  refine lv_iload_n hx hb dm_e5 rfl (lv_at hl 2 rfl) ?_
  refine lv_iload_n hx hb dm_e6 rfl (lv_at hl 3 rfl) ?_
  obtain ⟨fs, hfs⟩ := Option.isSome_iff_exists.mp hobj
  obtain ⟨w1, w2, w3, -, -, w6, w7, w8, w9, w10, w11⟩ := dm_msw (t := 85) (by decide) (show dm_ms[85]? = some (yX6_at, cX6_at, 5, some .int) from rfl)
  obtain ⟨r0, hr0, -, -, hprm, hlink, hstat, hsel, -, -⟩ := dm_mthm (show dg_mth 5127 = some (0, 85, 3, 5, 1) from rfl) (by decide)
  cases hr0
  have hlink : Cond.methodLink "PenArmLaw" 7 yX6_at ∈ dm_TBL := hlink
  have hstat : Cond.instanceMethod yX6_at ∈ dm_TBL := hstat
  have hsel : Cond.selects "PenArm" yX6_at yX6_at ∈ dm_TBL := hsel rfl
  have hwsA : ∀ w ∈ (Cond.code yX6_at cX6_at 5 (some .int) :: dm_TBL), ∀ (a' : Array Value) (U : State), s.WarmedH U.vm → w.before a' U = true := by
    intro w hw a' U hWm
    rcases List.mem_cons.mp hw with rfl | hw
    · exact dm_warm w1 (hts _ w1) hWm
    · exact dm_warm hw (hts _ hw) hWm
  have hsig : ∀ sig, parseMethodDescriptor yX6_at.desc = some sig → 3 = sig.parameters.length := by
    intro sig hs
    unfold dm_prm at hprm
    have hprm : Option.map (fun d => d.parameters.length) (parseMethodDescriptor yX6_at.desc) = some 3 := hprm
    rw [hs] at hprm
    exact (Option.some.inj hprm).symm
  have hW := hWv
  obtain ⟨rr, hrr, cellB, q1, q2, q3, -⟩ := hW.2.1 x _ (dm_obj_some hfs)
  have hM := dm_met hS (t := 85) (as := [.ref x, .int p0, .int p1, .int p2]) (show dm_ms[85]? = some (yX6_at, cX6_at, 5, some .int) from rfl) (by decide) hrun rfl (Nat.le_of_ble_eq_true rfl) (Or.inr (Or.inl ⟨y, rfl, Or.inl rfl⟩))
  obtain ⟨r, hrow, hin, rfl⟩ := dm_stL_some hst
  refine dm_callK (v := (some (.int y), g1)) (va_runV (C := "PenArm") (b := b + x) (As := [.int p0, .int p1, .int p2]) (rest := [.int 0, .ref (b + out)]) ⟨hx, hb, hml, hown, hts⟩ hM ⟨⟨rfl, rfl, Nat.le_refl _, by show 8 + (5 + 11) + 32 * d ≤ 32 * d + 24; omega, hwsA, List.mem_cons_self, hts _ w1, hts _ w3, ⟨w9, w10⟩, hsig, hts _ hlink⟩, hts _ hstat, hts _ hsel⟩ ⟨dm_blind, ⟨cellB, q1, by rw [q3]; rfl, by rw [q2]; exact (hW.2.2.1.1 6 _ (dm_cl (by decide))).2.1⟩, fun U hU hWm => ⟨rfl, by show dm_W D cy sa b tb h U U.heap; rw [hU]; exact dm_W.moved hWm.alike hW⟩⟩ rfl rfl hl.1 rfl (lv_room (Nat.le_of_ble_eq_true rfl)) dm_e7 ⟨by show 0 + (g1.1 - h.1) ≤ g1.1 - h.1; omega, by show 0 + (g1.2.1 - h.2.1) ≤ g1.2.1 - h.2.1; omega⟩) va_S.rf (fun H1 locs1 hW1 hS1 => ?_)
  rw [Nat.zero_add, Nat.zero_add]
  refine lv_i2l hx hb dm_e10 rfl ?_
  refine dm_rlst (h := g1) hx hb hW1 hS1 hrow hin dm_e11 (fun H2 locs2 hW2 hS2 => ?_)
  refine lv_goto (tgt := 19) hx hb dm_e12 (by decide) ?_
  refine lv_iconst (v := 0) hx hb dm_e19 (by decide) ?_
  exact W.iret hx hb hr (fun t ht hWm => ⟨⟨rfl, by rw [ht]; exact dm_W.moved hWm.alike hW2⟩, hS2.F ht⟩) hS2.2.2 dm_e20
set_option maxHeartbeats 2000000 in
theorem dm_latX (hS : dm_S l D cy sa b tb n) (hls : l.stackTraces = false) {w k F Lo : Nat} (hrun : dm_run tb n d 85 0 [.ref x, .int p0, .int p1, .int p2, .null] [] h = some (some (.retAddr w), g1)) (hobj : (dm_obj h x 6).isSome = true) (hF : d ≤ F) (h6 : 6 ≤ F) (hLo : 32 * d ≤ Lo) (h82 : 82 ≤ Lo) :
    Met l yL_at (.codeWith yL_at cL_at 6 (some .int) dm_hh :: dm_TBL) { frames := F + 1, cells := g1.1 - h.1 + 1, slots := g1.2.1 - h.2.1 + 6, locals := Lo + 24 } (va_Pc [.ref (b + x), .int p0, .int p1, .int p2, .ref (b + out)] (fun U => dm_WX D cy sa b tb k h U)) (dm_Qc D cy sa b tb (some (.int 1), (g1.1 + 1, g1.2.1 + 6, g1.2.2))) (g1.1 - h.1 + 1) (g1.2.1 - h.2.1 + 6) (dm_A b) := by
  refine dm_ofWH (cc := cL_at) (maxL := 6) (ret := some .int) (hh := dm_hh) (by decide) rfl ?_
  intro p e s m args below meth c s₁ B hml hv
  obtain ⟨rfl, hWv⟩ := hv
  have hx := B.exec
  have hb := B.bytes
  have hr := B.returns
  have hts0 := atoms_spec (ws := .codeWith yL_at cL_at 6 (some .int) dm_hh :: dm_TBL) B.pre
  have hts : ∀ w ∈ dm_TBL, w.before _ s = true := fun w hw => hts0 w (List.mem_cons_of_mem _ hw)
  have hown : s.vm.findClass "PenArmLaw" = some m.cls := findClass_of_methodNamed B.named
  have hlocks := B.notSynchronized
  rw [lg_entry_eq]
  have hl := lv_entry ([.ref (b + x), .int p0, .int p1, .int p2, .ref (b + out)]) (n := 6) (Nat.le_of_ble_eq_true rfl)
  generalize (lg_sl ([.ref (b + x), .int p0, .int p1, .int p2, .ref (b + out)]) ++ List.replicate (6 - (lg_sl ([.ref (b + x), .int p0, .int p1, .int p2, .ref (b + out)])).length) Slot.unset).toArray = ls at hl ⊢
  have hl : lv_has ls 6 [(0, .ref (b + x)), (1, .int p0), (2, .int p1), (3, .int p2), (4, .ref (b + out))] := hl
  refine lv_aload hx hb dm_e0 (lv_at hl 4 rfl) ?_
  refine lv_iconst (v := 0) hx hb dm_e2 (by decide) ?_
  refine lv_aload_n hx hb dm_e3 rfl (lv_at hl 0 rfl) ?_
  refine lv_iload_n hx hb dm_e4 rfl (lv_at hl 1 rfl) ?_
  refine lv_iload_n hx hb dm_e5 rfl (lv_at hl 2 rfl) ?_
  refine lv_iload_n hx hb dm_e6 rfl (lv_at hl 3 rfl) ?_
  obtain ⟨fs, hfs⟩ := Option.isSome_iff_exists.mp hobj
  obtain ⟨w1, w2, w3, -, -, w6, w7, w8, w9, w10, w11⟩ := dm_msw (t := 85) (by decide) (show dm_ms[85]? = some (yX6_at, cX6_at, 5, some .int) from rfl)
  obtain ⟨r0, hr0, -, -, hprm, hlink, hstat, hsel, -, -⟩ := dm_mthm (show dg_mth 5127 = some (0, 85, 3, 5, 1) from rfl) (by decide)
  cases hr0
  have hlink : Cond.methodLink "PenArmLaw" 7 yX6_at ∈ dm_TBL := hlink
  have hstat : Cond.instanceMethod yX6_at ∈ dm_TBL := hstat
  have hsel : Cond.selects "PenArm" yX6_at yX6_at ∈ dm_TBL := hsel rfl
  have hwsA : ∀ w ∈ (Cond.code yX6_at cX6_at 5 (some .int) :: dm_TBL), ∀ (a' : Array Value) (U : State), s.WarmedH U.vm → w.before a' U = true := by
    intro w hw a' U hWm
    rcases List.mem_cons.mp hw with rfl | hw
    · exact dm_warm w1 (hts _ w1) hWm
    · exact dm_warm hw (hts _ hw) hWm
  have hsig : ∀ sig, parseMethodDescriptor yX6_at.desc = some sig → 3 = sig.parameters.length := by
    intro sig hs
    unfold dm_prm at hprm
    have hprm : Option.map (fun d => d.parameters.length) (parseMethodDescriptor yX6_at.desc) = some 3 := hprm
    rw [hs] at hprm
    exact (Option.some.inj hprm).symm
  obtain ⟨hW, hU, hN, hstr⟩ := hWv
  obtain ⟨rr, hrr, cellB, q1, q2, q3, -⟩ := hW.2.1 x _ (dm_obj_some hfs)
  have hM := dm_at85 (k := k) hS hls hrun hF h6 hLo h82
  have htab := vx_table (x := yL_at) B (hts0 _ List.mem_cons_self)
  refine vx_calli (vx_runV (C := "PenArm") (b := b + x) (As := [.int p0, .int p1, .int p2]) (rest := [.int 0, .ref (b + out)]) ⟨hx, hb, hml, hown, hts⟩ hM ⟨⟨rfl, rfl, Nat.le_refl _, by show 8 + (5 + 11) + Lo ≤ Lo + 24; omega, hwsA, List.mem_cons_self, hts _ w1, hts _ w3, ⟨w9, w10⟩, hsig, hts _ hlink⟩, hts _ hstat, hts _ hsel⟩ ⟨dm_blindX, ⟨cellB, q1, by rw [q3]; rfl, by rw [q2]; exact (hW.2.2.1.1 6 _ (dm_cl (by decide))).2.1⟩, fun U hU2 hWm => ⟨rfl, by show dm_W D cy sa b tb h U U.heap; rw [hU2]; exact dm_W.moved hWm.alike hW, by rw [hU2]; exact vx_Zq.moved hWm.alike hU, by rw [hU2]; exact vx_Zq.moved hWm.alike hN, vk_R.warm hWm hstr⟩⟩ rfl rfl hl.1 rfl (lv_room (Nat.le_of_ble_eq_true rfl)) dm_e7 ⟨by show 0 + (g1.1 - h.1 + 1) ≤ g1.1 - h.1 + 1; omega, by show 0 + (g1.2.1 - h.2.1 + 6) ≤ g1.2.1 - h.2.1 + 6; omega⟩) (va_S.rf (A := dm_A b)) (fun q _ z => z) (fun q z => z) (fun q _ z => z) (fun E ce q9 u t H1 locs1 ht hal _ hBX hz1 hk1 hS1 hce hcv hcl => ?_) (fun r u t H1 locs1 ht hal hpost => hpost.elim)
  obtain ⟨rfl, hW1⟩ := hBX
  rw [ht] at hW1
  have hW1 := dm_W.moved hal.symm hW1
  rw [Nat.zero_add, Nat.zero_add]
  refine vx_catch (name := dm_NSE) hown [] { startPc := 0, endPc := 12, handlerPc := 15, catchType := 13 } [] htab (fun z hz => absurd hz List.not_mem_nil) (by decide) (by decide) (hts _ (List.mem_filter.mpr ⟨List.mem_append_right _ dm_atL.2.2.1, rfl⟩)) (hts _ (List.mem_filter.mpr ⟨List.mem_append_right _ dm_atL.2.2.2.1, rfl⟩)) hce hcv hcl ?_
  refine lv_astore hx hb dm_e15 hl (by decide) rfl (fun ls hl => ?_)
  refine lv_iconst (v := 1) hx hb dm_e17 (by decide) ?_
  exact W.iret hx hb hr (fun t ht hWm => ⟨⟨rfl, by rw [ht]; exact dm_W.moved hWm.alike hW1⟩, hS1.F ht⟩) hS1.2.2 dm_e18
theorem dm_blind2 {av : List Value} : FrameBlind (va_Pc av (fun U => dm_W D cy sa b tb h U U.heap)) := dm_blind
set_option maxHeartbeats 2000000 in
/-- the law's call of its own 'at' -/
theorem dm_lat_ok (hls : l.stackTraces = false) (hS : dm_S l D cy sa b tb n) : dm_LAT l D cy sa b tb n := by
  intro d v p e R s m args below meth c Q c0 s0 mi pc x out p0 p1 p2 ls h K hC ho10 hR hdR hlR hd2 hrc hrs hdec hobj hlat mono nx
  obtain ⟨hx, -, hown, hts, hcc, hb0⟩ := hC
  obtain ⟨hU, hN, ⟨sk, hstr⟩, hall⟩ := hcc.2 ho10
  rw [ho10] at hown
  have hown : s.vm.findClass "PenArmLaw" = some m.cls := hown
  intro H locs lc h0 h1 hW hSv hL
  have hin : ∀ w ∈ tables_1, dm_gw w = true → w ∈ dm_TBL := fun w h1 h2 => List.mem_filter.mpr ⟨List.mem_append_right _ h1, h2⟩
  have hcw := hall _ dm_atC
  have hwsA : ∀ w ∈ (Cond.codeWith yL_at cL_at 6 (some .int) dm_hh :: dm_TBL), ∀ (a' : Array Value) (U : State), s.WarmedH U.vm → w.before a' U = true := by
    intro w hw a' U hWm
    rcases List.mem_cons.mp hw with rfl | hw
    · exact word_at hWm (good_of_word rfl) hcw
    · exact dm_warm hw (hts _ hw) hWm
  have hsig : ∀ sig, parseMethodDescriptor yL_at.desc = some sig → 5 = sig.parameters.length := by
    intro sig hs
    have hprm : Option.map (fun d => d.parameters.length) (parseMethodDescriptor yL_at.desc) = some 5 := by decide +kernel
    rw [hs] at hprm
    exact (Option.some.inj hprm).symm
  rcases dm_lat_some hlat with ⟨y, g1, g2, e1, e2, e3⟩ | ⟨w, g1, e1, e3⟩
  · have hm1 := dm_mono n e1
    have hm2 := mono _ _ e3
    have hM := dm_latI (out := out) hS e1 e2 hobj
    obtain ⟨r, -, -, hg2⟩ := dm_stL_some e2
    have c1 : g2.1 = g1.1 := by rw [hg2]
    have c2 : g2.2.1 = g1.2.1 := by rw [hg2]
    dsimp only at hm1
    refine dm_callK (v := (some (.int 0), g2)) (vx_runSW (hh := dm_hh) (As := [.ref (b + x), .int p0, .int p1, .int p2, .ref (b + out)]) (rest := []) ⟨hx, rfl, rfl, hown, hts⟩ hM ⟨⟨rfl, rfl, by show d - 2 + 1 + 1 ≤ R.frames; omega, by show 8 + (6 + 11) + (32 * (d - 2) + 24) ≤ R.locals; omega, hwsA, List.mem_cons_self⟩, hcw, hts _ (hin _ dm_atL.2.2.2.2.2.2 rfl), ⟨by decide, by decide⟩, hsig, hts _ (hin _ dm_atL.2.2.2.2.2.1 rfl), hts _ (hin _ dm_atL.2.2.2.2.1 rfl)⟩ ⟨dm_blind, fun U hU2 hWm => ⟨rfl, by show dm_W D cy sa b tb h U U.heap; rw [hU2]; exact dm_W.moved hWm.alike hW⟩⟩ rfl rfl hL.1.1 rfl (lv_room (Nat.le_of_ble_eq_true rfl)) hdec (by omega)) hSv (fun H1 locs1 hW1 hS1 => ?_)
    have hnx := nx _ _ e3 H1 locs1 lc (by omega) (by omega) hW1 hS1 hL
    rw [show h.1 - c0 + (g1.1 - h.1) = g2.1 - c0 by omega, show h.2.1 - s0 + (g1.2.1 - h.2.1) = g2.2.1 - s0 by omega]
    exact hnx
  · have hm1 := dm_mono n e1
    have hm2 := mono _ _ e3
    dsimp only at hm1 hm2
    have hM := dm_latX (out := out) (k := sk) (F := R.frames - 2) (Lo := R.locals - 49) hS hls e1 hobj (by omega) (by omega) (by omega) (by omega)
    refine dm_callK (v := (some (.int 1), (g1.1 + 1, g1.2.1 + 6, g1.2.2))) (vx_runSW (hh := dm_hh) (As := [.ref (b + x), .int p0, .int p1, .int p2, .ref (b + out)]) (rest := []) ⟨hx, rfl, rfl, hown, hts⟩ hM ⟨⟨rfl, rfl, by show R.frames - 2 + 1 + 1 ≤ R.frames; omega, by show 8 + (6 + 11) + (R.locals - 49 + 24) ≤ R.locals; omega, hwsA, List.mem_cons_self⟩, hcw, hts _ (hin _ dm_atL.2.2.2.2.2.2 rfl), ⟨by decide, by decide⟩, hsig, hts _ (hin _ dm_atL.2.2.2.2.2.1 rfl), hts _ (hin _ dm_atL.2.2.2.2.1 rfl)⟩ ⟨dm_blindX, fun U hU2 hWm => ⟨rfl, by show dm_W D cy sa b tb h U U.heap; rw [hU2]; exact dm_W.moved hWm.alike hW, by rw [hU2]; exact vx_Zq.moved hWm.alike (hU.kept hSv.2.1), by rw [hU2]; exact vx_Zq.moved hWm.alike (hN.kept hSv.2.1), vk_R.warm hWm hstr⟩⟩ rfl rfl hL.1.1 rfl (lv_room (Nat.le_of_ble_eq_true rfl)) hdec (by omega)) hSv (fun H1 locs1 hW1 hS1 => ?_)
    have hnx := nx _ _ e3 H1 locs1 lc (by show c0 ≤ g1.1 + 1; omega) (by show s0 ≤ g1.2.1 + 6; omega) hW1 hS1 hL
    have hnx : W p l e R s m args below meth c H1 locs1 (g1.1 + 1 - c0) (g1.2.1 + 6 - s0) Q (F0 m (pc + 3) lc (([.int 1] : List Value).map (dm_rv sa b))) := hnx
    rw [show h.1 - c0 + (g1.1 - h.1 + 1) = g1.1 + 1 - c0 by omega, show h.2.1 - s0 + (g1.2.1 - h.2.1 + 6) = g1.2.1 + 6 - s0 by omega]
    exact hnx
end DL
