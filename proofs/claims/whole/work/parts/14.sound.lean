/-! SOUNDNESS 6: the call, and the whole -/
def dc_len (k : Nat) : Bool := match dg_mth k with
  | none => true
  | some m => Nat.ble 5 m.1 || Nat.ble (bif Nat.beq m.1 1 || Nat.beq m.1 2 then m.2.2.1 else m.2.2.1 + 1) m.2.2.2.1
theorem dc_len_ok : (List.range 6144).all dc_len = true := by decide +kernel
theorem dm_take1 {l : List Value} {k : Nat} {x : Value} (h : l[k]? = some x) : l.take (k + 1) = l.take k ++ [x] := by
  rw [List.take_succ, h]
  rfl
section DC
variable {p : Program} {l : Launch} {e : Env} {R : Room} {s : State} {m : MethodId} {args : Array Value} {below : List Frame} {meth : Method} {c : Code} {Q : State → Prop}
variable {D : va_G} {cy : Nat → ClassId} {sa : Nat → Nat} {b : Nat} {tb : dT}
theorem dm_map_r (r : Option Value) (t : List Value) : (r.map (dm_rv sa b)).toList ++ t.map (dm_rv sa b) = (r.toList ++ t).map (dm_rv sa b) := by
  cases r <;> simp
set_option maxHeartbeats 2000000 in
theorem dm_call_ok {n d mi pc k spec c0 s0 : Nat} {q : Nat × Nat × Nat × Nat × Nat} {ls st : List Value} {h : dH} {v : Option Value × dH} (hS : dm_S l D cy sa b tb n) (hC : dm_C mi b p s m args meth c) (hd1 : 1 ≤ d) (hdR : d ≤ R.frames) (hlR : 32 * d ≤ R.locals) (hrc : v.2.1 - c0 ≤ R.cells) (hrs : v.2.2.1 - s0 ≤ R.slots) (hk : k < 512) (hq : dg_mth (dm_own mi * 512 + k) = some q) (hspec : spec < 3)
    (hdec : decode c.code pc = .ok (match spec with | 0 => .invokevirtual k | 1 => .invokestatic k | _ => .invokespecial k, 3))
    (hK : dm_call (fun t as h => dm_run tb n (d - 1) t 0 as [] h) q spec st h (fun st h => dm_run tb n d mi (pc + 3) ls st h) = some v)
    (nx : ∀ pc ls st h, dm_run tb n d mi pc ls st h = some v → dm_G p l e R s m args below meth c Q D cy sa b tb mi c0 s0 pc ls st h) : dm_G p l e R s m args below meth c Q D cy sa b tb mi c0 s0 pc ls st h := by
  obtain ⟨hx, -, hown, hts, -, hb0⟩ := hC
  obtain ⟨nn, r, h', hnn, hkind, hle, hct, hcd, hrun, hnext, hret⟩ := dm_call_some hK
  intro H locs lc h0 h1 hW hSv hL
  have hm1 := dm_mono n hrun
  have hm2 := dm_mono n hnext
  dsimp only at hm1
  have h5 : q.1 < 5 ∧ (spec = 0 → q.1 = 0) ∧ (spec = 1 → q.1 = 1 ∨ q.1 = 2) ∧ (spec = 2 → q.1 = 3 ∨ q.1 = 4) := by
    split at hkind
    · rw [Bool.and_eq_true] at hkind
      have := Nat.eq_of_beq_eq_true hkind.1
      exact ⟨by omega, fun _ => this, fun z => by omega, fun z => by omega⟩
    · rw [Bool.or_eq_true] at hkind
      have := hkind.imp Nat.eq_of_beq_eq_true Nat.eq_of_beq_eq_true
      exact ⟨by omega, fun z => by omega, fun z => this, fun z => by omega⟩
    · rename_i z0 z1
      rw [Bool.and_eq_true, Bool.or_eq_true] at hkind
      have := hkind.1.imp Nat.eq_of_beq_eq_true Nat.eq_of_beq_eq_true
      exact ⟨by omega, fun z => absurd z z0, fun z => absurd z z1, fun z => this⟩
  obtain ⟨h5, hk0, hk1, hk2⟩ := h5
  obtain ⟨r0, hr0, ht, hmaxL, hprm, hlink, hstat, hsel, hini2, hrt⟩ := dm_mthm hq h5
  obtain ⟨w1, w2, w3, -, -, w6, w7, w8, w9, w10, w11⟩ := dm_msw ht hr0
  rw [(dm_ix hk).1, (dm_ix hk).2] at hlink
  have hlen : (dm_args nn st).length = nn := by
    unfold dm_args
    rw [List.length_reverse, List.length_take]
    omega
  have hcat : dm_cats (dm_args nn st) = (dm_args nn st).length := by
    rw [hlen]
    unfold dm_args
    rw [dm_cats_rev]
    exact hct
  have hlenL : (dm_args nn st).length ≤ r0.2.2.1 := by
    have h2 := List.all_eq_true.mp dc_len_ok _ (List.mem_range.mpr (dm_mthw hq).1)
    unfold dc_len at h2
    rw [hq] at h2
    dsimp only at h2
    rw [Bool.or_eq_true] at h2
    rcases h2 with h2 | h2
    · have := Nat.le_of_ble_eq_true h2
      omega
    · have h3 := Nat.le_of_ble_eq_true h2
      rw [hlen, hmaxL]
      rcases (show spec = 0 ∨ spec = 1 ∨ spec = 2 by omega) with z | z | z
      · rw [hnn, z]
        rw [hk0 z] at h3
        exact h3
      · rw [hnn, z]
        rcases hk1 z with y | y <;> rw [y] at h3 <;> exact h3
      · rw [hnn, z]
        rcases hk2 z with y | y <;> rw [y] at h3 <;> exact h3
  have hM := dm_met (d := d - 1) hS hr0 ht (by rw [hmaxL]; exact hrun) hcat hlenL (by
    split at hret
    · rename_i z
      rw [z] at hrt
      exact Or.inl ⟨hrt, hret⟩
    · rename_i z
      rw [z] at hrt
      obtain ⟨x, hx2⟩ := hret
      exact Or.inr (Or.inl ⟨x, hx2, hrt⟩)
    · rename_i z1 z2
      obtain ⟨x, hx2⟩ := hret
      split at hrt
      · rename_i z; exact absurd z z1
      · rename_i z; exact absurd z z2
      · obtain ⟨o, ho⟩ := hrt
        exact Or.inr (Or.inr ⟨x, o, hx2, ho⟩))
  have hwsA : ∀ w ∈ (Cond.code r0.1 r0.2.1 r0.2.2.1 r0.2.2.2 :: dm_TBL), ∀ (a' : Array Value) (U : State), s.WarmedH U.vm → w.before a' U = true := by
    intro w hw a' U hWm
    rcases List.mem_cons.mp hw with rfl | hw
    · exact dm_warm w1 (hts _ w1) hWm
    · exact dm_warm hw (hts _ hw) hWm
  have hsig : ∀ sig, parseMethodDescriptor r0.1.desc = some sig → q.2.2.1 = sig.parameters.length := by
    intro sig hs
    unfold dm_prm at hprm
    rw [hs] at hprm
    exact (Option.some.inj hprm).symm
  have hroom : 8 + (r0.2.2.1 + 11) + 32 * (d - 1) ≤ R.locals := by omega
  have hsize : (F0 m pc lc (st.map (dm_rv sa b))).locals.size = c.maxLocals := hL.1.1
  have hdr : dm_cats (st.drop nn) ≤ 8 := hcd
  have hrm : 2 * (F0 m pc lc (st.map (dm_rv sa b))).monitorRoom + (((st.drop nn).map (dm_rv sa b)).map fun v => v.category).sum ≤ 8 := lv_room (by rw [dm_cats_sum]; exact hdr)
  have fin : ∀ (H1 : Heap) (locs1 : List Loc), dm_W D cy sa b tb h' s H1 → va_S (dm_A b) s.heap H1 locs1 → W p l e R s m args below meth c H1 locs1 (h.1 - c0 + (h'.1 - h.1)) (h.2.1 - s0 + (h'.2.1 - h.2.1)) Q (F0 m (pc + 3) lc ((r.map (dm_rv sa b)).toList ++ (st.drop nn).map (dm_rv sa b))) := by
    intro H1 locs1 hW1 hS1
    have hnx := nx _ _ _ _ hnext H1 locs1 lc (by omega) (by omega) hW1 hS1 hL
    rw [dm_map_r, show h.1 - c0 + (h'.1 - h.1) = h'.1 - c0 by omega, show h.2.1 - s0 + (h'.2.1 - h.2.1) = h'.2.1 - s0 by omega]
    exact hnx
  have hcs : h.1 - c0 + (h'.1 - h.1) ≤ R.cells ∧ h.2.1 - s0 + (h'.2.1 - h.2.1) ≤ R.slots := by omega
  have hPre : ∀ av : List Value, av = (dm_args nn st).map (dm_rv sa b) → ∀ U : State, U.heap = H → s.WarmedH U.vm → va_Pc ((dm_args nn st).map (dm_rv sa b)) (fun U => dm_W D cy sa b tb h U U.heap) av.toArray U := by
    intro av hav U hU hWm
    subst hav
    exact ⟨rfl, by show dm_W D cy sa b tb h U U.heap; rw [hU]; exact dm_W.moved hWm.alike hW⟩
  rcases (show spec = 0 ∨ spec = 1 ∨ spec = 2 by omega) with z | z | z
  · subst z
    have hz := hk0 rfl
    rw [hz] at hlink hstat
    have hlink : Cond.methodLink (dm_c (dm_own mi)) k r0.1 ∈ dm_TBL := hlink
    have hstat : Cond.instanceMethod r0.1 ∈ dm_TBL := hstat
    have hnn : nn = q.2.2.1 + 1 := hnn
    have hkind : (Nat.beq q.1 0 && dm_isr h st[q.2.2.1]? (dm_own q.2.1)) = true := hkind
    rw [Bool.and_eq_true] at hkind
    have hrcv := hkind.2
    unfold dm_isr at hrcv
    split at hrcv
    · rename_i a ha
      obtain ⟨fs, hfs⟩ := Option.isSome_iff_exists.mp hrcv
      have hargs : (dm_args nn st).map (dm_rv sa b) = .ref (b + a) :: ((st.take q.2.2.1).reverse.map (dm_rv sa b)) := by
        unfold dm_args
        rw [hnn, dm_take1 ha, List.reverse_append]
        rfl
      have hst : st.map (dm_rv sa b) = ((st.take q.2.2.1).reverse.map (dm_rv sa b)).reverse ++ .ref (b + a) :: (st.drop nn).map (dm_rv sa b) := by
        rw [← List.map_reverse, List.reverse_reverse, hnn]
        conv => lhs; rw [dm_split ha]
        rw [List.map_append]
        rfl
      obtain ⟨rr, hrr, cellB, g1, g2, g3, -⟩ := hW.2.1 a _ (dm_obj_some hfs)
      have hown8 : dm_own q.2.1 < 8 := (List.getElem?_eq_some_iff.mp hrr).1
      refine dm_callK (v := (r, h')) (va_runV (C := dm_c (dm_own q.2.1)) (b := b + a) (As := (st.take q.2.2.1).reverse.map (dm_rv sa b)) ⟨hx, rfl, rfl, hown, hts⟩ hM ⟨⟨rfl, rfl, by show d - 1 + 1 ≤ R.frames; omega, hroom, hwsA, List.mem_cons_self, hts _ w1, hts _ w3, ⟨w9, w10⟩, hsig, hts _ hlink⟩, hts _ hstat, by rw [← w2]; exact hts _ (hsel hz)⟩ ⟨dm_blind, ⟨cellB, g1, by rw [g3]; rfl, by rw [g2]; exact (hW.2.2.1.1 _ _ (dm_cl hown8)).2.1⟩, hPre _ hargs.symm⟩ rfl ?_ hsize hst hrm hdec hcs) hSv fin
      rw [List.length_map, List.length_reverse, List.length_take]
      omega
    · cases hrcv
  · subst z
    have hnn : nn = q.2.2.1 := hnn
    have hargs : (dm_args nn st).map (dm_rv sa b) = (st.take nn).reverse.map (dm_rv sa b) := rfl
    have hst : st.map (dm_rv sa b) = ((st.take nn).reverse.map (dm_rv sa b)).reverse ++ (st.drop nn).map (dm_rv sa b) := by
      rw [← List.map_reverse, List.reverse_reverse, ← List.map_append, List.take_append_drop]
    have hlen2 : ((st.take nn).reverse.map (dm_rv sa b)).length = q.2.2.1 := by
      rw [List.length_map, List.length_reverse, List.length_take]
      omega
    have hstat : Cond.static r0.1 ∈ dm_TBL := by
      rw [if_pos (hk1 rfl)] at hstat
      exact hstat
    rcases hk1 rfl with hz | hz
    · rw [hz] at hlink
      have hlink : Cond.methodLink (dm_c (dm_own mi)) k r0.1 ∈ dm_TBL := hlink
      exact dm_callK (v := (r, h')) (va_runS (As := (st.take nn).reverse.map (dm_rv sa b)) ⟨hx, rfl, rfl, hown, hts⟩ hM ⟨⟨rfl, rfl, by show d - 1 + 1 ≤ R.frames; omega, hroom, hwsA, List.mem_cons_self, hts _ w1, hts _ w3, ⟨w9, w10⟩, hsig, hts _ hlink⟩, hts _ hstat⟩ ⟨dm_blind, hPre _ hargs.symm⟩ rfl hlen2 hsize hst hrm hdec hcs) hSv fin
    · rw [hz] at hlink
      have hlink : Cond.methodLinkNest (dm_c (dm_own mi)) k r0.1 "PenArm" ∈ dm_TBL := hlink
      exact dm_callK (v := (r, h')) (va_runSN (As := (st.take nn).reverse.map (dm_rv sa b)) ⟨hx, rfl, rfl, hown, hts⟩ hM ⟨⟨⟨rfl, rfl, by show d - 1 + 1 ≤ R.frames; omega, hroom, hwsA, List.mem_cons_self⟩, hts _ w1, hts _ w3, ⟨w9, w10⟩, hsig, hts _ hlink⟩, hts _ hstat, trivial⟩ ⟨dm_blind, hPre _ hargs.symm⟩ rfl hlen2 hsize hst hrm hdec hcs) hSv fin
  · subst z
    have hnn : nn = q.2.2.1 + 1 := hnn
    have hkind : ((Nat.beq q.1 3 || Nat.beq q.1 4) && dm_rf1 st[q.2.2.1]?) = true := hkind
    rw [Bool.and_eq_true] at hkind
    have hrcv := hkind.2
    unfold dm_rf1 at hrcv
    split at hrcv
    · rename_i a ha
      have hargs : (dm_args nn st).map (dm_rv sa b) = .ref (b + a) :: ((st.take q.2.2.1).reverse.map (dm_rv sa b)) := by
        unfold dm_args
        rw [hnn, dm_take1 ha, List.reverse_append]
        rfl
      have hst : st.map (dm_rv sa b) = ((st.take q.2.2.1).reverse.map (dm_rv sa b)).reverse ++ .ref (b + a) :: (st.drop nn).map (dm_rv sa b) := by
        rw [← List.map_reverse, List.reverse_reverse, hnn]
        conv => lhs; rw [dm_split ha]
        rw [List.map_append]
        rfl
      have hlen2 : ((st.take q.2.2.1).reverse.map (dm_rv sa b)).length = q.2.2.1 := by
        rw [List.length_map, List.length_reverse, List.length_take]
        omega
      have hnm := hini2 (hk2 rfl)
      have hrn : r0.2.2.2 = none := by
        have hb2 : ∀ t, t < 139 → (match dm_ms[t]? with | some r => !(decide (r.1.name = "<init>")) || decide (r.2.2.2 = none) | none => true) = true := by decide +kernel
        have h7 := hb2 _ ht
        rw [hr0] at h7
        simpa [hnm] using h7
      have hstat : Cond.instanceMethod r0.1 ∈ dm_TBL := by
        rw [if_neg (by have := hk2 rfl; omega)] at hstat
        exact hstat
      rw [hrn] at hM hwsA w1
      rcases hk2 rfl with hz | hz
      · rw [hz] at hlink
        have hlink : Cond.methodLink (dm_c (dm_own mi)) k r0.1 ∈ dm_TBL := hlink
        exact dm_callK (v := (r, h')) (va_runI (b := b + a) (As := (st.take q.2.2.1).reverse.map (dm_rv sa b)) ⟨hx, rfl, rfl, hown, hts⟩ hM ⟨⟨rfl, rfl, by show d - 1 + 1 ≤ R.frames; omega, hroom, hwsA, List.mem_cons_self, hts _ w1, hts _ w3, ⟨w9, w10⟩, hsig, hts _ hlink⟩, hnm, hts _ hstat⟩ ⟨dm_blind, hPre _ hargs.symm⟩ rfl hlen2 hsize hst hrm hdec hcs) hSv fin
      · rw [hz] at hlink
        have hlink : Cond.methodLinkNest (dm_c (dm_own mi)) k r0.1 "PenArm" ∈ dm_TBL := hlink
        exact dm_callK (v := (r, h')) (va_runIN (b := b + a) (As := (st.take q.2.2.1).reverse.map (dm_rv sa b)) ⟨hx, rfl, rfl, hown, hts⟩ hM ⟨⟨⟨rfl, rfl, by show d - 1 + 1 ≤ R.frames; omega, hroom, hwsA, List.mem_cons_self⟩, hts _ w1, hts _ w3, ⟨w9, w10⟩, hsig, hts _ hlink⟩, hnm, hts _ hstat⟩ ⟨dm_blind, hPre _ hargs.symm⟩ rfl hlen2 hsize hst hrm hdec hcs) hSv fin
    · cases hrcv
/-- the law's own 'at', where PenArm.at runs two frames below -/
def dm_LAT (l : Launch) (D : va_G) (cy : Nat → ClassId) (sa : Nat → Nat) (b : Nat) (tb : dT) (n : Nat) : Prop :=
  ∀ (d : Nat) (v : Option Value × dH) (p : Program) (e : Env) (R : Room) (s : State) (m : MethodId) (args : Array Value) (below : List Frame) (meth : Method) (c : Code) (Q : State → Prop) (c0 s0 mi pc x out : Nat) (p0 p1 p2 : Int32) (ls : List Value) (h : dH) (K : Int32 → dH → Option (Option Value × dH)), dm_C mi b p s m args meth c → dm_own mi = 10 → 11 ≤ R.frames ∧ 448 ≤ R.locals → d ≤ R.frames → 32 * d ≤ R.locals → 2 ≤ d → v.2.1 - c0 ≤ R.cells → v.2.2.1 - s0 ≤ R.slots → decode c.code pc = .ok (.invokestatic 82, 3) → (dm_obj h x 6).isSome = true →
    dm_lat (dm_run tb n (d - 2) 85 0 [.ref x, .int p0, .int p1, .int p2, .null] [] h) out K = some v →
    (∀ k h, K k h = some v → h.1 ≤ v.2.1 ∧ h.2.1 ≤ v.2.2.1) →
    (∀ k h, K k h = some v → dm_G p l e R s m args below meth c Q D cy sa b tb mi c0 s0 (pc + 3) ls [.int k] h) → dm_G p l e R s m args below meth c Q D cy sa b tb mi c0 s0 pc ls [.ref out, .int p2, .int p1, .int p0, .ref x] h
theorem dm_mw6 : Cond.static Lib.Math.abs.name ∈ dm_TBL ∧ Cond.code Lib.Math.abs.name Lib.Math.abs.code 1 (some .int) ∈ dm_TBL := ⟨List.mem_filter.mpr ⟨List.mem_append_right _ (by decide +kernel), rfl⟩, List.mem_filter.mpr ⟨List.mem_append_right _ (by decide +kernel), rfl⟩⟩
theorem dm_mw7 : Cond.static Lib.Math.max.name ∈ dm_TBL ∧ Cond.code Lib.Math.max.name Lib.Math.max.code 2 (some .int) ∈ dm_TBL := ⟨List.mem_filter.mpr ⟨List.mem_append_right _ (by decide +kernel), rfl⟩, List.mem_filter.mpr ⟨List.mem_append_right _ (by decide +kernel), rfl⟩⟩
theorem dm_mw8 : Cond.static Lib.Math.min.name ∈ dm_TBL ∧ Cond.code Lib.Math.min.name Lib.Math.min.code 2 (some .int) ∈ dm_TBL := ⟨List.mem_filter.mpr ⟨List.mem_append_right _ (by decide +kernel), rfl⟩, List.mem_filter.mpr ⟨List.mem_append_right _ (by decide +kernel), rfl⟩⟩
theorem dm_mwM : Cond.initialized "java/lang/Math" ∈ dm_TBL := List.mem_filter.mpr ⟨List.mem_append_right _ (by decide +kernel), rfl⟩
theorem dm_mwO : Cond.instanceMethod objectInit ∈ dm_TBL ∧ Cond.code objectInit ⟨#[0xb1]⟩ 1 none ∈ dm_TBL := ⟨List.mem_filter.mpr ⟨List.mem_append_right _ (by decide +kernel), rfl⟩, List.mem_filter.mpr ⟨List.mem_append_right _ (by decide +kernel), rfl⟩⟩
theorem dm_mth5 {k : Nat} {q : Nat × Nat × Nat × Nat × Nat} (h : dg_mth k = some q) : (q.1 = 5 → Cond.methodLink (dm_c (k / 512)) (k % 512) objectInit ∈ dm_TBL) ∧ (q.1 = 6 → Cond.methodLink (dm_c (k / 512)) (k % 512) Lib.Math.abs.name ∈ dm_TBL) ∧ (q.1 = 7 → Cond.methodLink (dm_c (k / 512)) (k % 512) Lib.Math.max.name ∈ dm_TBL) ∧ (q.1 = 8 → Cond.methodLink (dm_c (k / 512)) (k % 512) Lib.Math.min.name ∈ dm_TBL) ∧ (q.1 = 9 → k = 5202) := by
  obtain ⟨-, h2, -⟩ := dm_mthw h
  unfold dc_mth at h2
  rw [h] at h2
  dsimp only at h2
  refine ⟨fun z => ?_, fun z => ?_, fun z => ?_, fun z => ?_, fun z => ?_⟩ <;> rw [z] at h2
  · exact dm_in (of_decide_eq_true h2) rfl
  · exact dm_in (of_decide_eq_true h2) rfl
  · exact dm_in (of_decide_eq_true h2) rfl
  · exact dm_in (of_decide_eq_true h2) rfl
  · have h3 : (decide (tables_1[dp_mth k]? = some (.methodLink RL (k % 512) yL_at)) && decide (k = 5202)) = true := h2
    rw [Bool.and_eq_true] at h3
    exact of_decide_eq_true h3.2
set_option maxHeartbeats 4000000 in
theorem dm_sound_open (hAT : ∀ n, dm_S l D cy sa b tb n → dm_LAT l D cy sa b tb n) (n : Nat) : dm_S l D cy sa b tb n := by
  induction n with
  | zero =>
    intro d mi v p e R s m args below meth c Q c0 s0 hC hro hd hl hc hs hF pc ls st h hr
    cases hr
  | succ n ih =>
    intro d mi v p e R s m args below meth c Q c0 s0 hC hro hdR hlR hrc hrs hF pc ls st h hr
    have mono := @dm_mono tb (n + 1) d mi pc ls st h v hr
    rw [dm_run_s] at hr
    cases hc : dm_code mi pc with
    | none => rw [hc] at hr; cases hr
    | some i =>
      rw [hc] at hr
      obtain ⟨r, hr1, hdec⟩ := dm_decode hc
      obtain ⟨r', hr2, hcc, hml⟩ := hC.2.1
      cases hr1.symm.trans hr2
      rw [← hcc] at hdec
      have nx : ∀ pc ls st h, dm_run tb n d mi pc ls st h = some v → dm_G p l e R s m args below meth c Q D cy sa b tb mi c0 s0 pc ls st h := fun pc ls st h hr => ih d mi v p e R s m args below meth c Q c0 s0 hC hro hdR hlR hrc hrs hF pc ls st h hr
      have plain : dm_step tb mi i pc ls st h (fun pc ls st h => dm_run tb n d mi pc ls st h) = some v → dm_G p l e R s m args below meth c Q D cy sa b tb mi c0 s0 pc ls st h := fun hs => dm_step_ok hC nx (fun _ _ _ _ z => dm_mono n z) hrc hrs hc hdec hs
      have hid := dm_idx hc
      unfold dc_idx at hid
      rw [hc] at hid
      cases i with
      | ireturn =>
        unfold dm_one at hr
        dsimp only at hr
        split at hr
        · rename_i x
          intro H locs lc h0 h1 hW hS hL
          cases hb : dm_isb mi with
          | true =>
            rw [hb] at hr
            obtain ⟨hb1, hr⟩ := dm_bif (hr : (bif _ then _ else none) = some v)
            cases hr
            exact hF H locs lc pc h0 h1 hW hS hL.1.1 ⟨hdec, fun _ => by simpa using hb1⟩
          | false =>
            rw [hb] at hr
            cases hr
            exact hF H locs lc pc h0 h1 hW hS hL.1.1 ⟨hdec, fun z => by rw [hb] at z; cases z⟩
        · cases hr
      | areturn =>
        unfold dm_one at hr
        dsimp only at hr
        split at hr
        · intro H locs lc h0 h1 hW hS hL
          cases hr
          exact hF H locs lc pc h0 h1 hW hS hL.1.1 hdec
        · cases hr
      | return_ =>
        unfold dm_one at hr
        dsimp only at hr
        split at hr
        · intro H locs lc h0 h1 hW hS hL
          cases hr
          exact hF H locs lc pc h0 h1 hW hS hL.1.1 hdec
        · cases hr
      | new k =>
        unfold dm_one at hr
        dsimp only at hr
        by_cases hz : (Nat.beq mi 85 && Nat.beq pc 33) = true
        · rw [hz] at hr
          simp only [cond_true] at hr
          split at hr
          · intro H locs lc h0 h1 hW hS hL
            cases hr
            rw [Bool.and_eq_true] at hz
            exact hF H locs lc pc h0 h1 hW hS hL.1.1 ⟨Nat.eq_of_beq_eq_true hz.1, Nat.eq_of_beq_eq_true hz.2⟩
          · cases hr
        · rw [Bool.eq_false_iff.mpr hz] at hr
          exact plain hr
      | invokevirtual k =>
        have hk : k < 512 := by simpa [Nat.blt_eq] using hid
        obtain ⟨hdp, hr⟩ := dm_bif (hr : (bif _ then _ else none) = some v)
        obtain ⟨q, h1, h2⟩ := dm_bn hr
        have hd1 : 1 ≤ d := Nat.le_of_ble_eq_true hdp
        exact dm_call_ok (spec := 0) ih hC hd1 hdR hlR hrc hrs hk h1 (by decide) hdec h2 nx
      | invokestatic k =>
        have hk : k < 512 := by simpa [Nat.blt_eq] using hid
        obtain ⟨hdp, hr⟩ := dm_bif (hr : (bif _ then _ else none) = some v)
        obtain ⟨q, h1, h2⟩ := dm_bn hr
        have hd1 : 1 ≤ d := Nat.le_of_ble_eq_true hdp
        dsimp only at h2
        obtain ⟨m5, m6, m7, m8, m9⟩ := dm_mth5 h1
        rw [(dm_ix hk).1, (dm_ix hk).2] at m6 m7 m8
        obtain ⟨hx, -, hown, hts, -, hb0⟩ := id hC
        split at h2
        · rename_i z
          obtain ⟨x, r, rfl, h3⟩ := dm_i1_some h2
          obtain ⟨h4, h5⟩ := dm_bif h3
          have h4 := Nat.le_of_ble_eq_true h4
          intro H locs lc h0 h9 hW hS hL
          have mm := dm_mono n h5
          exact va_mabs hx rfl hL.1.1.symm hown (hts _ (m6 z)) (hts _ dm_mw6.1) (hts _ dm_mwM) (hts _ dm_mw6.2) (by omega) (by rw [dm_cats_sum]; omega) (by omega) (by omega) hdec (nx _ _ _ _ h5 H locs lc h0 h9 hW hS hL)
        · rename_i z
          obtain ⟨x, y, r, rfl, h3⟩ := dm_i2_some h2
          obtain ⟨h4, h5⟩ := dm_bif h3
          have h4 := Nat.le_of_ble_eq_true h4
          intro H locs lc h0 h9 hW hS hL
          have mm := dm_mono n h5
          exact va_mmax hx rfl hL.1.1.symm hown (hts _ (m7 z)) (hts _ dm_mw7.1) (hts _ dm_mwM) (hts _ dm_mw7.2) (by omega) (by rw [dm_cats_sum]; omega) (by omega) (by omega) hdec (nx _ _ _ _ h5 H locs lc h0 h9 hW hS hL)
        · rename_i z
          obtain ⟨x, y, r, rfl, h3⟩ := dm_i2_some h2
          obtain ⟨h4, h5⟩ := dm_bif h3
          have h4 := Nat.le_of_ble_eq_true h4
          intro H locs lc h0 h9 hW hS hL
          have mm := dm_mono n h5
          exact va_mmin hx rfl hL.1.1.symm hown (hts _ (m8 z)) (hts _ dm_mw8.1) (hts _ dm_mwM) (hts _ dm_mw8.2) (by omega) (by rw [dm_cats_sum]; omega) (by omega) (by omega) hdec (nx _ _ _ _ h5 H locs lc h0 h9 hW hS hL)
        · rename_i z
          split at h2
          · obtain ⟨h3, h4⟩ := dm_bif h2
            rw [Bool.and_eq_true] at h3
            have hd2 : 2 ≤ d := Nat.le_of_ble_eq_true h3.1
            have hkk := m9 z
            have h10 := dm_own_lt mi
            have hk82 : k = 82 := by omega
            have ho10 : dm_own mi = 10 := by omega
            subst hk82
            exact hAT n ih d v p e R s m args below meth c Q c0 s0 mi pc _ _ _ _ _ ls h _ hC ho10 (hro ho10) hdR hlR hd2 hrc hrs hdec h3.2 h4 (fun _ _ z => dm_mono n z) (fun _ _ z => nx _ _ _ _ z)
          · cases h2
        · exact dm_call_ok (spec := 1) ih hC hd1 hdR hlR hrc hrs hk h1 (by decide) hdec h2 nx
      | invokespecial k =>
        have hk : k < 512 := by simpa [Nat.blt_eq] using hid
        obtain ⟨hdp, hr⟩ := dm_bif (hr : (bif _ then _ else none) = some v)
        obtain ⟨q, h1, h2⟩ := dm_bn hr
        have hd1 : 1 ≤ d := Nat.le_of_ble_eq_true hdp
        dsimp only at h2
        by_cases h5 : Nat.beq q.1 5 = true
        · have h6 := (dm_mth5 h1).1 (Nat.eq_of_beq_eq_true h5)
          rw [(dm_ix hk).1, (dm_ix hk).2] at h6
          obtain ⟨hx, -, hown, hts, -, hb0⟩ := id hC
          rw [h5] at h2
          simp only [cond_true] at h2
          split at h2
          · rename_i a r _
            obtain ⟨h3, h4⟩ := dm_bif h2
            have h3 := Nat.le_of_ble_eq_true h3
            intro H locs lc h0 h9 hW hS hL
            exact W.objInit hx rfl hown (hts _ h6) (hts _ dm_mwO.1) (hts _ dm_mwO.2) rfl hL.1.1 rfl hdec (by omega) (by
              have hz := lv_room (m := m) (pc := pc) (ls := lc) (rest := []) (st := r.map (dm_rv sa b)) (by rw [dm_cats_sum]; exact h3)
              have hz : 2 * (F0 m pc lc []).monitorRoom + ((r.map (dm_rv sa b)).map fun v => v.category).sum ≤ 8 := hz
              show 2 * (F0 m pc lc _).monitorRoom + ((r.map (dm_rv sa b)).map fun v => v.category).sum + 12 ≤ R.locals
              have hz2 : (F0 m pc lc (List.map (dm_rv sa b) (Value.ref a :: r))).monitorRoom = (F0 m pc lc []).monitorRoom := rfl
              omega) (nx _ _ _ _ h4 H locs lc h0 h9 hW hS hL)
          · cases h2
        · rw [Bool.eq_false_iff.mpr h5] at h2
          exact dm_call_ok (spec := 2) ih hC hd1 hdR hlR hrc hrs hk h1 (by decide) hdec h2 nx
      | _ => exact plain hr
end DC
