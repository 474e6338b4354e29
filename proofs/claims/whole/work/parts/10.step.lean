/-! SOUNDNESS 2: one instruction that neither calls nor ends -/
theorem dm_ni_some {ρ : Type} {o : Option Value} {K : Int32 → Option ρ} {v : ρ} (h : dm_ni o K = some v) : ∃ x, o = some (.int x) ∧ K x = some v := by
  unfold dm_ni at h
  split at h
  · exact ⟨_, rfl, h⟩
  · cases h
theorem dm_nl_some {ρ : Type} {o : Option Value} {K : Int64 → Option ρ} {v : ρ} (h : dm_nl o K = some v) : ∃ x, o = some (.long x) ∧ K x = some v := by
  unfold dm_nl at h
  split at h
  · exact ⟨_, rfl, h⟩
  · cases h
theorem dm_nr_some {ρ : Type} {o : Option Value} {K : Value → Option ρ} {v : ρ} (h : dm_nr o K = some v) : (∃ a, o = some (.ref a) ∧ K (.ref a) = some v) ∨ ∃ k, o = some (.float k) ∧ K (.float k) = some v := by
  unfold dm_nr at h
  split at h
  · exact Or.inl ⟨_, rfl, h⟩
  · exact Or.inr ⟨_, rfl, h⟩
  · cases h
theorem dm_i1_some {ρ : Type} {st : List Value} {K : Int32 → List Value → Option ρ} {v : ρ} (h : dm_i1 st K = some v) : ∃ x r, st = .int x :: r ∧ K x r = some v := by
  unfold dm_i1 at h
  split at h
  · exact ⟨_, _, rfl, h⟩
  · cases h
theorem dm_i2_some {ρ : Type} {st : List Value} {K : Int32 → Int32 → List Value → Option ρ} {v : ρ} (h : dm_i2 st K = some v) : ∃ x y r, st = .int y :: .int x :: r ∧ K x y r = some v := by
  unfold dm_i2 at h
  split at h
  · exact ⟨_, _, _, rfl, h⟩
  · cases h
theorem dm_l2_some {ρ : Type} {st : List Value} {K : Int64 → Int64 → List Value → Option ρ} {v : ρ} (h : dm_l2 st K = some v) : ∃ x y r, st = .long y :: .long x :: r ∧ K x y r = some v := by
  unfold dm_l2 at h
  split at h
  · exact ⟨_, _, _, rfl, h⟩
  · cases h
theorem dm_to_some {pc t : Nat} {off : Int} (h : dm_to pc off = some t) : (pc : Int) + off = (t : Int) := by
  unfold dm_to at h
  split at h
  · rename_i n hn
    cases h
    exact hn
  · cases h
theorem dm_at_some {α β : Type} {i : Int32} {n : Nat} {f : Nat → α} {K : α → Option β} {v : β} (h : dm_at i n f K = some v) : vp_in i n ∧ K (f i.toNatClampNeg) = some v := by
  unfold dm_at at h
  split at h
  · cases h
  · rename_i hn
    exact ⟨hn, h⟩
theorem dm_obj_some {h : dH} {a ci : Nat} {fs : List Value} (ho : dm_obj h a ci = some fs) : h.2.2 a = some (.inr (ci, fs)) := by
  unfold dm_obj at ho
  split at ho
  · rename_i c fs' he
    by_cases hc : Nat.beq c ci = true
    · rw [hc] at ho
      cases ho
      rw [he, Nat.eq_of_beq_eq_true hc]
    · rw [Bool.eq_false_iff.mpr hc] at ho
      cases ho
  · cases ho
theorem dm_rowI_some {h : dH} {a k : Nat} {r : Nat × (Nat → Int32)} (ho : dm_rowI h a k = some r) : h.2.2 a = some (.inl (k, r.1, .inl r.2)) := by
  unfold dm_rowI at ho
  split at ho
  · rename_i c n f he
    by_cases hc : Nat.beq c k = true
    · rw [hc] at ho
      cases ho
      rw [he, Nat.eq_of_beq_eq_true hc]
    · rw [Bool.eq_false_iff.mpr hc] at ho
      cases ho
  · cases ho
theorem dm_rowL_some {h : dH} {a : Nat} {r : Nat × (Nat → Int64)} (ho : dm_rowL h a = some r) : h.2.2 a = some (.inl (4, r.1, .inr (.inl r.2))) := by
  unfold dm_rowL at ho
  split at ho
  · rename_i c n f he
    by_cases hc : Nat.beq c 4 = true
    · rw [hc] at ho
      cases ho
      rw [he, Nat.eq_of_beq_eq_true hc]
    · rw [Bool.eq_false_iff.mpr hc] at ho
      cases ho
  · cases ho
theorem dm_rowR_some {h : dH} {a : Nat} {r : Nat × Nat × (Nat → Option Nat)} (ho : dm_rowR h a = some r) : h.2.2 a = some (.inl (r.1, r.2.1, .inr (.inr (.inr (.inr r.2.2))))) ∧ (r.1 = 2 ∨ r.1 = 3) := by
  unfold dm_rowR at ho
  split at ho
  · rename_i c n f he
    by_cases hc : (Nat.beq c 2 || Nat.beq c 3) = true
    · rw [hc] at ho
      cases ho
      rw [Bool.or_eq_true] at hc
      exact ⟨he, hc.imp Nat.eq_of_beq_eq_true Nat.eq_of_beq_eq_true⟩
    · rw [Bool.eq_false_iff.mpr hc] at ho
      cases ho
  · cases ho
theorem dm_P1 {D : va_G} {cl : List vw_C} {q : Nat × va_E} {H : Heap} (h : va_at D cl q H) : va_P D cl [q] H := by
  intro k x hx
  cases k with
  | zero => cases hx; exact h
  | succ k => simp at hx
/-- what the law alone needs, for its 'at': two statics of Throwable, the text of the throw, all words -/
def dm_X (b : Nat) (s : State) (args : Array Value) : Prop := vx_Zq Bundle.tN "UNASSIGNED_STACK" Bundle.steD (dm_A b) s s.heap ∧ vx_Zq Bundle.tN "SUPPRESSED_SENTINEL" Bundle.listD (dm_A b) s s.heap ∧ (∃ k : Nat, vk_R "PenArm" 177 "no such point" k s) ∧ ∀ w ∈ lw_tbl, w.before args s = true
/-- what holds all through a method -/
def dm_C (mi b : Nat) (p : Program) (s : State) (m : MethodId) (args : Array Value) (meth : Method) (c : Code) : Prop :=
  p.tables.exec = Jvm.exec ∧ (∃ r, dm_ms[mi]? = some r ∧ c.code = r.2.1 ∧ c.maxLocals = r.2.2.1) ∧ s.vm.findClass (dm_c (dm_own mi)) = some m.cls ∧ (∀ w ∈ dm_TBL, w.before args s = true) ∧ ((dm_ini mi = true → meth.name = "<init>") ∧ (dm_own mi = 10 → dm_X b s args)) ∧ b ≤ s.heap.size
theorem dm_fldw {k : Nat} {x : Nat × Nat × Nat} (h : dg_fld k = some x) : Cond.fieldLink (dm_c (k / 512)) (k % 512) (dm_T x.1 x.2.1).1 (dm_T x.1 x.2.1).2.1 (dm_T x.1 x.2.1).2.2.1 ∈ dm_TBL ∧ x.1 < 8 ∧ x.2.1 < dm_N x.1 ∧ (dm_T x.1 x.2.1).2.2.2 = Nat.ble 4 x.2.2 ∧ ((dm_ty x.1 x.2.1 = .int ∧ x.2.2 % 4 = 0) ∨ (dm_ty x.1 x.2.1 = .boolean ∧ x.2.2 % 4 = 1) ∨ ((∃ n, dm_ty x.1 x.2.1 = .object n) ∨ ∃ t, dm_ty x.1 x.2.1 = .array t) ∧ x.2.2 % 4 = 2) ∧ (dm_T x.1 x.2.1).1 = dm_c x.1 := by
  have hk : k < 6144 := by
    by_cases hc : Nat.blt k 6144 = true
    · simpa [Nat.blt_eq] using hc
    · unfold dg_fld at h
      rw [Bool.eq_false_iff.mpr hc] at h
      cases h
  have h2 := List.all_eq_true.mp dc_fld_ok k (List.mem_range.mpr hk)
  unfold dc_fld at h2
  rw [h] at h2
  dsimp only at h2
  simp only [Bool.and_eq_true, decide_eq_true_eq, Bool.or_eq_true] at h2
  obtain ⟨a1, a2, a3, ⟨a4, a5⟩, a6⟩ := h2
  refine ⟨dm_in a1 rfl, a2, a3, a4, ?_, a6⟩
  rcases a5 with a5 | a5 | a5
  · exact Or.inl a5
  · exact Or.inr (Or.inl a5)
  · refine Or.inr (Or.inr ?_)
    split at a5
    · rename_i n hn
      exact ⟨Or.inl ⟨n, hn⟩, of_decide_eq_true a5⟩
    · rename_i t ht
      exact ⟨Or.inr ⟨t, ht⟩, of_decide_eq_true a5⟩
    · cases a5
theorem dm_clsw {k c : Nat} (h : dg_cls k = some c) : Cond.classLink (dm_c (k / 512)) (k % 512) (dm_c c) ∈ dm_TBL ∧ c < 8 := by
  have hk : k < 6144 := by
    by_cases hc : Nat.blt k 6144 = true
    · simpa [Nat.blt_eq] using hc
    · unfold dg_cls at h
      rw [Bool.eq_false_iff.mpr hc] at h
      cases h
  have h2 := List.all_eq_true.mp dc_cls_ok k (List.mem_range.mpr hk)
  unfold dc_cls at h2
  rw [h] at h2
  dsimp only at h2
  simp only [Bool.and_eq_true, decide_eq_true_eq] at h2
  exact ⟨dm_in h2.1 rfl, h2.2⟩
theorem dm_cstw {k : Nat} {v : Int32} (h : dg_cst k = some v) : Cond.constant (dm_c (k / 512)) (k % 512) v ∈ dm_TBL := by
  have hk : k < 6144 := by
    by_cases hc : Nat.blt k 6144 = true
    · simpa [Nat.blt_eq] using hc
    · unfold dg_cst at h
      rw [Bool.eq_false_iff.mpr hc] at h
      cases h
  have h2 := List.all_eq_true.mp dc_cst_ok k (List.mem_range.mpr hk)
  unfold dc_cst at h2
  rw [h] at h2
  dsimp only at h2
  exact dm_in (of_decide_eq_true h2) rfl
theorem dm_stcw {k : Nat} {x : Nat × Nat} (h : dg_stc k = some x) : x.1 < 3 ∧ (Cond.fieldLink (dm_c (k / 512)) (k % 512) "PenArm" (dm_sn x.1) "[I" ∈ dm_TBL ∨ Cond.fieldLinkNest (dm_c (k / 512)) (k % 512) "PenArm" (dm_sn x.1) "[I" "PenArm" ∈ dm_TBL) := by
  have hk : k < 6144 := by
    by_cases hc : Nat.blt k 6144 = true
    · simpa [Nat.blt_eq] using hc
    · unfold dg_stc at h
      rw [Bool.eq_false_iff.mpr hc] at h
      cases h
  have h2 := List.all_eq_true.mp dc_stc_ok k (List.mem_range.mpr hk)
  unfold dc_stc at h2
  rw [h] at h2
  dsimp only at h2
  simp only [Bool.and_eq_true, decide_eq_true_eq] at h2
  refine ⟨h2.2, ?_⟩
  have h3 := h2.1
  by_cases hc : Nat.beq x.2 1 = true
  · rw [hc] at h3
    exact Or.inr (dm_in h3 rfl)
  · rw [Bool.eq_false_iff.mpr hc] at h3
    exact Or.inl (dm_in h3 rfl)
theorem dm_own_lt : ∀ mi, dm_own mi < 11 := by
  intro mi
  unfold dm_own
  repeat' (first | (cases Nat.blt mi _ <;> simp only [cond_true, cond_false]) | decide)
theorem dm_ix {o k : Nat} (hk : k < 512) : (o * 512 + k) / 512 = o ∧ (o * 512 + k) % 512 = k := by omega
section DS
variable {p : Program} {l : Launch} {e : Env} {R : Room} {s : State} {m : MethodId} {args : Array Value} {below : List Frame} {meth : Method} {c : Code} {H H0 : Heap} {locs : List Loc} {cells slots : Nat} {Q : State → Prop}
variable {D : va_G} {cy : Nat → ClassId} {sa : Nat → Nat} {b : Nat} {tb : dT} {h : dH} {cc : ByteArray} {pc : Nat} {lc : Array Slot} {rest : List Value} {own : String}
theorem dm_rget {idx a ci j : Nat} {fs : List Value} {v : Value} (hx : p.tables.exec = Jvm.exec) (hb : c.code = cc) (hts : ∀ w ∈ dm_TBL, w.before args s = true) (hown : s.vm.findClass own = some m.cls) (hW : dm_W D cy sa b tb h s H) (hci : ci < 8) (hj : j < dm_N ci)
    (hl : (Cond.fieldLink own idx (dm_T ci j).1 (dm_T ci j).2.1 (dm_T ci j).2.2.1) ∈ dm_TBL) (ho : dm_obj h a ci = some fs) (hv : fs[j]? = some v) (hd : decode cc pc = .ok (.getfield idx, 3))
    (kk : W p l e R s m args below meth c H locs cells slots Q (F0 m (pc + 3) lc (dm_rv sa b v :: rest))) : W p l e R s m args below meth c H locs cells slots Q (F0 m pc lc (.ref (b + a) :: rest)) := by
  have hP : va_P D vwCl [(b + a, .inr (ci, fs.map (dm_rv sa b)))] H := dm_P1 (hW.2.1 a _ (dm_obj_some ho))
  exact va_get (D := D) (cl := vwCl) (ci := ci) (C := dm_c ci) (T := dm_T ci) (N := dm_N ci) hx hb hts (dm_lay hci) hown hW.2.2.1 hP 0 rfl (dm_cl hci) j hj (hts _ hl) (fun _ h9 => h9) (by rw [List.getElem?_map, hv]; rfl) hd kk
theorem dm_rput {idx a ci j : Nat} {fs : List Value} {v : Value} (hx : p.tables.exec = Jvm.exec) (hb : c.code = cc) (hts : ∀ w ∈ dm_TBL, w.before args s = true) (hown : s.vm.findClass own = some m.cls) (hW : dm_W D cy sa b tb h s H) (hS : va_S (dm_A b) H0 H locs) (hci : ci < 8) (hj : j < dm_N ci)
    (hl : (Cond.fieldLink own idx (dm_T ci j).1 (dm_T ci j).2.1 (dm_T ci j).2.2.1) ∈ dm_TBL) (ho : dm_obj h a ci = some fs) (hlen : j < fs.length) (hn : narrow (dm_ty ci j) (dm_rv sa b v) = dm_rv sa b v) (hfit : fits (dm_ty ci j) (dm_rv sa b v) = true) (hfin : (dm_T ci j).2.2.2 = false ∨ ((dm_T ci j).2.2.2 = true ∧ meth.name = "<init>" ∧ (dm_T ci j).1 = own)) (hd : decode cc pc = .ok (.putfield idx, 3))
    (kk : ∀ (H1 : Heap) (locs1 : List Loc), dm_W D cy sa b tb (h.1, h.2.1, va_up h.2.2 a (some (.inr (ci, fs.set j v)))) s H1 → va_S (dm_A b) H0 H1 locs1 → W p l e R s m args below meth c H1 locs1 cells slots Q (F0 m (pc + 3) lc rest)) : W p l e R s m args below meth c H locs cells slots Q (F0 m pc lc (dm_rv sa b v :: .ref (b + a) :: rest)) := by
  have hin := dm_lay hci
  have hc := dm_cl hci
  have hK := hW.2.2.1
  have hap := va_apart (own := own) hts hin (dm_ty ci) (dm_tyk hci) (dm_nmk hci) hK hc
  obtain ⟨r, h1, cell, q1, q2, q3, q4⟩ := hW.2.1 a _ (dm_obj_some ho)
  have hr : r = (dm_c ci, dm_T ci, dm_N ci) := Option.some.inj (h1.symm.trans hc)
  subst hr
  obtain ⟨hSl, hfc, kC, hkC, hkind⟩ := hK.1 ci _ hc
  obtain ⟨cf, kf, fi, f, hi, hsl⟩ := hSl j hj
  have hst := (u_facts hfc hkC (u_lays hts hin hj) hi).1
  have fin : ∀ (H' : Heap), H'[b + a]? = some (cell.setSlot f.slot (dm_rv sa b v)) → H'.size = H.size → (∀ q, q ≠ b + a → H'[q]? = H[q]?) → W p l e R s m args below meth c H' (locs ++ [⟨b + a, f.slot⟩]) cells slots Q (F0 m (pc + 3) lc rest) := by
    intro H' e1 e2 e3
    refine kk H' _ (hW.up (e := .inr (ci, fs.set j v)) ?_ e2 e3) (hS.put e2 e3 (show b ≤ b + a by omega))
    rw [hsl] at e1
    refine ⟨_, hc, t_OB.to (V := updV (vp_V (fs.map (dm_rv sa b))) j (dm_rv sa b v)) ⟨_, e1, q2, q3, t_set q4 hap hj (dm_rv sa b v)⟩ (fun k _ => ?_)⟩
    rw [vp_updV_set (by rw [List.length_map]; exact hlen)]
    show vp_V ((fs.map (dm_rv sa b)).set j (dm_rv sa b v)) k = vp_V ((fs.set j v).map (dm_rv sa b)) k
    rw [List.map_set]
  rcases hfin with hfin | ⟨hfin, hin2, hdecl⟩
  · have hlay := hts _ (hin _ (u_in_lay hj))
    unfold u_lay at hlay
    rw [if_neg (by rw [hfin]; decide)] at hlay
    have h6 := u_store hfc hkC hkind hlay hi (dm_tyk hci j hj) hn hfit
    exact W.putK hx hb (f := f) ⟨hown, hts _ hl, ⟨_, _, _, hi⟩, hst⟩ (by rw [q2]; exact h6) q1 q3 (by rw [hsl]; exact k2_hasslot (q4 j hj)) rfl rfl hd fin
  · have hlay := hts _ (hin _ (u_in_lay hj))
    unfold u_lay at hlay
    rw [if_pos hfin] at hlay
    have hcf : m.cls = cf := by
      obtain ⟨_, _, c', _, _, _, -, -, hf', -, -, -, hown2, -⟩ := Cond.laysFinal_spec hlay
      have e1 : c' = cf := by have := hi.symm.trans hf'; simp at this; exact this.1.symm
      rw [hdecl] at hown2
      rw [← e1]; exact Option.some.inj (hown.symm.trans hown2)
    have h6 := u_fits hfc hkC hkind (Or.inr hlay) hi (dm_tyk hci j hj) hn hfit
    exact W.putFinK hx hb hown (hts _ hl) hi hst hcf hin2 (by rw [q2]; exact h6) q1 q3 (by rw [hsl]; exact k2_hasslot (q4 j hj)) rfl rfl hd fin
theorem dm_rist {a : Nat} {i x : Int32} {r : Nat × (Nat → Int32)} (hx : p.tables.exec = Jvm.exec) (hb : c.code = cc) (hW : dm_W D cy sa b tb h s H) (hS : va_S (dm_A b) H0 H locs) (ho : dm_rowI h a 0 = some r) (hin : vp_in i r.1) (hd : decode cc pc = .ok (.iastore, 1))
    (kk : ∀ (H1 : Heap) (locs1 : List Loc), dm_W D cy sa b tb (h.1, h.2.1, va_up h.2.2 a (some (.inl (0, r.1, .inl (upd r.2 i.toNatClampNeg x))))) s H1 → va_S (dm_A b) H0 H1 locs1 → W p l e R s m args below meth c H1 locs1 cells slots Q (F0 m (pc + 1) lc rest)) : W p l e R s m args below meth c H locs cells slots Q (F0 m pc lc (.int x :: .int i :: .ref (b + a) :: rest)) := by
  have hat : H[b + a]? = some (vp_cell (cy 0) (r.1, .inl r.2)) := hW.2.1 a _ (dm_rowI_some ho)
  refine W.iast hx hb hat ((hW.2.2.1.2 0 (cy 0, .int) rfl).1 r.1 (fun j => .int (r.2 j))) (fun q => by cases q) (by show ¬ (i < 0 ∨ (arrV _ _ _).slots.size ≤ _); rw [arrV_size]; exact hin) rfl rfl hd fun H1 e1 z oq => ?_
  refine kk H1 _ (hW.up (e := .inl (0, r.1, .inl (upd r.2 i.toNatClampNeg x))) ?_ z oq) (hS.put z oq (show b ≤ b + a by omega))
  show H1[b + a]? = some (vp_cell (cy 0) (r.1, .inl _))
  rw [e1, vp_cell_i, vp_cell_i, arrV_store]
  congr 2
  funext q
  by_cases hq : q = i.toNatClampNeg
  · subst hq
    simp [updV, upd]
  · simp [updV, upd, hq]
theorem dm_rzst {a : Nat} {i x : Int32} {r : Nat × (Nat → Int32)} (hx : p.tables.exec = Jvm.exec) (hb : c.code = cc) (hW : dm_W D cy sa b tb h s H) (hS : va_S (dm_A b) H0 H locs) (ho : dm_rowI h a 1 = some r) (hin : vp_in i r.1) (hb1 : x = 0 ∨ x = 1) (hd : decode cc pc = .ok (.bastore, 1))
    (kk : ∀ (H1 : Heap) (locs1 : List Loc), dm_W D cy sa b tb (h.1, h.2.1, va_up h.2.2 a (some (.inl (1, r.1, .inl (upd r.2 i.toNatClampNeg x))))) s H1 → va_S (dm_A b) H0 H1 locs1 → W p l e R s m args below meth c H1 locs1 cells slots Q (F0 m (pc + 1) lc rest)) : W p l e R s m args below meth c H locs cells slots Q (F0 m pc lc (.int x :: .int i :: .ref (b + a) :: rest)) := by
  have hat : H[b + a]? = some (vp_cell (cy 1) (r.1, .inl r.2)) := hW.2.1 a _ (dm_rowI_some ho)
  have hnr : narrow .boolean (.int x) = .int x := by rcases hb1 with rfl | rfl <;> rfl
  refine W.zast hx hb hat ((hW.2.2.1.2 1 (cy 1, .boolean) rfl).1 r.1 (fun j => .int (r.2 j))) (fun q => by cases q) (by show ¬ (i < 0 ∨ (arrV _ _ _).slots.size ≤ _); rw [arrV_size]; exact hin) rfl rfl hd fun H1 e1 z oq => ?_
  rw [hnr] at e1
  refine kk H1 _ (hW.up (e := .inl (1, r.1, .inl (upd r.2 i.toNatClampNeg x))) ?_ z oq) (hS.put z oq (show b ≤ b + a by omega))
  show H1[b + a]? = some (vp_cell (cy 1) (r.1, .inl _))
  rw [e1, vp_cell_i, vp_cell_i, arrV_store]
  congr 2
  funext q
  by_cases hq : q = i.toNatClampNeg
  · subst hq
    simp [updV, upd]
  · simp [updV, upd, hq]
theorem dm_rast {a v k : Nat} {i : Int32} {r : Nat × Nat × (Nat → Option Nat)} {vs : List Value} (hx : p.tables.exec = Jvm.exec) (hb : c.code = cc) (hW : dm_W D cy sa b tb h s H) (hS : va_S (dm_A b) H0 H locs) (ho : dm_rowR h a = some r) (hv : dm_obj h v (dm_ek r.1) = some vs) (hin : vp_in i r.2.1) (hd : decode cc pc = .ok (.aastore, 1))
    (kk : ∀ (H1 : Heap) (locs1 : List Loc), dm_W D cy sa b tb (h.1, h.2.1, va_up h.2.2 a (some (.inl (r.1, r.2.1, .inr (.inr (.inr (.inr (va_up r.2.2 i.toNatClampNeg (some v))))))))) s H1 → va_S (dm_A b) H0 H1 locs1 → W p l e R s m args below meth c H1 locs1 cells slots Q (F0 m (pc + 1) lc rest)) : W p l e R s m args below meth c H locs cells slots Q (F0 m pc lc (.ref (b + v) :: .int i :: .ref (b + a) :: rest)) := by
  obtain ⟨hr, hk⟩ := dm_rowR_some ho
  have hat : H[b + a]? = some (vp_cell (cy r.1) (r.2.1, .inr (.inr (.inr (.inr fun j => (r.2.2 j).map (fun q => b + q)))))) := hW.2.1 a _ hr
  obtain ⟨t0, Cn, ht, hcl, hlt8⟩ : ∃ (t0 : Nat) (Cn : String), (dm_tys cy)[t0]? = some (cy r.1, FieldType.object Cn) ∧ dm_c (dm_ek r.1) = Cn ∧ dm_ek r.1 < 8 := by
    rcases hk with hk | hk
    · exact ⟨2, "PenArm$Leg", by rw [hk]; rfl, by rw [hk]; rfl, by rw [hk]; decide⟩
    · exact ⟨3, "PenArm$Stroke", by rw [hk]; rfl, by rw [hk]; rfl, by rw [hk]; decide⟩
  subst hcl
  have hlt : i.toNatClampNeg < r.2.1 := Nat.not_le.mp fun q => hin (Or.inr q)
  have h0 : ¬ i < 0 := fun q => hin (Or.inl q)
  obtain ⟨r', hr', cellV, g1, g2, g3, -⟩ := hW.2.1 v _ (dm_obj_some hv)
  have hcls := (hW.2.2.1.1 (dm_ek r.1) _ (dm_cl hlt8)).2
  obtain ⟨kA, comp, k1, k2, k3, -⟩ := (hW.2.2.1.2 t0 _ ht).2
  have hcomp : comp = D.1 (dm_ek r.1) := Option.some.inj (k3.symm.trans hcls.1)
  subst hcomp
  obtain ⟨kC, hkC, -⟩ := hcls.2
  refine W.aast hx hb hat (fun q h => by cases h) (fun h => by cases h) k1 k2 rfl hkC ⟨h0, by show _ < (arrV _ _ _).slots.size; rw [arrV_size]; exact hlt⟩ g1 (fun q h => by rw [g3] at h; cases h) (by rw [g2]; exact hkC) (by rw [g2]; exact va_assign hcls) rfl rfl hd fun H1 e1 z oq => ?_
  refine kk H1 _ (hW.up (e := .inl (r.1, r.2.1, .inr (.inr (.inr (.inr (va_up r.2.2 i.toNatClampNeg (some v))))))) ?_ z oq) (hS.put z oq (show b ≤ b + a by omega))
  show H1[b + a]? = some (vp_cell (cy r.1) (r.2.1, .inr (.inr (.inr (.inr _)))))
  rw [e1, vp_cell_q, vp_cell_q, arrV_store]
  congr 2
  funext q
  by_cases hq : q = i.toNatClampNeg
  · subst hq
    simp [updV, va_up, va_rf]
  · simp [updV, va_up, hq]
theorem dm_rnew {idx ci : Nat} (hx : p.tables.exec = Jvm.exec) (hb : c.code = cc) (hts : ∀ w ∈ dm_TBL, w.before args s = true) (hown : s.vm.findClass own = some m.cls) (hW : dm_W D cy sa b tb h s H) (hS : va_S (dm_A b) H0 H locs) (hb0 : b ≤ H0.size) (hci : ci < 8) (hl : Cond.classLink own idx (dm_c ci) ∈ dm_TBL) (hcells : cells + 1 ≤ R.cells) (hslots : slots + (dm_def ci).length ≤ R.slots) (hd : decode cc pc = .ok (.new idx, 3))
    (kk : ∀ (H1 : Heap), dm_W D cy sa b tb (dm_new h (dm_def ci).length (.inr (ci, dm_def ci))) s H1 → va_S (dm_A b) H0 H1 locs → W p l e R s m args below meth c H1 locs (cells + 1) (slots + (dm_def ci).length) Q (F0 m (pc + 3) lc (.ref (b + h.1) :: rest))) : W p l e R s m args below meth c H locs cells slots Q (F0 m pc lc rest) := by
  obtain ⟨d1, d2, d3⟩ := dm_dfk hci sa b
  have hc := dm_cl hci
  have hKn := hW.2.2.1.1 ci _ hc
  have h3 := List.all_eq_true.mp dc_cl_ok ci (List.mem_range.mpr hci)
  unfold dc_cl at h3
  simp only [Bool.and_eq_true, decide_eq_true_eq] at h3
  have hinst := hts _ (dm_in h3.1 rfl)
  have hini := hts _ (dm_in h3.2.1 rfl)
  rw [d2] at hslots kk
  refine W.newcK hx hb hown (hts _ hl) hinst hini rfl hd hcells hslots hKn.2.1 hW.1 fun H1 kC hkC e1 z1 o1 => ?_
  refine kk H1 (hW.new (e := .inr (ci, dm_def ci)) ?_ (by rw [z1, hW.1]) (fun q hq => o1 q (by rw [hW.1] at hq; exact hq))) ⟨Nat.le_trans hS.1 (by rw [z1, hW.1]; omega), fun q h1 h2 => (o1 q (by have := hS.1; rw [hW.1] at this; omega)).trans (hS.2.1 q h1 h2), hS.2.2⟩
  refine ⟨_, hc, ?_⟩
  show t_OB (b + h.1) (D.1 ci) (dm_N ci) (D.2 ci) H1 (vp_V ((dm_def ci).map (dm_rv sa b)))
  rw [d1]
  exact (u_born (dm_ty ci) hts (dm_lay hci) hKn hkC e1 (dm_tyk hci)).to d3
theorem dm_rnwa {n : Int32} {k t0 : Nat} {at_ : ArrayType} {ty : FieldType} {a0 : vp_A} (hx : p.tables.exec = Jvm.exec) (hb : c.code = cc) (hts : ∀ w ∈ dm_TBL, w.before args s = true) (hW : dm_W D cy sa b tb h s H) (hS : va_S (dm_A b) H0 H locs) (hty : newarray.typeOf at_ = ty) (harr : Cond.arrayClass ty ∈ dm_TBL) (ht : (dm_tys cy)[t0]? = some (cy k, ty)) (hnob : ∀ C, ty ≠ .object C) (hcb : componentBytes ty ≤ 8) (hre : dm_re cy sa b (.inl (k, a0)) = .inl (cy k, a0)) (ha : ∀ cA : ClassId, vp_cell cA a0 = arrV cA n.toNatClampNeg (fun _ => defaultValue ty)) (hn : ¬ (n < 0 ∨ 100000 < n)) (hcells : cells + 1 ≤ R.cells) (hslots : slots + n.toNatClampNeg ≤ R.slots) (hd : decode cc pc = .ok (.newarray at_, 2))
    (kk : ∀ (H1 : Heap), dm_W D cy sa b tb (dm_new h n.toNatClampNeg (.inl (k, a0))) s H1 → va_S (dm_A b) H0 H1 locs → W p l e R s m args below meth c H1 locs (cells + 1) (slots + n.toNatClampNeg) Q (F0 m (pc + 2) lc (.ref (b + h.1) :: rest))) : W p l e R s m args below meth c H locs cells slots Q (F0 m pc lc (.int n :: rest)) := by
  subst hty
  have hn1 : ¬ n < 0 := fun z => hn (Or.inl z)
  have hn2 : n.toNatClampNeg ≤ 100000 := by
    have h1 : ¬ (100000 : Int32) < n := fun z => hn (Or.inr z)
    rw [Int32.lt_iff_toInt_lt] at h1 hn1
    have e1 : (100000 : Int32).toInt = 100000 := by decide
    have e2 : (0 : Int32).toInt = 0 := by decide
    rw [e1] at h1
    rw [e2] at hn1
    have e3 : n.toNatClampNeg = n.toInt.toNat := rfl
    omega
  refine va_newaK hx hb (hts _ harr) rfl hd rfl hn1 rfl (Nat.le_trans (Nat.mul_le_mul hn2 hcb) (by decide)) hcells hslots hW.1 fun H1 cA e1 z1 o1 hAr hNm => ?_
  have hRA := (hW.2.2.1.2 t0 _ ht).2
  have hcA : cA = cy k := by
    have h5 : s.vm.findClass ("[" ++ (newarray.typeOf at_).toString) = some (cy k) := by
      revert hRA
      cases at_ <;> exact fun h => h
    exact Option.some.inj (hNm.symm.trans h5)
  subst hcA
  refine kk H1 (hW.new (e := .inl (k, a0)) ?_ (by rw [z1, hW.1]) (fun q hq => o1 q (by rw [hW.1] at hq; exact hq))) ⟨Nat.le_trans hS.1 (by rw [z1, hW.1]; omega), fun q h1 h2 => (o1 q (by have := hS.1; rw [hW.1] at this; omega)).trans (hS.2.1 q h1 h2), hS.2.2⟩
  rw [hre]
  show H1[b + h.1]? = some (vp_cell (cy k) a0)
  rw [ha]
  exact e1
theorem dm_rnwq {n : Int32} {k t0 idx : Nat} {C : String} (hx : p.tables.exec = Jvm.exec) (hb : c.code = cc) (hts : ∀ w ∈ dm_TBL, w.before args s = true) (hown : s.vm.findClass own = some m.cls) (hW : dm_W D cy sa b tb h s H) (hS : va_S (dm_A b) H0 H locs) (hl : Cond.classLink own idx C ∈ dm_TBL) (hov : Cond.arrayOver (.object C) ∈ dm_TBL) (ht : (dm_tys cy)[t0]? = some (cy k, .object C)) (hn : ¬ (n < 0 ∨ 100000 < n)) (hcells : cells + 1 ≤ R.cells) (hslots : slots + n.toNatClampNeg ≤ R.slots) (hd : decode cc pc = .ok (.anewarray idx, 3))
    (kk : ∀ (H1 : Heap), dm_W D cy sa b tb (dm_new h n.toNatClampNeg (.inl (k, n.toNatClampNeg, .inr (.inr (.inr (.inr fun _ => none)))))) s H1 → va_S (dm_A b) H0 H1 locs → W p l e R s m args below meth c H1 locs (cells + 1) (slots + n.toNatClampNeg) Q (F0 m (pc + 3) lc (.ref (b + h.1) :: rest))) : W p l e R s m args below meth c H locs cells slots Q (F0 m pc lc (.int n :: rest)) := by
  have hn1 : ¬ n < 0 := fun z => hn (Or.inl z)
  have hn2 : n.toNatClampNeg ≤ 100000 := by
    have h1 : ¬ (100000 : Int32) < n := fun z => hn (Or.inr z)
    rw [Int32.lt_iff_toInt_lt] at h1 hn1
    have e1 : (100000 : Int32).toInt = 100000 := by decide
    have e2 : (0 : Int32).toInt = 0 := by decide
    rw [e1] at h1
    rw [e2] at hn1
    have e3 : n.toNatClampNeg = n.toInt.toNat := rfl
    omega
  refine W.anew hx hb hown (hts _ hl) (hts _ hov) rfl hd rfl hn1 (by omega) hcells hslots fun cA kA comp f1 f2 f3 f4 => ?_
  generalize hH1 : H.push ({ cls := cA, slots := Array.replicate n.toNatClampNeg .null, vm := .none } : Cell) = H1
  have z1 : H1.size = H.size + 1 := by rw [← hH1, Array.size_push]
  have e1 : H1[H.size]? = some (arrV cA n.toNatClampNeg (fun _ => .null)) := by rw [← hH1, Array.getElem?_push_size, ← arrV_new]
  have o1 : ∀ q : Nat, q < H.size → H1[q]? = H[q]? := fun q hq => by rw [← hH1, Array.getElem?_push, if_neg (Nat.ne_of_lt hq)]
  obtain ⟨kA', comp', g1, g2, g3, g4⟩ := (hW.2.2.1.2 t0 _ ht).2
  have hcA : cA = cy k := Option.some.inj (f1.symm.trans g4)
  subst hcA
  have hkk := kk H1 (hW.new (e := .inl (k, n.toNatClampNeg, .inr (.inr (.inr (.inr fun _ => none))))) (by
    show H1[b + h.1]? = some (vp_cell (cy k) (n.toNatClampNeg, .inr (.inr (.inr (.inr fun _ => none)))))
    rw [← hW.1, e1, vp_cell_q]
    rfl) z1 o1) ⟨Nat.le_trans hS.1 (by omega), fun q h1 h2 => (o1 q (Nat.lt_of_lt_of_le h1 hS.1)).trans (hS.2.1 q h1 h2), hS.2.2⟩
  rw [← hW.1] at hkk
  exact hkk
end DS
