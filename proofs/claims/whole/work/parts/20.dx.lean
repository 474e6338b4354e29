/-! THE MACHINE WITHOUT FUEL: dX is what dm_run comes to; it satisfies the machine's own equation -/
section DX
theorem dn_ni {ρ τ : Type} (v : Option Value) (K : Int32 → Option ρ) (F : ρ → Option τ) : (dm_ni v K).bind F = dm_ni v fun x => (K x).bind F := by unfold dm_ni; split <;> rfl
theorem dn_nl {ρ τ : Type} (v : Option Value) (K : Int64 → Option ρ) (F : ρ → Option τ) : (dm_nl v K).bind F = dm_nl v fun x => (K x).bind F := by unfold dm_nl; split <;> rfl
theorem dn_nr {ρ τ : Type} (v : Option Value) (K : Value → Option ρ) (F : ρ → Option τ) : (dm_nr v K).bind F = dm_nr v fun x => (K x).bind F := by unfold dm_nr; split <;> rfl
theorem dn_i1 {ρ τ : Type} (st : List Value) (K : Int32 → List Value → Option ρ) (F : ρ → Option τ) : (dm_i1 st K).bind F = dm_i1 st fun x r => (K x r).bind F := by unfold dm_i1; split <;> rfl
theorem dn_i2 {ρ τ : Type} (st : List Value) (K : Int32 → Int32 → List Value → Option ρ) (F : ρ → Option τ) : (dm_i2 st K).bind F = dm_i2 st fun x y r => (K x y r).bind F := by unfold dm_i2; split <;> rfl
theorem dn_l2 {ρ τ : Type} (st : List Value) (K : Int64 → Int64 → List Value → Option ρ) (F : ρ → Option τ) : (dm_l2 st K).bind F = dm_l2 st fun x y r => (K x y r).bind F := by unfold dm_l2; split <;> rfl
theorem dn_if {ρ τ : Type} (c : ClassFile.Cond) (x y : Int32) (a b : Option ρ) (F : ρ → Option τ) : (dm_if c x y a b).bind F = dm_if c x y (a.bind F) (b.bind F) := by cases c <;> unfold dm_if <;> dsimp only <;> split <;> rfl
theorem dn_at {α ρ τ : Type} (i : Int32) (n : Nat) (f : Nat → α) (K : α → Option ρ) (F : ρ → Option τ) : (dm_at i n f K).bind F = dm_at i n f fun x => (K x).bind F := by unfold dm_at; split <;> rfl
theorem dn_ite {ρ τ : Type} (c : Prop) [Decidable c] (a b : Option ρ) (F : ρ → Option τ) : (if c then a else b).bind F = if c then a.bind F else b.bind F := by split <;> rfl
theorem dn_bif {ρ τ : Type} (c : Bool) (a b : Option ρ) (F : ρ → Option τ) : (bif c then a else b).bind F = bif c then a.bind F else b.bind F := by cases c <;> rfl
set_option maxHeartbeats 8000000 in
theorem dm_step_nat {ρ : Type} (tb : dT) (mi : Nat) (i : Instr) (pc : Nat) (ls st : List Value) (h : dH) (K : Nat → List Value → List Value → dH → Option ρ) :
    dm_step tb mi i pc ls st h K = (dm_step tb mi i pc ls st h fun a b c e => some (a, b, c, e)).bind fun q => K q.1 q.2.1 q.2.2.1 q.2.2.2 := by
  cases i <;> first
    | rfl
    | (simp only [dm_step, dn_ni, dn_nl, dn_nr, dn_i1, dn_i2, dn_l2, dn_if, dn_at, dn_ite, dn_bif, Option.bind_assoc, Option.bind_some, Option.bind_none]; done)
    | (simp only [dm_step]; split <;> first
        | rfl
        | (simp only [dn_ni, dn_nl, dn_nr, dn_i1, dn_i2, dn_l2, dn_if, dn_at, dn_ite, dn_bif, Option.bind_assoc, Option.bind_some, Option.bind_none]; done))
    | (rename_i t; cases t <;> simp only [dm_step, dn_i1, dn_ite, Option.bind_some, Option.bind_none])
abbrev dR : Type := Option Value × dH
abbrev dMc : Type := Nat → Nat → Nat → List Value → List Value → dH → Option dR
abbrev dQ : Type := (Nat × Nat × Nat × List Value × List Value × dH) × dR
def dm_q (R : dMc) (q : dQ) : Prop := R q.1.1 q.1.2.1 q.1.2.2.1 q.1.2.2.2.1 q.1.2.2.2.2.1 q.1.2.2.2.2.2 = some q.2
def dm_F (tb : dT) (R : dMc) : dMc := fun d mi pc ls st h => match dm_code mi pc with
    | none => none
    | some i => dm_one (fun t as h => R (d - 1) t 0 as [] h) (fun as h => R (d - 2) 85 0 as [] h) (fun v h => some (v, h)) tb (Nat.blt 0 d) (Nat.blt 1 d) mi i pc ls st h fun pc ls st h => R d mi pc ls st h
theorem dm_run_F (tb : dT) (n d mi pc : Nat) (ls st : List Value) (h : dH) : dm_run tb (n + 1) d mi pc ls st h = dm_F tb (dm_run tb n) d mi pc ls st h := rfl
theorem dm_step_use {tb : dT} {mi pc : Nat} {i : Instr} {ls st : List Value} {h : dH} {r : dR} {K : Nat → List Value → List Value → dH → Option dR} (hK : dm_step tb mi i pc ls st h K = some r) :
    ∃ a b c e, K a b c e = some r ∧ ∀ K' : Nat → List Value → List Value → dH → Option dR, K' a b c e = some r → dm_step tb mi i pc ls st h K' = some r := by
  rw [dm_step_nat] at hK
  obtain ⟨q, h1, h2⟩ := dm_bn hK
  exact ⟨q.1, q.2.1, q.2.2.1, q.2.2.2, h2, fun K' h => by rw [dm_step_nat, h1]; exact h⟩
theorem dm_call_use {run : Nat → List Value → dH → Option dR} {m : Nat × Nat × Nat × Nat × Nat} {spec : Nat} {st : List Value} {h : dH} {K : List Value → dH → Option dR} {r : dR} (hK : dm_call run m spec st h K = some r) :
    ∃ as v c e, run m.2.1 as h = some v ∧ K c e = some r ∧ ∀ (run' : Nat → List Value → dH → Option dR) (K' : List Value → dH → Option dR), run' m.2.1 as h = some v → K' c e = some r → dm_call run' m spec st h K' = some r := by
  obtain ⟨h1, h2⟩ := dm_bif hK
  obtain ⟨h3, h4⟩ := dm_bif h2
  have go : ∀ (run' : Nat → List Value → dH → Option dR) (K' : List Value → dH → Option dR) (o : Option dR), o = some r → (match m.2.2.2.2 with
        | 0 => dm_asV (run' m.2.1 (dm_pad m.2.2.2.1 (dm_args (bif Nat.beq spec 1 then m.2.2.1 else m.2.2.1 + 1) st)) h) fun h => K' (st.drop (bif Nat.beq spec 1 then m.2.2.1 else m.2.2.1 + 1)) h
        | 1 => dm_asI (run' m.2.1 (dm_pad m.2.2.2.1 (dm_args (bif Nat.beq spec 1 then m.2.2.1 else m.2.2.1 + 1) st)) h) fun x h => K' (.int x :: st.drop (bif Nat.beq spec 1 then m.2.2.1 else m.2.2.1 + 1)) h
        | _ => dm_asR (run' m.2.1 (dm_pad m.2.2.2.1 (dm_args (bif Nat.beq spec 1 then m.2.2.1 else m.2.2.1 + 1) st)) h) fun x h => K' (.ref x :: st.drop (bif Nat.beq spec 1 then m.2.2.1 else m.2.2.1 + 1)) h) = o → dm_call run' m spec st h K' = some r := by
    intro run' K' o ho hm
    unfold dm_call
    rw [h1]
    dsimp only [cond_true]
    rw [h3]
    dsimp only [cond_true]
    exact hm.trans ho
  split at h4
  · rename_i hm
    obtain ⟨h', h5, h6⟩ := dm_asV_some h4
    refine ⟨_, _, _, _, h5, h6, fun run' K' a b => go run' K' _ b ?_⟩
    rw [hm]
    show dm_asV _ _ = _
    rw [a]
    rfl
  · rename_i hm
    obtain ⟨x, h', h5, h6⟩ := dm_asI_some h4
    refine ⟨_, _, _, _, h5, h6, fun run' K' a b => go run' K' _ b ?_⟩
    rw [hm]
    show dm_asI _ _ = _
    rw [a]
    rfl
  · rename_i hm1 hm2
    obtain ⟨x, h', h5, h6⟩ := dm_asR_some h4
    refine ⟨_, _, _, _, h5, h6, fun run' K' a b => go run' K' _ b ?_⟩
    split
    · rename_i z; exact absurd z hm1
    · rename_i z; exact absurd z hm2
    · rw [a]
      rfl
set_option maxHeartbeats 8000000 in
theorem dm_F_use {tb : dT} {R : dMc} {d mi pc : Nat} {ls st : List Value} {h : dH} {r : dR} (hF : dm_F tb R d mi pc ls st h = some r) :
    ∃ Q : List dQ, (∀ q ∈ Q, dm_q R q) ∧ ∀ R' : dMc, (∀ q ∈ Q, dm_q R' q) → dm_F tb R' d mi pc ls st h = some r := by
  unfold dm_F at hF ⊢
  cases hc : dm_code mi pc with
  | none => rw [hc] at hF; cases hF
  | some i =>
    rw [hc] at hF
    dsimp only at hF ⊢
    have hst : dm_step tb mi i pc ls st h (fun pc ls st h => R d mi pc ls st h) = some r → ∃ Q : List dQ, (∀ q ∈ Q, dm_q R q) ∧ ∀ R' : dMc, (∀ q ∈ Q, dm_q R' q) → dm_step tb mi i pc ls st h (fun pc ls st h => R' d mi pc ls st h) = some r := by
      intro hj
      obtain ⟨a, b, c, e, h1, h2⟩ := dm_step_use hj
      refine ⟨[((d, mi, a, b, c, e), r)], ?_, fun R' h' => h2 _ (h' _ (List.mem_singleton.mpr rfl))⟩
      intro q hq; rw [List.mem_singleton.mp hq]; exact h1
    have hca : ∀ m spec, dm_call (fun t as h => R (d - 1) t 0 as [] h) m spec st h (fun st h => R d mi (pc + 3) ls st h) = some r → ∃ Q : List dQ, (∀ q ∈ Q, dm_q R q) ∧ ∀ R' : dMc, (∀ q ∈ Q, dm_q R' q) → dm_call (fun t as h => R' (d - 1) t 0 as [] h) m spec st h (fun st h => R' d mi (pc + 3) ls st h) = some r := by
      intro m spec hj
      obtain ⟨as, v, c, e, h1, h2, h3⟩ := dm_call_use hj
      refine ⟨[((d - 1, m.2.1, 0, as, [], h), v), ((d, mi, pc + 3, ls, c, e), r)], ?_, fun R' h' => h3 _ _ (h' _ List.mem_cons_self) (h' _ (List.mem_cons_of_mem _ (List.mem_singleton.mpr rfl)))⟩
      intro q hq
      rcases List.mem_cons.mp hq with rfl | hq
      · exact h1
      · rw [List.mem_singleton.mp hq]; exact h2
    cases i with
    | ireturn => exact ⟨[], fun q hq => absurd hq List.not_mem_nil, fun R' _ => hF⟩
    | areturn => exact ⟨[], fun q hq => absurd hq List.not_mem_nil, fun R' _ => hF⟩
    | return_ => exact ⟨[], fun q hq => absurd hq List.not_mem_nil, fun R' _ => hF⟩
    | new k =>
      unfold dm_one at hF ⊢
      dsimp only at hF ⊢
      revert hF
      cases hb : (Nat.beq mi 85 && Nat.beq pc 33) with
      | true => intro hF; exact ⟨[], fun q hq => absurd hq List.not_mem_nil, fun R' _ => hF⟩
      | false => intro hF; exact hst hF
    | invokevirtual k =>
      unfold dm_one at hF ⊢
      dsimp only at hF ⊢
      cases hb : Nat.blt 0 d with
      | false => rw [hb] at hF; cases hF
      | true =>
        rw [hb] at hF
        dsimp only [cond_true] at hF ⊢
        obtain ⟨m, h1, h2⟩ := dm_bn hF
        rw [h1]
        exact hca _ _ h2
    | invokespecial k =>
      unfold dm_one at hF ⊢
      dsimp only at hF ⊢
      cases hb : Nat.blt 0 d with
      | false => rw [hb] at hF; cases hF
      | true =>
        rw [hb] at hF
        dsimp only [cond_true] at hF ⊢
        obtain ⟨m, h1, h2⟩ := dm_bn hF
        rw [h1]
        dsimp only [Option.bind_some]
        revert h2
        cases h5 : Nat.beq m.1 5 with
        | false => intro h2; exact hca m 2 h2
        | true =>
          intro h2
          dsimp only [cond_true] at h2 ⊢
          split at h2
          · rename_i x rs
            obtain ⟨h8, h9⟩ := dm_bif h2
            exact ⟨[((d, mi, pc + 3, ls, rs, h), r)], fun q hq => by rw [List.mem_singleton.mp hq]; exact h9, fun R' h' => by (try dsimp only); rw [h8]; exact h' _ (List.mem_singleton.mpr rfl)⟩
          · cases h2
    | invokestatic k =>
      unfold dm_one at hF ⊢
      dsimp only at hF ⊢
      cases hb : Nat.blt 0 d with
      | false => rw [hb] at hF; cases hF
      | true =>
        rw [hb] at hF
        dsimp only [cond_true] at hF ⊢
        obtain ⟨m, h1, h2⟩ := dm_bn hF
        rw [h1]
        dsimp only [Option.bind_some] at h2 ⊢
        obtain ⟨m1, m2⟩ := m
        dsimp only at h2 ⊢
        split at h2
        · unfold dm_i1 at h2 ⊢
          split at h2
          · rename_i x rs
            obtain ⟨h8, h9⟩ := dm_bif h2
            exact ⟨[((d, mi, pc + 3, ls, _, h), r)], fun q hq => by rw [List.mem_singleton.mp hq]; exact h9, fun R' h' => by (try dsimp only); rw [h8]; exact h' _ (List.mem_singleton.mpr rfl)⟩
          · cases h2
        · unfold dm_i2 at h2 ⊢
          split at h2
          · rename_i y x rs
            obtain ⟨h8, h9⟩ := dm_bif h2
            exact ⟨[((d, mi, pc + 3, ls, _, h), r)], fun q hq => by rw [List.mem_singleton.mp hq]; exact h9, fun R' h' => by (try dsimp only); rw [h8]; exact h' _ (List.mem_singleton.mpr rfl)⟩
          · cases h2
        · unfold dm_i2 at h2 ⊢
          split at h2
          · rename_i y x rs
            obtain ⟨h8, h9⟩ := dm_bif h2
            exact ⟨[((d, mi, pc + 3, ls, _, h), r)], fun q hq => by rw [List.mem_singleton.mp hq]; exact h9, fun R' h' => by (try dsimp only); rw [h8]; exact h' _ (List.mem_singleton.mpr rfl)⟩
          · cases h2
        · split at h2
          · rename_i out p2 p1 p0 x
            obtain ⟨h8, h9⟩ := dm_bif h2
            · rw [h8]
              dsimp only [cond_true]
              rcases dm_lat_some h9 with ⟨y, g1, g2, e1, e2, e3⟩ | ⟨w, g1, e1, e3⟩
              · refine ⟨[((d - 2, 85, 0, [.ref x, .int p0, .int p1, .int p2, .null], [], h), (some (.int y), g1)), ((d, mi, pc + 3, ls, [.int 0], g2), r)], ?_, fun R' h' => ?_⟩
                · intro q hq
                  rcases List.mem_cons.mp hq with rfl | hq
                  · exact e1
                  · rw [List.mem_singleton.mp hq]; exact e3
                · have a1 : R' (d - 2) 85 0 [.ref x, .int p0, .int p1, .int p2, .null] [] h = some (some (.int y), g1) := h' _ List.mem_cons_self
                  have a2 : R' d mi (pc + 3) ls [.int 0] g2 = some r := h' _ (List.mem_cons_of_mem _ (List.mem_singleton.mpr rfl))
                  unfold dm_lat
                  rw [a1]
                  dsimp only [Option.bind_some]
                  rw [e2]
                  exact a2
              · refine ⟨[((d - 2, 85, 0, [.ref x, .int p0, .int p1, .int p2, .null], [], h), (some (.retAddr w), g1)), ((d, mi, pc + 3, ls, [.int 1], (g1.1 + 1, g1.2.1 + 6, g1.2.2)), r)], ?_, fun R' h' => ?_⟩
                · intro q hq
                  rcases List.mem_cons.mp hq with rfl | hq
                  · exact e1
                  · rw [List.mem_singleton.mp hq]; exact e3
                · have a1 : R' (d - 2) 85 0 [.ref x, .int p0, .int p1, .int p2, .null] [] h = some (some (.retAddr w), g1) := h' _ List.mem_cons_self
                  have a2 : R' d mi (pc + 3) ls [.int 1] (g1.1 + 1, g1.2.1 + 6, g1.2.2) = some r := h' _ (List.mem_cons_of_mem _ (List.mem_singleton.mpr rfl))
                  unfold dm_lat
                  rw [a1]
                  exact a2
          · cases h2
        · exact hca _ _ h2
    | _ => exact hst hF
theorem dm_up1 (tb : dT) : ∀ n d mi pc ls st h r, dm_run tb n d mi pc ls st h = some r → dm_run tb (n + 1) d mi pc ls st h = some r := by
  intro n
  induction n with
  | zero => intro d mi pc ls st h r hr; cases hr
  | succ n ih =>
    intro d mi pc ls st h r hr
    rw [dm_run_F] at hr ⊢
    obtain ⟨Q, h1, h2⟩ := dm_F_use hr
    exact h2 _ fun q hq => ih _ _ _ _ _ _ _ (h1 q hq)
theorem dm_up (tb : dT) {n m : Nat} (hnm : n ≤ m) {d mi pc : Nat} {ls st : List Value} {h : dH} {r : dR} (hr : dm_run tb n d mi pc ls st h = some r) : dm_run tb m d mi pc ls st h = some r := by
  obtain ⟨k, rfl⟩ := Nat.exists_eq_add_of_le hnm
  induction k with
  | zero => exact hr
  | succ k ih => exact dm_up1 tb _ _ _ _ _ _ _ _ (ih (Nat.le_add_right _ _))
noncomputable def dX (tb : dT) : dMc := fun d mi pc ls st h => dm_run tb (Classical.epsilon fun n => (dm_run tb n d mi pc ls st h).isSome = true) d mi pc ls st h
theorem dX_iff {tb : dT} {d mi pc : Nat} {ls st : List Value} {h : dH} {r : dR} : dX tb d mi pc ls st h = some r ↔ ∃ n, dm_run tb n d mi pc ls st h = some r := by
  constructor
  · intro hr; exact ⟨_, hr⟩
  · intro ⟨n, hr⟩
    have he := Classical.epsilon_spec (p := fun n => (dm_run tb n d mi pc ls st h).isSome = true) ⟨n, by rw [hr]; rfl⟩
    obtain ⟨r2, hr2⟩ := Option.isSome_iff_exists.mp he
    have b := dm_up tb (Nat.le_max_right n _) hr2
    rw [dm_up tb (Nat.le_max_left n _) hr] at b
    cases b
    exact hr2
theorem dX_list {tb : dT} : ∀ Q : List dQ, (∀ q ∈ Q, dm_q (dX tb) q) → ∃ n, ∀ q ∈ Q, dm_q (dm_run tb n) q := by
  intro Q
  induction Q with
  | nil => intro _; exact ⟨0, fun q hq => absurd hq List.not_mem_nil⟩
  | cons q Q ih =>
    intro h
    obtain ⟨n, hn⟩ := ih fun q hq => h q (List.mem_cons_of_mem _ hq)
    obtain ⟨m, hm⟩ := dX_iff.mp (h q List.mem_cons_self)
    refine ⟨max n m, fun q2 hq2 => ?_⟩
    rcases List.mem_cons.mp hq2 with rfl | hq2
    · exact dm_up tb (Nat.le_max_right _ _) hm
    · exact dm_up tb (Nat.le_max_left _ _) (hn q2 hq2)
theorem dX_s (tb : dT) (d mi pc : Nat) (ls st : List Value) (h : dH) : dX tb d mi pc ls st h = dm_F tb (dX tb) d mi pc ls st h := by
  refine Option.ext fun r => ⟨fun hr => ?_, fun hr => ?_⟩
  · obtain ⟨n, hn⟩ := dX_iff.mp hr
    cases n with
    | zero => cases hn
    | succ n =>
      rw [dm_run_F] at hn
      obtain ⟨Q, h1, h2⟩ := dm_F_use hn
      exact h2 _ fun q hq => dX_iff.mpr ⟨n, h1 q hq⟩
  · obtain ⟨Q, h1, h2⟩ := dm_F_use hr
    obtain ⟨n, hn⟩ := dX_list Q h1
    exact dX_iff.mpr ⟨n + 1, by rw [dm_run_F]; exact h2 _ hn⟩
def dm_Mc (tb : dT) (R : Nat → dMc) : Prop := ∀ n d mi pc ls st h, R (n + 1) d mi pc ls st h = dm_F tb (R n) d mi pc ls st h
theorem dX_Mc (tb : dT) : dm_Mc tb (fun _ => dX tb) := fun _ d mi pc ls st h => dX_s tb d mi pc ls st h
end DX
