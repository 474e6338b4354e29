/-! THE CONSTRUCTORS -/
section CTR
variable {tb : dT} {d c t n : Nat} {H : Nat → Option dE}
theorem va_comm {α : Type} (f : Nat → α) {a b : Nat} (x y : α) (h : a ≠ b) : va_up (va_up f a x) b y = va_up (va_up f b y) a x := by
  funext i
  show (if i = b then y else if i = a then x else f i) = (if i = a then x else if i = b then y else f i)
  by_cases q : i = a
  · have q2 : i ≠ b := by omega
    rw [if_neg q2, if_pos q, if_pos q]
  · by_cases q2 : i = b
    · rw [if_pos q2, if_neg q, if_pos q2]
    · rw [if_neg q2, if_neg q, if_neg q, if_neg q2]
theorem n_0 {e : dE} : dm_new (c, t, H) n e = (c + 1, t + n, va_up H c (some e)) := (Eq.refl _).trans rfl
theorem n_C {a : Nat} {x : Option dE} {e : dE} (h : c ≠ a) : dm_new (c, t, va_up H a x) n e = (c + 1, t + n, va_up (va_up H c (some e)) a x) := by
  rw [n_0, va_comm _ _ _ (Ne.symm h)]
theorem u_put {a ci j : Nat} {fs : List Value} {v : Value} (h : H a = some (.inr (ci, fs))) (hj : Nat.blt j fs.length = true) : dm_put (c, t, H) a ci j v = some (c, t, va_up H a (some (.inr (ci, fs.set j v)))) := by
  unfold dm_put dm_obj
  dsimp only
  rw [h]
  show Option.bind (bif Nat.beq ci ci then some fs else none) _ = _
  rw [Nat.beq_refl, cond_true, Option.bind_some, hj, cond_true]
theorem p_C {a ci j : Nat} {fs : List Value} {v : Value} (hj : Nat.blt j fs.length = true) : dm_put (c, t, va_up H a (some (.inr (ci, fs)))) a ci j v = some (c, t, va_up H a (some (.inr (ci, fs.set j v)))) := by
  rw [u_put (va_up_self _ _ _) hj, va_again]
theorem u_get {a ci j r : Nat} {fs : List Value} (h : H a = some (.inr (ci, fs))) (hj : fs[j]? = some (.ref r)) : dm_getR (c, t, H) a ci j = some r := by
  unfold dm_getR dm_obj
  dsimp only
  rw [h]
  show Option.bind (bif Nat.beq ci ci then some fs else none) _ = _
  rw [Nat.beq_refl, cond_true, Option.bind_some, hj]
theorem u_stI {a k n m : Nat} {f : Nat → Int32} {v : Int32} (h : H a = some (.inl (k, n, .inl f))) (hm : m < n) (hb : m < 2 ^ 31) : dm_stI (c, t, H) a k (Int32.ofNat m) v = some (c, t, va_up H a (some (.inl (k, n, .inl (upd f m v))))) := by
  unfold dm_stI dm_rowI
  dsimp only
  rw [h]
  show Option.bind (bif Nat.beq k k then some (n, f) else none) _ = _
  rw [Nat.beq_refl, cond_true, Option.bind_some, i_at hm hb]
  rfl
theorem s_Cm {a b k n m : Nat} {f : Nat → Int32} {v : Int32} {x : Option dE} (hab : b ≠ a) (hm : m < n) (hb : m < 2 ^ 31) : dm_stI (c, t, va_up (va_up H b (some (.inl (k, n, .inl f)))) a x) b k (Int32.ofNat m) v = some (c, t, va_up (va_up H b (some (.inl (k, n, .inl (upd f m v))))) a x) := by
  rw [u_stI (f := f) (n := n) (by rw [va_up_ne _ _ hab, va_up_self]) hm hb, va_comm _ _ _ (Ne.symm hab), va_again]
theorem s_C0 {a b k n : Nat} {f : Nat → Int32} {v : Int32} {x : Option dE} (hab : b ≠ a) (hm : 0 < n) : dm_stI (c, t, va_up (va_up H b (some (.inl (k, n, .inl f)))) a x) b k 0 v = some (c, t, va_up (va_up H b (some (.inl (k, n, .inl (upd f 0 v))))) a x) := s_Cm hab hm (by decide)
theorem s_C1 {a b k n : Nat} {f : Nat → Int32} {v : Int32} {x : Option dE} (hab : b ≠ a) (hm : 1 < n) : dm_stI (c, t, va_up (va_up H b (some (.inl (k, n, .inl f)))) a x) b k 1 v = some (c, t, va_up (va_up H b (some (.inl (k, n, .inl (upd f 1 v))))) a x) := s_Cm hab hm (by decide)
theorem s_C2 {a b k n : Nat} {f : Nat → Int32} {v : Int32} {x : Option dE} (hab : b ≠ a) (hm : 2 < n) : dm_stI (c, t, va_up (va_up H b (some (.inl (k, n, .inl f)))) a x) b k 2 v = some (c, t, va_up (va_up H b (some (.inl (k, n, .inl (upd f 2 v))))) a x) := s_Cm hab hm (by decide)
theorem s_C3 {a b k n : Nat} {f : Nat → Int32} {v : Int32} {x : Option dE} (hab : b ≠ a) (hm : 3 < n) : dm_stI (c, t, va_up (va_up H b (some (.inl (k, n, .inl f)))) a x) b k 3 v = some (c, t, va_up (va_up H b (some (.inl (k, n, .inl (upd f 3 v))))) a x) := s_Cm hab hm (by decide)
theorem s_C4 {a b k n : Nat} {f : Nat → Int32} {v : Int32} {x : Option dE} (hab : b ≠ a) (hm : 4 < n) : dm_stI (c, t, va_up (va_up H b (some (.inl (k, n, .inl f)))) a x) b k 4 v = some (c, t, va_up (va_up H b (some (.inl (k, n, .inl (upd f 4 v))))) a x) := s_Cm hab hm (by decide)
def prc : Nat → Int32 := upd (upd (upd (upd (upd (fun _ => 0) 0 2) 1 1) 2 5) 3 30) 4 3
def hd0 : Nat → Int32 := fun j => bif Nat.beq j 2 then -1 else 0
def m0 : Nat → Int32 := fun j => bif Nat.beq j 13 then -1 else 0
/-- the ints of a new heap -/
def sg0 : dSg := fun a => bif Nat.beq a 4 then prc else bif Nat.beq a 45 then hd0 else bif Nat.beq a 47 then hd0 else bif Nat.beq a 59 then hd0 else bif Nat.beq a 270 then m0 else bif Nat.beq a 276 then prc else fun _ => 0
def SH0 : Nat → Option dSh := SH (fun _ => false) 48
/-- the cells of a new heap -/
def cel (a : Nat) : Option dE := match SH0 a with
  | some s => some (hp_c s (sg0 a))
  | none => none
def Bt (H H' : Nat → Option dE) (lo hi : Nat) : Prop := (∀ a, a < lo ∨ hi ≤ a → H' a = H a) ∧ ∀ a, lo ≤ a → a < hi → H' a = cel a
theorem k_X0 {b a : Nat} {x : Option dE} (h : b ≠ a) : dX tb (d + 1) 0 0 [.ref b] [] (c, t, va_up (va_up H b (some (.inr (0, dm_def 0)))) a x) = some (none, (c, t, va_up (va_up H b (some (.inr (0, (dm_def 0).set 2 (.int (-1)))))) a x)) := by
  rw [sg_X0_init_0, va_comm _ _ _ h, p_C (by decide), bq_s, va_comm _ _ _ (Ne.symm h)]
theorem k_X0b {b : Nat} : dX tb (d + 1) 0 0 [.ref b] [] (c, t, va_up H b (some (.inr (0, dm_def 0)))) = some (none, (c, t, va_up H b (some (.inr (0, (dm_def 0).set 2 (.int (-1))))))) := by
  rw [sg_X0_init_0, p_C (by decide), bq_s]
theorem k_X7 : ∃ t' H', dX tb (d + 1) 89 0 [.ref 270] [] (dm_new (270, t, H) 37 (.inr (7, dm_def 7))) = some (none, (295, t', H')) ∧ t' ≤ t + 26762 ∧ Bt H H' 270 295 := by
  have e := sg_X7_init_0 tb d 270 (271, t + 37, va_up H 270 (some (.inr (7, dm_def 7))))
  simp (disch := first | omega | decide | (simp only [List.length_set]; decide)) only [n_C, p_C, s_C0, s_C1, s_C2, s_C3, s_C4, bq_s] at e
  refine ⟨_, _, e, by omega, fun a ha => ?_, fun a h1 h2 => ?_⟩
  · simp (disch := omega) only [va_up_ne]
  · have h : a = 270 ∨ a = 271 ∨ a = 272 ∨ a = 273 ∨ a = 274 ∨ a = 275 ∨ a = 276 ∨ a = 277 ∨ a = 278 ∨ a = 279 ∨ a = 280 ∨ a = 281 ∨ a = 282 ∨ a = 283 ∨ a = 284 ∨ a = 285 ∨ a = 286 ∨ a = 287 ∨ a = 288 ∨ a = 289 ∨ a = 290 ∨ a = 291 ∨ a = 292 ∨ a = 293 ∨ a = 294 := by omega
    rcases h with rfl | rfl | rfl | rfl | rfl | rfl | rfl | rfl | rfl | rfl | rfl | rfl | rfl | rfl | rfl | rfl | rfl | rfl | rfl | rfl | rfl | rfl | rfl | rfl | rfl <;> rfl
theorem k_X2 : ∃ t' H', dX tb (d + 2) 10 0 [.ref 46, .ref 1, .ref 45] [] (dm_new (46, t, H) 17 (.inr (2, dm_def 2))) = some (none, (57, t', H')) ∧ t' ≤ t + 317 ∧ Bt H H' 46 57 := by
  have e := sg_X2_init_0 tb (d + 1) 46 1 45 (47, t + 17, va_up H 46 (some (.inr (2, dm_def 2))))
  simp (disch := first | omega | decide | (simp only [List.length_set]; decide)) only [n_C, p_C, k_X0, aq_V, bq_s] at e
  refine ⟨_, _, e, by omega, fun a ha => ?_, fun a h1 h2 => ?_⟩
  · simp (disch := omega) only [va_up_ne]
  · have h : a = 46 ∨ a = 47 ∨ a = 48 ∨ a = 49 ∨ a = 50 ∨ a = 51 ∨ a = 52 ∨ a = 53 ∨ a = 54 ∨ a = 55 ∨ a = 56 := by omega
    rcases h with rfl | rfl | rfl | rfl | rfl | rfl | rfl | rfl | rfl | rfl | rfl <;> rfl
theorem k_X5 : ∃ H', dX tb (d + 1) 55 0 [.ref c] [] (dm_new (c, t, H) 11 (.inr (5, dm_def 5))) = some (none, (c + 5, t + 59, H')) ∧ (∀ a, a < c ∨ c + 5 ≤ a → H' a = H a) ∧ H' c = some (.inr (5, [.int 0, .int 0, .int 0, .int 0, .int 0, .int 0, .int 0, .ref (c + 1), .ref (c + 2), .ref (c + 3), .ref (c + 4)])) ∧ ∀ a, c < a → a < c + 5 → H' a = some (.inl (0, 12, .inl fun _ => 0)) := by
  have e := sg_X5_init_0 tb d c (c + 1, t + 11, va_up H c (some (.inr (5, dm_def 5))))
  simp (disch := first | omega | decide | (simp only [List.length_set]; decide)) only [n_C, p_C, bq_s] at e
  refine ⟨_, e, fun a ha => ?_, ?_, fun a h1 h2 => ?_⟩
  · simp (disch := omega) only [va_up_ne]
  · rw [va_up_self]; rfl
  · have h : a = c + 1 ∨ a = c + 2 ∨ a = c + 3 ∨ a = c + 4 := by omega
    rcases h with rfl | rfl | rfl | rfl <;> simp (disch := omega) only [va_up_ne, va_up_self]
end CTR
