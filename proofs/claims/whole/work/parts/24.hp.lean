/-! THE HEAP AS SHAPES AND INTS: a cell is an int array, an object (int fields and references), or an array of references; S says which, σ a j is the int j of the cell a, g what else lies there -/
section HP
abbrev dSh : Type := (Nat × Nat) ⊕ (Nat × List (Option Nat)) ⊕ (Nat × Nat × (Nat → Option Nat))
abbrev dSg : Type := Nat → Nat → Int32
def hp_fl : List (Option Nat) → (Nat → Int32) → Nat → List Value
  | [], _, _ => []
  | none :: r, f, j => .int (f j) :: hp_fl r f (j + 1)
  | some a :: r, f, j => .ref a :: hp_fl r f (j + 1)
def hp_c (s : dSh) (f : Nat → Int32) : dE := match s with
  | .inl (k, n) => .inl (k, n, .inl f)
  | .inr (.inl (c, fs)) => .inr (c, hp_fl fs f 0)
  | .inr (.inr (k, n, rf)) => .inl (k, n, .inr (.inr (.inr (.inr rf))))
def hp (g : Nat → Option dE) (S : Nat → Option dSh) (σ : dSg) : Nat → Option dE := fun a => match S a with
  | some s => some (hp_c s (σ a))
  | none => g a
def up2 (σ : dSg) (a j : Nat) (v : Int32) : dSg := fun b k => if b = a ∧ k = j then v else σ b k
theorem blt_f {a b : Nat} (h : b ≤ a) : Nat.blt a b = false := by
  cases e : Nat.blt a b
  · rfl
  · exact absurd (Nat.blt_eq.mp e) (by omega)
theorem beq_f {a b : Nat} (h : a ≠ b) : Nat.beq a b = false := by
  cases e : Nat.beq a b
  · rfl
  · exact absurd (Nat.eq_of_beq_eq_true e) h
theorem up2_s (σ : dSg) (a j : Nat) (v : Int32) : up2 σ a j v a j = v := if_pos ⟨rfl, rfl⟩
theorem up2_n (σ : dSg) {a j b k : Nat} (v : Int32) (h : b ≠ a ∨ k ≠ j) : up2 σ a j v b k = σ b k := if_neg fun z => h.elim (fun q => q z.1) (fun q => q z.2)
theorem up2_j (σ : dSg) {a j k : Nat} (v : Int32) (h : k ≠ j) : up2 σ a j v a k = σ a k := up2_n σ v (Or.inr h)
theorem up2_a (σ : dSg) {a j b k : Nat} (v : Int32) (h : b ≠ a) : up2 σ a j v b k = σ b k := up2_n σ v (Or.inl h)
theorem up2_row (σ : dSg) {a j b : Nat} (v : Int32) (h : b ≠ a) : up2 σ a j v b = σ b := funext fun k => up2_a σ v h
theorem up2_own (σ : dSg) (a j : Nat) (v : Int32) : up2 σ a j v a = upd (σ a) j v := by
  funext k
  by_cases h : k = j
  · subst h; rw [up2_s]; simp [upd]
  · rw [up2_j σ v h]; simp [upd, h]
theorem up2_id (σ : dSg) {a j : Nat} {v : Int32} (h : σ a j = v) : up2 σ a j v = σ := by
  funext b k
  by_cases h2 : b = a ∧ k = j
  · obtain ⟨rfl, rfl⟩ := h2; rw [up2_s]; exact h.symm
  · exact if_neg h2
theorem up2_again (σ : dSg) (a j : Nat) (v w : Int32) : up2 (up2 σ a j v) a j w = up2 σ a j w := by
  funext b k
  by_cases h2 : b = a ∧ k = j
  · obtain ⟨rfl, rfl⟩ := h2; rw [up2_s, up2_s]
  · unfold up2; rw [if_neg h2, if_neg h2, if_neg h2]
theorem hp_fl_get : ∀ (fs : List (Option Nat)) (f : Nat → Int32) (i j : Nat), (hp_fl fs f i)[j]? = match fs[j]? with
    | none => none
    | some none => some (.int (f (i + j)))
    | some (some r) => some (.ref r)
  | [], _, _, j => by simp [hp_fl]
  | none :: r, f, i, 0 => by simp [hp_fl]
  | some a :: r, f, i, 0 => by simp [hp_fl]
  | none :: r, f, i, j + 1 => by
    have h := hp_fl_get r f (i + 1) j
    simp only [hp_fl, List.getElem?_cons_succ, h]
    rw [show i + 1 + j = i + (j + 1) by omega]
  | some a :: r, f, i, j + 1 => by
    have h := hp_fl_get r f (i + 1) j
    simp only [hp_fl, List.getElem?_cons_succ, h]
    rw [show i + 1 + j = i + (j + 1) by omega]
theorem hp_fl_len : ∀ (fs : List (Option Nat)) (f : Nat → Int32) (i : Nat), (hp_fl fs f i).length = fs.length
  | [], _, _ => rfl
  | none :: r, f, i => by simp [hp_fl, hp_fl_len r]
  | some a :: r, f, i => by simp [hp_fl, hp_fl_len r]
theorem hp_fl_far : ∀ (fs : List (Option Nat)) (f : Nat → Int32) (i j : Nat) (v : Int32), j < i → hp_fl fs (upd f j v) i = hp_fl fs f i
  | [], _, _, _, _, _ => rfl
  | none :: r, f, i, j, v, h => by
    simp only [hp_fl, hp_fl_far r f (i + 1) j v (by omega)]
    rw [show upd f j v i = f i by simp [upd, show i ≠ j by omega]]
  | some a :: r, f, i, j, v, h => by simp only [hp_fl, hp_fl_far r f (i + 1) j v (by omega)]
theorem hp_fl_set : ∀ (fs : List (Option Nat)) (f : Nat → Int32) (i j : Nat) (v : Int32), fs[j]? = some none → (hp_fl fs f i).set j (.int v) = hp_fl fs (upd f (i + j) v) i
  | [], _, _, j, _, h => by simp at h
  | none :: r, f, i, 0, v, h => by
    simp only [hp_fl, List.set_cons_zero, Nat.add_zero, hp_fl_far r f (i + 1) i v (by omega)]
    simp [upd]
  | some a :: r, f, i, 0, v, h => by simp at h
  | none :: r, f, i, j + 1, v, h => by
    have h2 := hp_fl_set r f (i + 1) j v (by simpa using h)
    simp only [hp_fl, List.set_cons_succ, h2]
    rw [show i + 1 + j = i + (j + 1) by omega, show upd f (i + (j + 1)) v i = f i by simp [upd]]
  | some a :: r, f, i, j + 1, v, h => by
    have h2 := hp_fl_set r f (i + 1) j v (by simpa using h)
    simp only [hp_fl, List.set_cons_succ, h2]
    rw [show i + 1 + j = i + (j + 1) by omega]
theorem hp_fl_setR : ∀ (fs : List (Option Nat)) (f : Nat → Int32) (i j w : Nat) (q : Nat), fs[j]? = some (some q) → (hp_fl fs f i).set j (.ref w) = hp_fl (fs.set j (some w)) f i
  | [], _, _, j, _, _, h => by simp at h
  | none :: r, f, i, 0, _, _, h => by simp at h
  | some a :: r, f, i, 0, w, q, h => by simp [hp_fl]
  | none :: r, f, i, j + 1, w, q, h => by
    have h2 := hp_fl_setR r f (i + 1) j w q (by simpa using h)
    simp only [hp_fl, List.set_cons_succ, h2]
  | some a :: r, f, i, j + 1, w, q, h => by
    have h2 := hp_fl_setR r f (i + 1) j w q (by simpa using h)
    simp only [hp_fl, List.set_cons_succ, h2]
variable {g : Nat → Option dE} {S : Nat → Option dSh} {σ : dSg} {a ci j c t : Nat}
theorem hp_at {s : dSh} (h : S a = some s) : hp g S σ a = some (hp_c s (σ a)) := by unfold hp; rw [h]
theorem hp_up {s : dSh} (h : S a = some s) (j : Nat) (v : Int32) : va_up (hp g S σ) a (some (hp_c s (upd (σ a) j v))) = hp g S (up2 σ a j v) := by
  funext b
  by_cases hb : b = a
  · subst hb; rw [va_up_self, hp_at h, up2_own]
  · rw [va_up_ne _ _ hb]; unfold hp; rw [up2_row σ v hb]
theorem hp_obj {fs : List (Option Nat)} (h : S a = some (.inr (.inl (ci, fs)))) : dm_obj (c, t, hp g S σ) a ci = some (hp_fl fs (σ a) 0) := by
  unfold dm_obj
  dsimp only
  rw [hp_at h]
  show (bif Nat.beq ci ci then _ else _) = _
  rw [Nat.beq_refl]
  rfl
theorem hp_isS {fs : List (Option Nat)} (h : S a = some (.inr (.inl (ci, fs)))) : (dm_obj (c, t, hp g S σ) a ci).isSome = true := by rw [hp_obj h]; rfl
theorem hp_getI {fs : List (Option Nat)} (h : S a = some (.inr (.inl (ci, fs)))) (hj : fs[j]? = some none) : dm_getI (c, t, hp g S σ) a ci j = some (σ a j) := by
  unfold dm_getI
  rw [hp_obj h, Option.bind_some, hp_fl_get, hj, Nat.zero_add]
theorem hp_getR {fs : List (Option Nat)} {r : Nat} (h : S a = some (.inr (.inl (ci, fs)))) (hj : fs[j]? = some (some r)) : dm_getR (c, t, hp g S σ) a ci j = some r := by
  unfold dm_getR
  rw [hp_obj h, Option.bind_some, hp_fl_get, hj]
theorem hp_put {fs : List (Option Nat)} {v : Int32} (h : S a = some (.inr (.inl (ci, fs)))) (hj : fs[j]? = some none) : dm_put (c, t, hp g S σ) a ci j (.int v) = some (c, t, hp g S (up2 σ a j v)) := by
  unfold dm_put
  rw [hp_obj h, Option.bind_some, hp_fl_len]
  obtain ⟨hl, -⟩ := List.getElem?_eq_some_iff.mp hj
  rw [show Nat.blt j fs.length = true from Nat.blt_eq.mpr hl, cond_true, hp_fl_set fs _ 0 j v hj, Nat.zero_add]
  exact congrArg some (congrArg (Prod.mk c) (congrArg (Prod.mk t) (hp_up h j v)))
theorem hp_putR {fs : List (Option Nat)} {q w : Nat} (h : S a = some (.inr (.inl (ci, fs)))) (hj : fs[j]? = some (some q)) : dm_put (c, t, hp g S σ) a ci j (.ref w) = some (c, t, hp g (va_up S a (some (.inr (.inl (ci, fs.set j (some w)))))) σ) := by
  unfold dm_put
  rw [hp_obj h, Option.bind_some, hp_fl_len]
  obtain ⟨hl, -⟩ := List.getElem?_eq_some_iff.mp hj
  rw [show Nat.blt j fs.length = true from Nat.blt_eq.mpr hl, cond_true, hp_fl_setR fs _ 0 j w q hj]
  refine congrArg some (congrArg (Prod.mk c) (congrArg (Prod.mk t) ?_))
  funext b
  by_cases hb : b = a
  · subst hb; rw [va_up_self]; unfold hp; rw [va_up_self]; rfl
  · rw [va_up_ne _ _ hb]; unfold hp; rw [va_up_ne _ _ hb]
theorem hp_row {k n : Nat} (h : S a = some (.inl (k, n))) : dm_rowI (c, t, hp g S σ) a k = some (n, σ a) := by
  unfold dm_rowI
  dsimp only
  rw [hp_at h]
  show (bif Nat.beq k k then _ else _) = _
  rw [Nat.beq_refl]
  rfl
theorem i_ix {m n : Nat} (hm : m < n) (hb : m < 2 ^ 31) : ¬ (Int32.ofNat m < 0 ∨ n ≤ (Int32.ofNat m).toNatClampNeg) := by
  have h0 : ¬ Int32.ofNat m < 0 := by
    have h := Int32.ofNat_lt_iff_lt hb (show 0 < 2 ^ 31 by decide)
    intro z
    exact absurd (h.mp z) (Nat.not_lt_zero _)
  rw [Int32.toNatClampNeg_ofNat_of_lt hb]
  exact fun z => z.elim h0 (fun q => by omega)
theorem i_at {α β : Type} {m n : Nat} {f : Nat → α} {K : α → Option β} (hm : m < n) (hb : m < 2 ^ 31) : dm_at (Int32.ofNat m) n f K = K (f m) := by
  unfold dm_at
  rw [if_neg (i_ix hm hb), Int32.toNatClampNeg_ofNat_of_lt hb]
theorem hp_ldI {k n m : Nat} (h : S a = some (.inl (k, n))) (hm : m < n) (hb : m < 2 ^ 31) : dm_ldI (c, t, hp g S σ) a k (Int32.ofNat m) = some (σ a m) := by
  unfold dm_ldI
  rw [hp_row h, Option.bind_some, i_at hm hb]
theorem hp_stI {k n m : Nat} {v : Int32} (h : S a = some (.inl (k, n))) (hm : m < n) (hb : m < 2 ^ 31) : dm_stI (c, t, hp g S σ) a k (Int32.ofNat m) v = some (c, t, hp g S (up2 σ a m v)) := by
  unfold dm_stI
  rw [hp_row h, Option.bind_some, i_at hm hb]
  exact congrArg some (congrArg (Prod.mk c) (congrArg (Prod.mk t) (hp_up h m v)))
theorem hp_ldR {k n m r : Nat} {rf : Nat → Option Nat} (h : S a = some (.inr (.inr (k, n, rf)))) (hk : (Nat.beq k 2 || Nat.beq k 3) = true) (hr : rf m = some r) (hm : m < n) (hb : m < 2 ^ 31) : dm_ldR (c, t, hp g S σ) a (Int32.ofNat m) = some r := by
  unfold dm_ldR dm_rowR
  dsimp only
  rw [hp_at h]
  show Option.bind (bif Nat.beq k 2 || Nat.beq k 3 then _ else _) _ = _
  rw [hk, cond_true, Option.bind_some, i_at hm hb]
  exact hr
theorem hp_new {n : Nat} {x : dE} (h : S c = none) : dm_new (c, t, hp g S σ) n x = (c + 1, t + n, hp (va_up g c (some x)) S σ) := by
  unfold dm_new
  refine congrArg (Prod.mk (c + 1)) (congrArg (Prod.mk (t + n)) ?_)
  funext b
  by_cases hb : b = c
  · subst hb; rw [va_up_self]; unfold hp; rw [h, va_up_self]
  · rw [va_up_ne _ _ hb]; unfold hp; rw [va_up_ne _ _ hb]
end HP

def sh_0 (a : Nat) : dSh := match a with
  | 0 => .inr (.inl (6, [some 1, some 45, some 46, some 57]))
  | 1 => .inr (.inl (4, [some 2, some 3, some 4, none]))
  | 2 => .inr (.inr (3, 8, fun s => bif Nat.blt s 8 then some (5 + 5 * s) else none))
  | 3 => .inl (0, 8)
  | _ => .inl (0, 5)

def sh_2 (tg : Nat) (a : Nat) : dSh := match a with
  | 0 => .inr (.inl (0, [none, none, none, none]))
  | 1 => .inr (.inl (2, [some 1, some 45, some 47, some tg, some (tg + 1), some 50, some 51, some 52, none, none, none, some 53, some 54, some 55, some 56, none, none]))
  | 2 => .inr (.inl (0, [none, none, none, none]))
  | 3 => .inl (0, 0)
  | 4 => .inl (0, 0)
  | 5 => .inl (0, 88)
  | 6 => .inl (0, 88)
  | 7 => .inl (0, 88)
  | 8 => .inl (0, 8)
  | 9 => .inl (0, 8)
  | 10 => .inl (0, 8)
  | 11 => .inl (0, 8)
  | 12 => .inr (.inl (3, [some 1, some 45, some 58, none, none, some 59, none, some 60, none, none, none, none, none, none, none]))
  | 13 => .inr (.inr (2, 209, fun i => bif Nat.blt i 209 then some (61 + i) else none))
  | 14 => .inr (.inl (0, [none, none, none, none]))
  | _ => .inl (0, 8)

def sh_3 (a : Nat) : dSh := match a with
  | 0 => .inr (.inl (7, [none, some 271, some 272, some 273, some 274, some 275, some 276, some 277, some 278, some 279, none, none, none, none, none, none, some 280, some 281, some 282, some 283, some 284, none, none, none, some 285, some 286, some 287, some 288, some 289, some 290, some 291, some 292, some 293, some 294, none, none, none]))
  | 1 => .inl (0, 96)
  | 2 => .inl (0, 96)
  | 3 => .inl (0, 8)
  | 4 => .inl (0, 8)
  | 5 => .inl (0, 8)
  | 6 => .inl (0, 5)
  | 7 => .inl (1, 8)
  | 8 => .inl (1, 8)
  | 9 => .inl (1, 64)
  | 10 => .inl (0, 22784)
  | 11 => .inl (0, 8)
  | 12 => .inl (0, 8)
  | 13 => .inl (0, 8)
  | 14 => .inl (0, 8)
  | 15 => .inl (0, 400)
  | 16 => .inl (0, 400)
  | 17 => .inl (0, 400)
  | 18 => .inl (0, 400)
  | 19 => .inl (0, 400)
  | 20 => .inl (0, 400)
  | 21 => .inl (0, 400)
  | 22 => .inl (0, 400)
  | 23 => .inl (0, 400)
  | _ => .inl (0, 8)

def xA (fl : Nat → Bool) (s : Nat) : Nat := bif fl s then 8 + 5 * s else 6 + 5 * s
def yA (fl : Nat → Bool) (s : Nat) : Nat := bif fl s then 9 + 5 * s else 7 + 5 * s
def uA (fl : Nat → Bool) (s : Nat) : Nat := bif fl s then 6 + 5 * s else 8 + 5 * s
def vA (fl : Nat → Bool) (s : Nat) : Nat := bif fl s then 7 + 5 * s else 9 + 5 * s
def sh_1 (fl : Nat → Bool) (s r : Nat) : dSh := match r with
  | 0 => .inr (.inl (5, [none, none, none, none, none, none, none, some (xA fl s), some (yA fl s), some (uA fl s), some (vA fl s)]))
  | _ => .inl (0, 12)
/-- the shapes of all that class and reference hold: fl s: the stroke's rows are changed over with the spare ones; tg: where the plan's tables lie -/
def SH (fl : Nat → Bool) (tg : Nat) (a : Nat) : Option dSh :=
  bif Nat.blt a 5 then some (sh_0 a) else bif Nat.blt a 45 then some (sh_1 fl ((a - 5) / 5) ((a - 5) % 5)) else bif Nat.blt a 61 then some (sh_2 tg (a - 45)) else
  bif Nat.blt a 270 then some (.inr (.inl (1, [none, none, none, none, none, none, none, none, none, none, none]))) else bif Nat.blt a 295 then some (sh_3 (a - 270)) else
  bif Nat.beq a tg then some (.inl (0, 22528)) else bif Nat.beq a (tg + 1) then some (.inl (0, 7832)) else none
section HQ
variable {g : Nat → Option dE} {fl : Nat → Bool} {tg : Nat} {σ : dSg} {c t : Nat}
theorem SH_stroke {s : Nat} (hs : s < 8) : SH fl tg (5 + 5 * s) = some (.inr (.inl (5, [none, none, none, none, none, none, none, some (xA fl s), some (yA fl s), some (uA fl s), some (vA fl s)]))) := by
  match s, hs with
  | 0, _ => rfl
  | 1, _ => rfl
  | 2, _ => rfl
  | 3, _ => rfl
  | 4, _ => rfl
  | 5, _ => rfl
  | 6, _ => rfl
  | 7, _ => rfl
theorem SH_row {s r : Nat} (hs : s < 8) (hr : r < 4) : SH fl tg (6 + r + 5 * s) = some (.inl (0, 12)) := by
  unfold SH
  rw [show Nat.blt (6 + r + 5 * s) 5 = false from blt_f (by omega), show Nat.blt (6 + r + 5 * s) 45 = true from Nat.blt_eq.mpr (by omega), show (6 + r + 5 * s - 5) % 5 = r + 1 by omega]
  rfl
theorem SH_x {s : Nat} (hs : s < 8) : SH fl tg (xA fl s) = some (.inl (0, 12)) := by
  unfold xA
  cases fl s
  · exact SH_row (r := 0) hs (by omega)
  · exact SH_row (r := 2) hs (by omega)
theorem SH_y {s : Nat} (hs : s < 8) : SH fl tg (yA fl s) = some (.inl (0, 12)) := by
  unfold yA
  cases fl s
  · exact SH_row (r := 1) hs (by omega)
  · exact SH_row (r := 3) hs (by omega)
theorem SH_u {s : Nat} (hs : s < 8) : SH fl tg (uA fl s) = some (.inl (0, 12)) := by
  unfold uA
  cases fl s
  · exact SH_row (r := 2) hs (by omega)
  · exact SH_row (r := 0) hs (by omega)
theorem SH_v {s : Nat} (hs : s < 8) : SH fl tg (vA fl s) = some (.inl (0, 12)) := by
  unfold vA
  cases fl s
  · exact SH_row (r := 3) hs (by omega)
  · exact SH_row (r := 1) hs (by omega)
theorem SH_leg {i : Nat} (hi : i < 209) : SH fl tg (61 + i) = some (.inr (.inl (1, [none, none, none, none, none, none, none, none, none, none, none]))) := by
  unfold SH
  rw [show Nat.blt (61 + i) 5 = false from blt_f (by omega), show Nat.blt (61 + i) 45 = false from blt_f (by omega), show Nat.blt (61 + i) 61 = false from blt_f (by omega), show Nat.blt (61 + i) 270 = true from Nat.blt_eq.mpr (by omega)]
  rfl
theorem SH_tg (h : 296 ≤ tg) : SH fl tg tg = some (.inl (0, 22528)) := by
  unfold SH
  rw [show Nat.blt tg 5 = false from blt_f (by omega), show Nat.blt tg 45 = false from blt_f (by omega), show Nat.blt tg 61 = false from blt_f (by omega), show Nat.blt tg 270 = false from blt_f (by omega), show Nat.blt tg 295 = false from blt_f (by omega), Nat.beq_refl]
  rfl
theorem SH_bt (h : 296 ≤ tg) : SH fl tg (tg + 1) = some (.inl (0, 7832)) := by
  unfold SH
  rw [show Nat.blt (tg + 1) 5 = false from blt_f (by omega), show Nat.blt (tg + 1) 45 = false from blt_f (by omega), show Nat.blt (tg + 1) 61 = false from blt_f (by omega), show Nat.blt (tg + 1) 270 = false from blt_f (by omega), show Nat.blt (tg + 1) 295 = false from blt_f (by omega), show Nat.beq (tg + 1) tg = false from beq_f (by omega), Nat.beq_refl]
  rfl
theorem SH_free {a : Nat} (h : 295 ≤ a) (h1 : a ≠ tg) (h2 : a ≠ tg + 1) : SH fl tg a = none := by
  unfold SH
  rw [show Nat.blt a 5 = false from blt_f (by omega), show Nat.blt a 45 = false from blt_f (by omega), show Nat.blt a 61 = false from blt_f (by omega), show Nat.blt a 270 = false from blt_f (by omega), show Nat.blt a 295 = false from blt_f (by omega), show Nat.beq a tg = false from beq_f h1, show Nat.beq a (tg + 1) = false from beq_f h2]
  rfl

theorem is_0 : (dm_obj (c, t, hp g (SH fl tg) σ) 0 6).isSome = true := hp_isS (S := SH fl tg) (a := 0) (ci := 6) rfl
theorem gr_0_0 : dm_getR (c, t, hp g (SH fl tg) σ) 0 6 0 = some 1 := hp_getR (S := SH fl tg) (a := 0) (ci := 6) rfl rfl
theorem gr_0_1 : dm_getR (c, t, hp g (SH fl tg) σ) 0 6 1 = some 45 := hp_getR (S := SH fl tg) (a := 0) (ci := 6) rfl rfl
theorem gr_0_2 : dm_getR (c, t, hp g (SH fl tg) σ) 0 6 2 = some 46 := hp_getR (S := SH fl tg) (a := 0) (ci := 6) rfl rfl
theorem gr_0_3 : dm_getR (c, t, hp g (SH fl tg) σ) 0 6 3 = some 57 := hp_getR (S := SH fl tg) (a := 0) (ci := 6) rfl rfl
theorem is_1 : (dm_obj (c, t, hp g (SH fl tg) σ) 1 4).isSome = true := hp_isS (S := SH fl tg) (a := 1) (ci := 4) rfl
theorem gr_1_0 : dm_getR (c, t, hp g (SH fl tg) σ) 1 4 0 = some 2 := hp_getR (S := SH fl tg) (a := 1) (ci := 4) rfl rfl
theorem gr_1_1 : dm_getR (c, t, hp g (SH fl tg) σ) 1 4 1 = some 3 := hp_getR (S := SH fl tg) (a := 1) (ci := 4) rfl rfl
theorem gr_1_2 : dm_getR (c, t, hp g (SH fl tg) σ) 1 4 2 = some 4 := hp_getR (S := SH fl tg) (a := 1) (ci := 4) rfl rfl
theorem gi_1_3 : dm_getI (c, t, hp g (SH fl tg) σ) 1 4 3 = some (σ 1 3) := hp_getI (S := SH fl tg) (a := 1) (ci := 4) rfl rfl
theorem pi_1_3 (v : Int32) : dm_put (c, t, hp g (SH fl tg) σ) 1 4 3 (.int v) = some (c, t, hp g (SH fl tg) (up2 σ 1 3 v)) := hp_put (S := SH fl tg) (a := 1) (ci := 4) rfl rfl
theorem is_45 : (dm_obj (c, t, hp g (SH fl tg) σ) 45 0).isSome = true := hp_isS (S := SH fl tg) (a := 45) (ci := 0) rfl
theorem gi_45_0 : dm_getI (c, t, hp g (SH fl tg) σ) 45 0 0 = some (σ 45 0) := hp_getI (S := SH fl tg) (a := 45) (ci := 0) rfl rfl
theorem pi_45_0 (v : Int32) : dm_put (c, t, hp g (SH fl tg) σ) 45 0 0 (.int v) = some (c, t, hp g (SH fl tg) (up2 σ 45 0 v)) := hp_put (S := SH fl tg) (a := 45) (ci := 0) rfl rfl
theorem gi_45_1 : dm_getI (c, t, hp g (SH fl tg) σ) 45 0 1 = some (σ 45 1) := hp_getI (S := SH fl tg) (a := 45) (ci := 0) rfl rfl
theorem pi_45_1 (v : Int32) : dm_put (c, t, hp g (SH fl tg) σ) 45 0 1 (.int v) = some (c, t, hp g (SH fl tg) (up2 σ 45 1 v)) := hp_put (S := SH fl tg) (a := 45) (ci := 0) rfl rfl
theorem gi_45_2 : dm_getI (c, t, hp g (SH fl tg) σ) 45 0 2 = some (σ 45 2) := hp_getI (S := SH fl tg) (a := 45) (ci := 0) rfl rfl
theorem pi_45_2 (v : Int32) : dm_put (c, t, hp g (SH fl tg) σ) 45 0 2 (.int v) = some (c, t, hp g (SH fl tg) (up2 σ 45 2 v)) := hp_put (S := SH fl tg) (a := 45) (ci := 0) rfl rfl
theorem gi_45_3 : dm_getI (c, t, hp g (SH fl tg) σ) 45 0 3 = some (σ 45 3) := hp_getI (S := SH fl tg) (a := 45) (ci := 0) rfl rfl
theorem pi_45_3 (v : Int32) : dm_put (c, t, hp g (SH fl tg) σ) 45 0 3 (.int v) = some (c, t, hp g (SH fl tg) (up2 σ 45 3 v)) := hp_put (S := SH fl tg) (a := 45) (ci := 0) rfl rfl
theorem is_47 : (dm_obj (c, t, hp g (SH fl tg) σ) 47 0).isSome = true := hp_isS (S := SH fl tg) (a := 47) (ci := 0) rfl
theorem gi_47_0 : dm_getI (c, t, hp g (SH fl tg) σ) 47 0 0 = some (σ 47 0) := hp_getI (S := SH fl tg) (a := 47) (ci := 0) rfl rfl
theorem pi_47_0 (v : Int32) : dm_put (c, t, hp g (SH fl tg) σ) 47 0 0 (.int v) = some (c, t, hp g (SH fl tg) (up2 σ 47 0 v)) := hp_put (S := SH fl tg) (a := 47) (ci := 0) rfl rfl
theorem gi_47_1 : dm_getI (c, t, hp g (SH fl tg) σ) 47 0 1 = some (σ 47 1) := hp_getI (S := SH fl tg) (a := 47) (ci := 0) rfl rfl
theorem pi_47_1 (v : Int32) : dm_put (c, t, hp g (SH fl tg) σ) 47 0 1 (.int v) = some (c, t, hp g (SH fl tg) (up2 σ 47 1 v)) := hp_put (S := SH fl tg) (a := 47) (ci := 0) rfl rfl
theorem gi_47_2 : dm_getI (c, t, hp g (SH fl tg) σ) 47 0 2 = some (σ 47 2) := hp_getI (S := SH fl tg) (a := 47) (ci := 0) rfl rfl
theorem pi_47_2 (v : Int32) : dm_put (c, t, hp g (SH fl tg) σ) 47 0 2 (.int v) = some (c, t, hp g (SH fl tg) (up2 σ 47 2 v)) := hp_put (S := SH fl tg) (a := 47) (ci := 0) rfl rfl
theorem gi_47_3 : dm_getI (c, t, hp g (SH fl tg) σ) 47 0 3 = some (σ 47 3) := hp_getI (S := SH fl tg) (a := 47) (ci := 0) rfl rfl
theorem pi_47_3 (v : Int32) : dm_put (c, t, hp g (SH fl tg) σ) 47 0 3 (.int v) = some (c, t, hp g (SH fl tg) (up2 σ 47 3 v)) := hp_put (S := SH fl tg) (a := 47) (ci := 0) rfl rfl
theorem is_59 : (dm_obj (c, t, hp g (SH fl tg) σ) 59 0).isSome = true := hp_isS (S := SH fl tg) (a := 59) (ci := 0) rfl
theorem gi_59_0 : dm_getI (c, t, hp g (SH fl tg) σ) 59 0 0 = some (σ 59 0) := hp_getI (S := SH fl tg) (a := 59) (ci := 0) rfl rfl
theorem pi_59_0 (v : Int32) : dm_put (c, t, hp g (SH fl tg) σ) 59 0 0 (.int v) = some (c, t, hp g (SH fl tg) (up2 σ 59 0 v)) := hp_put (S := SH fl tg) (a := 59) (ci := 0) rfl rfl
theorem gi_59_1 : dm_getI (c, t, hp g (SH fl tg) σ) 59 0 1 = some (σ 59 1) := hp_getI (S := SH fl tg) (a := 59) (ci := 0) rfl rfl
theorem pi_59_1 (v : Int32) : dm_put (c, t, hp g (SH fl tg) σ) 59 0 1 (.int v) = some (c, t, hp g (SH fl tg) (up2 σ 59 1 v)) := hp_put (S := SH fl tg) (a := 59) (ci := 0) rfl rfl
theorem gi_59_2 : dm_getI (c, t, hp g (SH fl tg) σ) 59 0 2 = some (σ 59 2) := hp_getI (S := SH fl tg) (a := 59) (ci := 0) rfl rfl
theorem pi_59_2 (v : Int32) : dm_put (c, t, hp g (SH fl tg) σ) 59 0 2 (.int v) = some (c, t, hp g (SH fl tg) (up2 σ 59 2 v)) := hp_put (S := SH fl tg) (a := 59) (ci := 0) rfl rfl
theorem gi_59_3 : dm_getI (c, t, hp g (SH fl tg) σ) 59 0 3 = some (σ 59 3) := hp_getI (S := SH fl tg) (a := 59) (ci := 0) rfl rfl
theorem pi_59_3 (v : Int32) : dm_put (c, t, hp g (SH fl tg) σ) 59 0 3 (.int v) = some (c, t, hp g (SH fl tg) (up2 σ 59 3 v)) := hp_put (S := SH fl tg) (a := 59) (ci := 0) rfl rfl
theorem is_46 : (dm_obj (c, t, hp g (SH fl tg) σ) 46 2).isSome = true := hp_isS (S := SH fl tg) (a := 46) (ci := 2) rfl
theorem gr_46_0 : dm_getR (c, t, hp g (SH fl tg) σ) 46 2 0 = some 1 := hp_getR (S := SH fl tg) (a := 46) (ci := 2) rfl rfl
theorem gr_46_1 : dm_getR (c, t, hp g (SH fl tg) σ) 46 2 1 = some 45 := hp_getR (S := SH fl tg) (a := 46) (ci := 2) rfl rfl
theorem gr_46_2 : dm_getR (c, t, hp g (SH fl tg) σ) 46 2 2 = some 47 := hp_getR (S := SH fl tg) (a := 46) (ci := 2) rfl rfl
theorem gr_46_3 : dm_getR (c, t, hp g (SH fl tg) σ) 46 2 3 = some tg := hp_getR (S := SH fl tg) (a := 46) (ci := 2) rfl rfl
theorem gr_46_4 : dm_getR (c, t, hp g (SH fl tg) σ) 46 2 4 = some (tg + 1) := hp_getR (S := SH fl tg) (a := 46) (ci := 2) rfl rfl
theorem gr_46_5 : dm_getR (c, t, hp g (SH fl tg) σ) 46 2 5 = some 50 := hp_getR (S := SH fl tg) (a := 46) (ci := 2) rfl rfl
theorem gr_46_6 : dm_getR (c, t, hp g (SH fl tg) σ) 46 2 6 = some 51 := hp_getR (S := SH fl tg) (a := 46) (ci := 2) rfl rfl
theorem gr_46_7 : dm_getR (c, t, hp g (SH fl tg) σ) 46 2 7 = some 52 := hp_getR (S := SH fl tg) (a := 46) (ci := 2) rfl rfl
theorem gi_46_8 : dm_getI (c, t, hp g (SH fl tg) σ) 46 2 8 = some (σ 46 8) := hp_getI (S := SH fl tg) (a := 46) (ci := 2) rfl rfl
theorem pi_46_8 (v : Int32) : dm_put (c, t, hp g (SH fl tg) σ) 46 2 8 (.int v) = some (c, t, hp g (SH fl tg) (up2 σ 46 8 v)) := hp_put (S := SH fl tg) (a := 46) (ci := 2) rfl rfl
theorem gi_46_9 : dm_getI (c, t, hp g (SH fl tg) σ) 46 2 9 = some (σ 46 9) := hp_getI (S := SH fl tg) (a := 46) (ci := 2) rfl rfl
theorem pi_46_9 (v : Int32) : dm_put (c, t, hp g (SH fl tg) σ) 46 2 9 (.int v) = some (c, t, hp g (SH fl tg) (up2 σ 46 9 v)) := hp_put (S := SH fl tg) (a := 46) (ci := 2) rfl rfl
theorem gi_46_10 : dm_getI (c, t, hp g (SH fl tg) σ) 46 2 10 = some (σ 46 10) := hp_getI (S := SH fl tg) (a := 46) (ci := 2) rfl rfl
theorem pi_46_10 (v : Int32) : dm_put (c, t, hp g (SH fl tg) σ) 46 2 10 (.int v) = some (c, t, hp g (SH fl tg) (up2 σ 46 10 v)) := hp_put (S := SH fl tg) (a := 46) (ci := 2) rfl rfl
theorem gr_46_11 : dm_getR (c, t, hp g (SH fl tg) σ) 46 2 11 = some 53 := hp_getR (S := SH fl tg) (a := 46) (ci := 2) rfl rfl
theorem gr_46_12 : dm_getR (c, t, hp g (SH fl tg) σ) 46 2 12 = some 54 := hp_getR (S := SH fl tg) (a := 46) (ci := 2) rfl rfl
theorem gr_46_13 : dm_getR (c, t, hp g (SH fl tg) σ) 46 2 13 = some 55 := hp_getR (S := SH fl tg) (a := 46) (ci := 2) rfl rfl
theorem gr_46_14 : dm_getR (c, t, hp g (SH fl tg) σ) 46 2 14 = some 56 := hp_getR (S := SH fl tg) (a := 46) (ci := 2) rfl rfl
theorem gi_46_15 : dm_getI (c, t, hp g (SH fl tg) σ) 46 2 15 = some (σ 46 15) := hp_getI (S := SH fl tg) (a := 46) (ci := 2) rfl rfl
theorem pi_46_15 (v : Int32) : dm_put (c, t, hp g (SH fl tg) σ) 46 2 15 (.int v) = some (c, t, hp g (SH fl tg) (up2 σ 46 15 v)) := hp_put (S := SH fl tg) (a := 46) (ci := 2) rfl rfl
theorem gi_46_16 : dm_getI (c, t, hp g (SH fl tg) σ) 46 2 16 = some (σ 46 16) := hp_getI (S := SH fl tg) (a := 46) (ci := 2) rfl rfl
theorem pi_46_16 (v : Int32) : dm_put (c, t, hp g (SH fl tg) σ) 46 2 16 (.int v) = some (c, t, hp g (SH fl tg) (up2 σ 46 16 v)) := hp_put (S := SH fl tg) (a := 46) (ci := 2) rfl rfl
theorem is_57 : (dm_obj (c, t, hp g (SH fl tg) σ) 57 3).isSome = true := hp_isS (S := SH fl tg) (a := 57) (ci := 3) rfl
theorem gr_57_0 : dm_getR (c, t, hp g (SH fl tg) σ) 57 3 0 = some 1 := hp_getR (S := SH fl tg) (a := 57) (ci := 3) rfl rfl
theorem gr_57_1 : dm_getR (c, t, hp g (SH fl tg) σ) 57 3 1 = some 45 := hp_getR (S := SH fl tg) (a := 57) (ci := 3) rfl rfl
theorem gr_57_2 : dm_getR (c, t, hp g (SH fl tg) σ) 57 3 2 = some 58 := hp_getR (S := SH fl tg) (a := 57) (ci := 3) rfl rfl
theorem gi_57_3 : dm_getI (c, t, hp g (SH fl tg) σ) 57 3 3 = some (σ 57 3) := hp_getI (S := SH fl tg) (a := 57) (ci := 3) rfl rfl
theorem pi_57_3 (v : Int32) : dm_put (c, t, hp g (SH fl tg) σ) 57 3 3 (.int v) = some (c, t, hp g (SH fl tg) (up2 σ 57 3 v)) := hp_put (S := SH fl tg) (a := 57) (ci := 3) rfl rfl
theorem gi_57_4 : dm_getI (c, t, hp g (SH fl tg) σ) 57 3 4 = some (σ 57 4) := hp_getI (S := SH fl tg) (a := 57) (ci := 3) rfl rfl
theorem pi_57_4 (v : Int32) : dm_put (c, t, hp g (SH fl tg) σ) 57 3 4 (.int v) = some (c, t, hp g (SH fl tg) (up2 σ 57 4 v)) := hp_put (S := SH fl tg) (a := 57) (ci := 3) rfl rfl
theorem gr_57_5 : dm_getR (c, t, hp g (SH fl tg) σ) 57 3 5 = some 59 := hp_getR (S := SH fl tg) (a := 57) (ci := 3) rfl rfl
theorem gi_57_6 : dm_getI (c, t, hp g (SH fl tg) σ) 57 3 6 = some (σ 57 6) := hp_getI (S := SH fl tg) (a := 57) (ci := 3) rfl rfl
theorem pi_57_6 (v : Int32) : dm_put (c, t, hp g (SH fl tg) σ) 57 3 6 (.int v) = some (c, t, hp g (SH fl tg) (up2 σ 57 6 v)) := hp_put (S := SH fl tg) (a := 57) (ci := 3) rfl rfl
theorem gr_57_7 : dm_getR (c, t, hp g (SH fl tg) σ) 57 3 7 = some 60 := hp_getR (S := SH fl tg) (a := 57) (ci := 3) rfl rfl
theorem gi_57_8 : dm_getI (c, t, hp g (SH fl tg) σ) 57 3 8 = some (σ 57 8) := hp_getI (S := SH fl tg) (a := 57) (ci := 3) rfl rfl
theorem pi_57_8 (v : Int32) : dm_put (c, t, hp g (SH fl tg) σ) 57 3 8 (.int v) = some (c, t, hp g (SH fl tg) (up2 σ 57 8 v)) := hp_put (S := SH fl tg) (a := 57) (ci := 3) rfl rfl
theorem gi_57_9 : dm_getI (c, t, hp g (SH fl tg) σ) 57 3 9 = some (σ 57 9) := hp_getI (S := SH fl tg) (a := 57) (ci := 3) rfl rfl
theorem pi_57_9 (v : Int32) : dm_put (c, t, hp g (SH fl tg) σ) 57 3 9 (.int v) = some (c, t, hp g (SH fl tg) (up2 σ 57 9 v)) := hp_put (S := SH fl tg) (a := 57) (ci := 3) rfl rfl
theorem gi_57_10 : dm_getI (c, t, hp g (SH fl tg) σ) 57 3 10 = some (σ 57 10) := hp_getI (S := SH fl tg) (a := 57) (ci := 3) rfl rfl
theorem pi_57_10 (v : Int32) : dm_put (c, t, hp g (SH fl tg) σ) 57 3 10 (.int v) = some (c, t, hp g (SH fl tg) (up2 σ 57 10 v)) := hp_put (S := SH fl tg) (a := 57) (ci := 3) rfl rfl
theorem gi_57_11 : dm_getI (c, t, hp g (SH fl tg) σ) 57 3 11 = some (σ 57 11) := hp_getI (S := SH fl tg) (a := 57) (ci := 3) rfl rfl
theorem pi_57_11 (v : Int32) : dm_put (c, t, hp g (SH fl tg) σ) 57 3 11 (.int v) = some (c, t, hp g (SH fl tg) (up2 σ 57 11 v)) := hp_put (S := SH fl tg) (a := 57) (ci := 3) rfl rfl
theorem gi_57_12 : dm_getI (c, t, hp g (SH fl tg) σ) 57 3 12 = some (σ 57 12) := hp_getI (S := SH fl tg) (a := 57) (ci := 3) rfl rfl
theorem pi_57_12 (v : Int32) : dm_put (c, t, hp g (SH fl tg) σ) 57 3 12 (.int v) = some (c, t, hp g (SH fl tg) (up2 σ 57 12 v)) := hp_put (S := SH fl tg) (a := 57) (ci := 3) rfl rfl
theorem gi_57_13 : dm_getI (c, t, hp g (SH fl tg) σ) 57 3 13 = some (σ 57 13) := hp_getI (S := SH fl tg) (a := 57) (ci := 3) rfl rfl
theorem pi_57_13 (v : Int32) : dm_put (c, t, hp g (SH fl tg) σ) 57 3 13 (.int v) = some (c, t, hp g (SH fl tg) (up2 σ 57 13 v)) := hp_put (S := SH fl tg) (a := 57) (ci := 3) rfl rfl
theorem gi_57_14 : dm_getI (c, t, hp g (SH fl tg) σ) 57 3 14 = some (σ 57 14) := hp_getI (S := SH fl tg) (a := 57) (ci := 3) rfl rfl
theorem pi_57_14 (v : Int32) : dm_put (c, t, hp g (SH fl tg) σ) 57 3 14 (.int v) = some (c, t, hp g (SH fl tg) (up2 σ 57 14 v)) := hp_put (S := SH fl tg) (a := 57) (ci := 3) rfl rfl
theorem is_270 : (dm_obj (c, t, hp g (SH fl tg) σ) 270 7).isSome = true := hp_isS (S := SH fl tg) (a := 270) (ci := 7) rfl
theorem gi_270_0 : dm_getI (c, t, hp g (SH fl tg) σ) 270 7 0 = some (σ 270 0) := hp_getI (S := SH fl tg) (a := 270) (ci := 7) rfl rfl
theorem pi_270_0 (v : Int32) : dm_put (c, t, hp g (SH fl tg) σ) 270 7 0 (.int v) = some (c, t, hp g (SH fl tg) (up2 σ 270 0 v)) := hp_put (S := SH fl tg) (a := 270) (ci := 7) rfl rfl
theorem gr_270_1 : dm_getR (c, t, hp g (SH fl tg) σ) 270 7 1 = some 271 := hp_getR (S := SH fl tg) (a := 270) (ci := 7) rfl rfl
theorem gr_270_2 : dm_getR (c, t, hp g (SH fl tg) σ) 270 7 2 = some 272 := hp_getR (S := SH fl tg) (a := 270) (ci := 7) rfl rfl
theorem gr_270_3 : dm_getR (c, t, hp g (SH fl tg) σ) 270 7 3 = some 273 := hp_getR (S := SH fl tg) (a := 270) (ci := 7) rfl rfl
theorem gr_270_4 : dm_getR (c, t, hp g (SH fl tg) σ) 270 7 4 = some 274 := hp_getR (S := SH fl tg) (a := 270) (ci := 7) rfl rfl
theorem gr_270_5 : dm_getR (c, t, hp g (SH fl tg) σ) 270 7 5 = some 275 := hp_getR (S := SH fl tg) (a := 270) (ci := 7) rfl rfl
theorem gr_270_6 : dm_getR (c, t, hp g (SH fl tg) σ) 270 7 6 = some 276 := hp_getR (S := SH fl tg) (a := 270) (ci := 7) rfl rfl
theorem gr_270_7 : dm_getR (c, t, hp g (SH fl tg) σ) 270 7 7 = some 277 := hp_getR (S := SH fl tg) (a := 270) (ci := 7) rfl rfl
theorem gr_270_8 : dm_getR (c, t, hp g (SH fl tg) σ) 270 7 8 = some 278 := hp_getR (S := SH fl tg) (a := 270) (ci := 7) rfl rfl
theorem gr_270_9 : dm_getR (c, t, hp g (SH fl tg) σ) 270 7 9 = some 279 := hp_getR (S := SH fl tg) (a := 270) (ci := 7) rfl rfl
theorem gi_270_10 : dm_getI (c, t, hp g (SH fl tg) σ) 270 7 10 = some (σ 270 10) := hp_getI (S := SH fl tg) (a := 270) (ci := 7) rfl rfl
theorem pi_270_10 (v : Int32) : dm_put (c, t, hp g (SH fl tg) σ) 270 7 10 (.int v) = some (c, t, hp g (SH fl tg) (up2 σ 270 10 v)) := hp_put (S := SH fl tg) (a := 270) (ci := 7) rfl rfl
theorem gi_270_11 : dm_getI (c, t, hp g (SH fl tg) σ) 270 7 11 = some (σ 270 11) := hp_getI (S := SH fl tg) (a := 270) (ci := 7) rfl rfl
theorem pi_270_11 (v : Int32) : dm_put (c, t, hp g (SH fl tg) σ) 270 7 11 (.int v) = some (c, t, hp g (SH fl tg) (up2 σ 270 11 v)) := hp_put (S := SH fl tg) (a := 270) (ci := 7) rfl rfl
theorem gi_270_12 : dm_getI (c, t, hp g (SH fl tg) σ) 270 7 12 = some (σ 270 12) := hp_getI (S := SH fl tg) (a := 270) (ci := 7) rfl rfl
theorem pi_270_12 (v : Int32) : dm_put (c, t, hp g (SH fl tg) σ) 270 7 12 (.int v) = some (c, t, hp g (SH fl tg) (up2 σ 270 12 v)) := hp_put (S := SH fl tg) (a := 270) (ci := 7) rfl rfl
theorem gi_270_13 : dm_getI (c, t, hp g (SH fl tg) σ) 270 7 13 = some (σ 270 13) := hp_getI (S := SH fl tg) (a := 270) (ci := 7) rfl rfl
theorem pi_270_13 (v : Int32) : dm_put (c, t, hp g (SH fl tg) σ) 270 7 13 (.int v) = some (c, t, hp g (SH fl tg) (up2 σ 270 13 v)) := hp_put (S := SH fl tg) (a := 270) (ci := 7) rfl rfl
theorem gi_270_14 : dm_getI (c, t, hp g (SH fl tg) σ) 270 7 14 = some (σ 270 14) := hp_getI (S := SH fl tg) (a := 270) (ci := 7) rfl rfl
theorem pi_270_14 (v : Int32) : dm_put (c, t, hp g (SH fl tg) σ) 270 7 14 (.int v) = some (c, t, hp g (SH fl tg) (up2 σ 270 14 v)) := hp_put (S := SH fl tg) (a := 270) (ci := 7) rfl rfl
theorem gi_270_15 : dm_getI (c, t, hp g (SH fl tg) σ) 270 7 15 = some (σ 270 15) := hp_getI (S := SH fl tg) (a := 270) (ci := 7) rfl rfl
theorem pi_270_15 (v : Int32) : dm_put (c, t, hp g (SH fl tg) σ) 270 7 15 (.int v) = some (c, t, hp g (SH fl tg) (up2 σ 270 15 v)) := hp_put (S := SH fl tg) (a := 270) (ci := 7) rfl rfl
theorem gr_270_16 : dm_getR (c, t, hp g (SH fl tg) σ) 270 7 16 = some 280 := hp_getR (S := SH fl tg) (a := 270) (ci := 7) rfl rfl
theorem gr_270_17 : dm_getR (c, t, hp g (SH fl tg) σ) 270 7 17 = some 281 := hp_getR (S := SH fl tg) (a := 270) (ci := 7) rfl rfl
theorem gr_270_18 : dm_getR (c, t, hp g (SH fl tg) σ) 270 7 18 = some 282 := hp_getR (S := SH fl tg) (a := 270) (ci := 7) rfl rfl
theorem gr_270_19 : dm_getR (c, t, hp g (SH fl tg) σ) 270 7 19 = some 283 := hp_getR (S := SH fl tg) (a := 270) (ci := 7) rfl rfl
theorem gr_270_20 : dm_getR (c, t, hp g (SH fl tg) σ) 270 7 20 = some 284 := hp_getR (S := SH fl tg) (a := 270) (ci := 7) rfl rfl
theorem gi_270_21 : dm_getI (c, t, hp g (SH fl tg) σ) 270 7 21 = some (σ 270 21) := hp_getI (S := SH fl tg) (a := 270) (ci := 7) rfl rfl
theorem pi_270_21 (v : Int32) : dm_put (c, t, hp g (SH fl tg) σ) 270 7 21 (.int v) = some (c, t, hp g (SH fl tg) (up2 σ 270 21 v)) := hp_put (S := SH fl tg) (a := 270) (ci := 7) rfl rfl
theorem gi_270_22 : dm_getI (c, t, hp g (SH fl tg) σ) 270 7 22 = some (σ 270 22) := hp_getI (S := SH fl tg) (a := 270) (ci := 7) rfl rfl
theorem pi_270_22 (v : Int32) : dm_put (c, t, hp g (SH fl tg) σ) 270 7 22 (.int v) = some (c, t, hp g (SH fl tg) (up2 σ 270 22 v)) := hp_put (S := SH fl tg) (a := 270) (ci := 7) rfl rfl
theorem gi_270_23 : dm_getI (c, t, hp g (SH fl tg) σ) 270 7 23 = some (σ 270 23) := hp_getI (S := SH fl tg) (a := 270) (ci := 7) rfl rfl
theorem pi_270_23 (v : Int32) : dm_put (c, t, hp g (SH fl tg) σ) 270 7 23 (.int v) = some (c, t, hp g (SH fl tg) (up2 σ 270 23 v)) := hp_put (S := SH fl tg) (a := 270) (ci := 7) rfl rfl
theorem gr_270_24 : dm_getR (c, t, hp g (SH fl tg) σ) 270 7 24 = some 285 := hp_getR (S := SH fl tg) (a := 270) (ci := 7) rfl rfl
theorem gr_270_25 : dm_getR (c, t, hp g (SH fl tg) σ) 270 7 25 = some 286 := hp_getR (S := SH fl tg) (a := 270) (ci := 7) rfl rfl
theorem gr_270_26 : dm_getR (c, t, hp g (SH fl tg) σ) 270 7 26 = some 287 := hp_getR (S := SH fl tg) (a := 270) (ci := 7) rfl rfl
theorem gr_270_27 : dm_getR (c, t, hp g (SH fl tg) σ) 270 7 27 = some 288 := hp_getR (S := SH fl tg) (a := 270) (ci := 7) rfl rfl
theorem gr_270_28 : dm_getR (c, t, hp g (SH fl tg) σ) 270 7 28 = some 289 := hp_getR (S := SH fl tg) (a := 270) (ci := 7) rfl rfl
theorem gr_270_29 : dm_getR (c, t, hp g (SH fl tg) σ) 270 7 29 = some 290 := hp_getR (S := SH fl tg) (a := 270) (ci := 7) rfl rfl
theorem gr_270_30 : dm_getR (c, t, hp g (SH fl tg) σ) 270 7 30 = some 291 := hp_getR (S := SH fl tg) (a := 270) (ci := 7) rfl rfl
theorem gr_270_31 : dm_getR (c, t, hp g (SH fl tg) σ) 270 7 31 = some 292 := hp_getR (S := SH fl tg) (a := 270) (ci := 7) rfl rfl
theorem gr_270_32 : dm_getR (c, t, hp g (SH fl tg) σ) 270 7 32 = some 293 := hp_getR (S := SH fl tg) (a := 270) (ci := 7) rfl rfl
theorem gr_270_33 : dm_getR (c, t, hp g (SH fl tg) σ) 270 7 33 = some 294 := hp_getR (S := SH fl tg) (a := 270) (ci := 7) rfl rfl
theorem gi_270_34 : dm_getI (c, t, hp g (SH fl tg) σ) 270 7 34 = some (σ 270 34) := hp_getI (S := SH fl tg) (a := 270) (ci := 7) rfl rfl
theorem pi_270_34 (v : Int32) : dm_put (c, t, hp g (SH fl tg) σ) 270 7 34 (.int v) = some (c, t, hp g (SH fl tg) (up2 σ 270 34 v)) := hp_put (S := SH fl tg) (a := 270) (ci := 7) rfl rfl
theorem gi_270_35 : dm_getI (c, t, hp g (SH fl tg) σ) 270 7 35 = some (σ 270 35) := hp_getI (S := SH fl tg) (a := 270) (ci := 7) rfl rfl
theorem pi_270_35 (v : Int32) : dm_put (c, t, hp g (SH fl tg) σ) 270 7 35 (.int v) = some (c, t, hp g (SH fl tg) (up2 σ 270 35 v)) := hp_put (S := SH fl tg) (a := 270) (ci := 7) rfl rfl
theorem gi_270_36 : dm_getI (c, t, hp g (SH fl tg) σ) 270 7 36 = some (σ 270 36) := hp_getI (S := SH fl tg) (a := 270) (ci := 7) rfl rfl
theorem pi_270_36 (v : Int32) : dm_put (c, t, hp g (SH fl tg) σ) 270 7 36 (.int v) = some (c, t, hp g (SH fl tg) (up2 σ 270 36 v)) := hp_put (S := SH fl tg) (a := 270) (ci := 7) rfl rfl
theorem ld_3 {m : Nat} (h : m < 8) : dm_ldI (c, t, hp g (SH fl tg) σ) 3 0 (Int32.ofNat m) = some (σ 3 m) := hp_ldI (S := SH fl tg) (a := 3) (k := 0) (n := 8) rfl h (by omega)
theorem sv_3 {m : Nat} {v : Int32} (h : m < 8) : dm_stI (c, t, hp g (SH fl tg) σ) 3 0 (Int32.ofNat m) v = some (c, t, hp g (SH fl tg) (up2 σ 3 m v)) := hp_stI (S := SH fl tg) (a := 3) (k := 0) (n := 8) rfl h (by omega)
theorem ld_4 {m : Nat} (h : m < 5) : dm_ldI (c, t, hp g (SH fl tg) σ) 4 0 (Int32.ofNat m) = some (σ 4 m) := hp_ldI (S := SH fl tg) (a := 4) (k := 0) (n := 5) rfl h (by omega)
theorem sv_4 {m : Nat} {v : Int32} (h : m < 5) : dm_stI (c, t, hp g (SH fl tg) σ) 4 0 (Int32.ofNat m) v = some (c, t, hp g (SH fl tg) (up2 σ 4 m v)) := hp_stI (S := SH fl tg) (a := 4) (k := 0) (n := 5) rfl h (by omega)
theorem ld_50 {m : Nat} (h : m < 88) : dm_ldI (c, t, hp g (SH fl tg) σ) 50 0 (Int32.ofNat m) = some (σ 50 m) := hp_ldI (S := SH fl tg) (a := 50) (k := 0) (n := 88) rfl h (by omega)
theorem sv_50 {m : Nat} {v : Int32} (h : m < 88) : dm_stI (c, t, hp g (SH fl tg) σ) 50 0 (Int32.ofNat m) v = some (c, t, hp g (SH fl tg) (up2 σ 50 m v)) := hp_stI (S := SH fl tg) (a := 50) (k := 0) (n := 88) rfl h (by omega)
theorem ld_51 {m : Nat} (h : m < 88) : dm_ldI (c, t, hp g (SH fl tg) σ) 51 0 (Int32.ofNat m) = some (σ 51 m) := hp_ldI (S := SH fl tg) (a := 51) (k := 0) (n := 88) rfl h (by omega)
theorem sv_51 {m : Nat} {v : Int32} (h : m < 88) : dm_stI (c, t, hp g (SH fl tg) σ) 51 0 (Int32.ofNat m) v = some (c, t, hp g (SH fl tg) (up2 σ 51 m v)) := hp_stI (S := SH fl tg) (a := 51) (k := 0) (n := 88) rfl h (by omega)
theorem ld_52 {m : Nat} (h : m < 88) : dm_ldI (c, t, hp g (SH fl tg) σ) 52 0 (Int32.ofNat m) = some (σ 52 m) := hp_ldI (S := SH fl tg) (a := 52) (k := 0) (n := 88) rfl h (by omega)
theorem sv_52 {m : Nat} {v : Int32} (h : m < 88) : dm_stI (c, t, hp g (SH fl tg) σ) 52 0 (Int32.ofNat m) v = some (c, t, hp g (SH fl tg) (up2 σ 52 m v)) := hp_stI (S := SH fl tg) (a := 52) (k := 0) (n := 88) rfl h (by omega)
theorem ld_53 {m : Nat} (h : m < 8) : dm_ldI (c, t, hp g (SH fl tg) σ) 53 0 (Int32.ofNat m) = some (σ 53 m) := hp_ldI (S := SH fl tg) (a := 53) (k := 0) (n := 8) rfl h (by omega)
theorem sv_53 {m : Nat} {v : Int32} (h : m < 8) : dm_stI (c, t, hp g (SH fl tg) σ) 53 0 (Int32.ofNat m) v = some (c, t, hp g (SH fl tg) (up2 σ 53 m v)) := hp_stI (S := SH fl tg) (a := 53) (k := 0) (n := 8) rfl h (by omega)
theorem ld_54 {m : Nat} (h : m < 8) : dm_ldI (c, t, hp g (SH fl tg) σ) 54 0 (Int32.ofNat m) = some (σ 54 m) := hp_ldI (S := SH fl tg) (a := 54) (k := 0) (n := 8) rfl h (by omega)
theorem sv_54 {m : Nat} {v : Int32} (h : m < 8) : dm_stI (c, t, hp g (SH fl tg) σ) 54 0 (Int32.ofNat m) v = some (c, t, hp g (SH fl tg) (up2 σ 54 m v)) := hp_stI (S := SH fl tg) (a := 54) (k := 0) (n := 8) rfl h (by omega)
theorem ld_55 {m : Nat} (h : m < 8) : dm_ldI (c, t, hp g (SH fl tg) σ) 55 0 (Int32.ofNat m) = some (σ 55 m) := hp_ldI (S := SH fl tg) (a := 55) (k := 0) (n := 8) rfl h (by omega)
theorem sv_55 {m : Nat} {v : Int32} (h : m < 8) : dm_stI (c, t, hp g (SH fl tg) σ) 55 0 (Int32.ofNat m) v = some (c, t, hp g (SH fl tg) (up2 σ 55 m v)) := hp_stI (S := SH fl tg) (a := 55) (k := 0) (n := 8) rfl h (by omega)
theorem ld_56 {m : Nat} (h : m < 8) : dm_ldI (c, t, hp g (SH fl tg) σ) 56 0 (Int32.ofNat m) = some (σ 56 m) := hp_ldI (S := SH fl tg) (a := 56) (k := 0) (n := 8) rfl h (by omega)
theorem sv_56 {m : Nat} {v : Int32} (h : m < 8) : dm_stI (c, t, hp g (SH fl tg) σ) 56 0 (Int32.ofNat m) v = some (c, t, hp g (SH fl tg) (up2 σ 56 m v)) := hp_stI (S := SH fl tg) (a := 56) (k := 0) (n := 8) rfl h (by omega)
theorem ld_60 {m : Nat} (h : m < 8) : dm_ldI (c, t, hp g (SH fl tg) σ) 60 0 (Int32.ofNat m) = some (σ 60 m) := hp_ldI (S := SH fl tg) (a := 60) (k := 0) (n := 8) rfl h (by omega)
theorem sv_60 {m : Nat} {v : Int32} (h : m < 8) : dm_stI (c, t, hp g (SH fl tg) σ) 60 0 (Int32.ofNat m) v = some (c, t, hp g (SH fl tg) (up2 σ 60 m v)) := hp_stI (S := SH fl tg) (a := 60) (k := 0) (n := 8) rfl h (by omega)
theorem ld_271 {m : Nat} (h : m < 96) : dm_ldI (c, t, hp g (SH fl tg) σ) 271 0 (Int32.ofNat m) = some (σ 271 m) := hp_ldI (S := SH fl tg) (a := 271) (k := 0) (n := 96) rfl h (by omega)
theorem sv_271 {m : Nat} {v : Int32} (h : m < 96) : dm_stI (c, t, hp g (SH fl tg) σ) 271 0 (Int32.ofNat m) v = some (c, t, hp g (SH fl tg) (up2 σ 271 m v)) := hp_stI (S := SH fl tg) (a := 271) (k := 0) (n := 96) rfl h (by omega)
theorem ld_272 {m : Nat} (h : m < 96) : dm_ldI (c, t, hp g (SH fl tg) σ) 272 0 (Int32.ofNat m) = some (σ 272 m) := hp_ldI (S := SH fl tg) (a := 272) (k := 0) (n := 96) rfl h (by omega)
theorem sv_272 {m : Nat} {v : Int32} (h : m < 96) : dm_stI (c, t, hp g (SH fl tg) σ) 272 0 (Int32.ofNat m) v = some (c, t, hp g (SH fl tg) (up2 σ 272 m v)) := hp_stI (S := SH fl tg) (a := 272) (k := 0) (n := 96) rfl h (by omega)
theorem ld_273 {m : Nat} (h : m < 8) : dm_ldI (c, t, hp g (SH fl tg) σ) 273 0 (Int32.ofNat m) = some (σ 273 m) := hp_ldI (S := SH fl tg) (a := 273) (k := 0) (n := 8) rfl h (by omega)
theorem sv_273 {m : Nat} {v : Int32} (h : m < 8) : dm_stI (c, t, hp g (SH fl tg) σ) 273 0 (Int32.ofNat m) v = some (c, t, hp g (SH fl tg) (up2 σ 273 m v)) := hp_stI (S := SH fl tg) (a := 273) (k := 0) (n := 8) rfl h (by omega)
theorem ld_274 {m : Nat} (h : m < 8) : dm_ldI (c, t, hp g (SH fl tg) σ) 274 0 (Int32.ofNat m) = some (σ 274 m) := hp_ldI (S := SH fl tg) (a := 274) (k := 0) (n := 8) rfl h (by omega)
theorem sv_274 {m : Nat} {v : Int32} (h : m < 8) : dm_stI (c, t, hp g (SH fl tg) σ) 274 0 (Int32.ofNat m) v = some (c, t, hp g (SH fl tg) (up2 σ 274 m v)) := hp_stI (S := SH fl tg) (a := 274) (k := 0) (n := 8) rfl h (by omega)
theorem ld_275 {m : Nat} (h : m < 8) : dm_ldI (c, t, hp g (SH fl tg) σ) 275 0 (Int32.ofNat m) = some (σ 275 m) := hp_ldI (S := SH fl tg) (a := 275) (k := 0) (n := 8) rfl h (by omega)
theorem sv_275 {m : Nat} {v : Int32} (h : m < 8) : dm_stI (c, t, hp g (SH fl tg) σ) 275 0 (Int32.ofNat m) v = some (c, t, hp g (SH fl tg) (up2 σ 275 m v)) := hp_stI (S := SH fl tg) (a := 275) (k := 0) (n := 8) rfl h (by omega)
theorem ld_276 {m : Nat} (h : m < 5) : dm_ldI (c, t, hp g (SH fl tg) σ) 276 0 (Int32.ofNat m) = some (σ 276 m) := hp_ldI (S := SH fl tg) (a := 276) (k := 0) (n := 5) rfl h (by omega)
theorem sv_276 {m : Nat} {v : Int32} (h : m < 5) : dm_stI (c, t, hp g (SH fl tg) σ) 276 0 (Int32.ofNat m) v = some (c, t, hp g (SH fl tg) (up2 σ 276 m v)) := hp_stI (S := SH fl tg) (a := 276) (k := 0) (n := 5) rfl h (by omega)
theorem ld_277 {m : Nat} (h : m < 8) : dm_ldI (c, t, hp g (SH fl tg) σ) 277 1 (Int32.ofNat m) = some (σ 277 m) := hp_ldI (S := SH fl tg) (a := 277) (k := 1) (n := 8) rfl h (by omega)
theorem sv_277 {m : Nat} {v : Int32} (h : m < 8) : dm_stI (c, t, hp g (SH fl tg) σ) 277 1 (Int32.ofNat m) v = some (c, t, hp g (SH fl tg) (up2 σ 277 m v)) := hp_stI (S := SH fl tg) (a := 277) (k := 1) (n := 8) rfl h (by omega)
theorem ld_278 {m : Nat} (h : m < 8) : dm_ldI (c, t, hp g (SH fl tg) σ) 278 1 (Int32.ofNat m) = some (σ 278 m) := hp_ldI (S := SH fl tg) (a := 278) (k := 1) (n := 8) rfl h (by omega)
theorem sv_278 {m : Nat} {v : Int32} (h : m < 8) : dm_stI (c, t, hp g (SH fl tg) σ) 278 1 (Int32.ofNat m) v = some (c, t, hp g (SH fl tg) (up2 σ 278 m v)) := hp_stI (S := SH fl tg) (a := 278) (k := 1) (n := 8) rfl h (by omega)
theorem ld_279 {m : Nat} (h : m < 64) : dm_ldI (c, t, hp g (SH fl tg) σ) 279 1 (Int32.ofNat m) = some (σ 279 m) := hp_ldI (S := SH fl tg) (a := 279) (k := 1) (n := 64) rfl h (by omega)
theorem sv_279 {m : Nat} {v : Int32} (h : m < 64) : dm_stI (c, t, hp g (SH fl tg) σ) 279 1 (Int32.ofNat m) v = some (c, t, hp g (SH fl tg) (up2 σ 279 m v)) := hp_stI (S := SH fl tg) (a := 279) (k := 1) (n := 64) rfl h (by omega)
theorem ld_280 {m : Nat} (h : m < 22784) : dm_ldI (c, t, hp g (SH fl tg) σ) 280 0 (Int32.ofNat m) = some (σ 280 m) := hp_ldI (S := SH fl tg) (a := 280) (k := 0) (n := 22784) rfl h (by omega)
theorem sv_280 {m : Nat} {v : Int32} (h : m < 22784) : dm_stI (c, t, hp g (SH fl tg) σ) 280 0 (Int32.ofNat m) v = some (c, t, hp g (SH fl tg) (up2 σ 280 m v)) := hp_stI (S := SH fl tg) (a := 280) (k := 0) (n := 22784) rfl h (by omega)
theorem ld_281 {m : Nat} (h : m < 8) : dm_ldI (c, t, hp g (SH fl tg) σ) 281 0 (Int32.ofNat m) = some (σ 281 m) := hp_ldI (S := SH fl tg) (a := 281) (k := 0) (n := 8) rfl h (by omega)
theorem sv_281 {m : Nat} {v : Int32} (h : m < 8) : dm_stI (c, t, hp g (SH fl tg) σ) 281 0 (Int32.ofNat m) v = some (c, t, hp g (SH fl tg) (up2 σ 281 m v)) := hp_stI (S := SH fl tg) (a := 281) (k := 0) (n := 8) rfl h (by omega)
theorem ld_282 {m : Nat} (h : m < 8) : dm_ldI (c, t, hp g (SH fl tg) σ) 282 0 (Int32.ofNat m) = some (σ 282 m) := hp_ldI (S := SH fl tg) (a := 282) (k := 0) (n := 8) rfl h (by omega)
theorem sv_282 {m : Nat} {v : Int32} (h : m < 8) : dm_stI (c, t, hp g (SH fl tg) σ) 282 0 (Int32.ofNat m) v = some (c, t, hp g (SH fl tg) (up2 σ 282 m v)) := hp_stI (S := SH fl tg) (a := 282) (k := 0) (n := 8) rfl h (by omega)
theorem ld_283 {m : Nat} (h : m < 8) : dm_ldI (c, t, hp g (SH fl tg) σ) 283 0 (Int32.ofNat m) = some (σ 283 m) := hp_ldI (S := SH fl tg) (a := 283) (k := 0) (n := 8) rfl h (by omega)
theorem sv_283 {m : Nat} {v : Int32} (h : m < 8) : dm_stI (c, t, hp g (SH fl tg) σ) 283 0 (Int32.ofNat m) v = some (c, t, hp g (SH fl tg) (up2 σ 283 m v)) := hp_stI (S := SH fl tg) (a := 283) (k := 0) (n := 8) rfl h (by omega)
theorem ld_284 {m : Nat} (h : m < 8) : dm_ldI (c, t, hp g (SH fl tg) σ) 284 0 (Int32.ofNat m) = some (σ 284 m) := hp_ldI (S := SH fl tg) (a := 284) (k := 0) (n := 8) rfl h (by omega)
theorem sv_284 {m : Nat} {v : Int32} (h : m < 8) : dm_stI (c, t, hp g (SH fl tg) σ) 284 0 (Int32.ofNat m) v = some (c, t, hp g (SH fl tg) (up2 σ 284 m v)) := hp_stI (S := SH fl tg) (a := 284) (k := 0) (n := 8) rfl h (by omega)
theorem ld_285 {m : Nat} (h : m < 400) : dm_ldI (c, t, hp g (SH fl tg) σ) 285 0 (Int32.ofNat m) = some (σ 285 m) := hp_ldI (S := SH fl tg) (a := 285) (k := 0) (n := 400) rfl h (by omega)
theorem sv_285 {m : Nat} {v : Int32} (h : m < 400) : dm_stI (c, t, hp g (SH fl tg) σ) 285 0 (Int32.ofNat m) v = some (c, t, hp g (SH fl tg) (up2 σ 285 m v)) := hp_stI (S := SH fl tg) (a := 285) (k := 0) (n := 400) rfl h (by omega)
theorem ld_286 {m : Nat} (h : m < 400) : dm_ldI (c, t, hp g (SH fl tg) σ) 286 0 (Int32.ofNat m) = some (σ 286 m) := hp_ldI (S := SH fl tg) (a := 286) (k := 0) (n := 400) rfl h (by omega)
theorem sv_286 {m : Nat} {v : Int32} (h : m < 400) : dm_stI (c, t, hp g (SH fl tg) σ) 286 0 (Int32.ofNat m) v = some (c, t, hp g (SH fl tg) (up2 σ 286 m v)) := hp_stI (S := SH fl tg) (a := 286) (k := 0) (n := 400) rfl h (by omega)
theorem ld_287 {m : Nat} (h : m < 400) : dm_ldI (c, t, hp g (SH fl tg) σ) 287 0 (Int32.ofNat m) = some (σ 287 m) := hp_ldI (S := SH fl tg) (a := 287) (k := 0) (n := 400) rfl h (by omega)
theorem sv_287 {m : Nat} {v : Int32} (h : m < 400) : dm_stI (c, t, hp g (SH fl tg) σ) 287 0 (Int32.ofNat m) v = some (c, t, hp g (SH fl tg) (up2 σ 287 m v)) := hp_stI (S := SH fl tg) (a := 287) (k := 0) (n := 400) rfl h (by omega)
theorem ld_288 {m : Nat} (h : m < 400) : dm_ldI (c, t, hp g (SH fl tg) σ) 288 0 (Int32.ofNat m) = some (σ 288 m) := hp_ldI (S := SH fl tg) (a := 288) (k := 0) (n := 400) rfl h (by omega)
theorem sv_288 {m : Nat} {v : Int32} (h : m < 400) : dm_stI (c, t, hp g (SH fl tg) σ) 288 0 (Int32.ofNat m) v = some (c, t, hp g (SH fl tg) (up2 σ 288 m v)) := hp_stI (S := SH fl tg) (a := 288) (k := 0) (n := 400) rfl h (by omega)
theorem ld_289 {m : Nat} (h : m < 400) : dm_ldI (c, t, hp g (SH fl tg) σ) 289 0 (Int32.ofNat m) = some (σ 289 m) := hp_ldI (S := SH fl tg) (a := 289) (k := 0) (n := 400) rfl h (by omega)
theorem sv_289 {m : Nat} {v : Int32} (h : m < 400) : dm_stI (c, t, hp g (SH fl tg) σ) 289 0 (Int32.ofNat m) v = some (c, t, hp g (SH fl tg) (up2 σ 289 m v)) := hp_stI (S := SH fl tg) (a := 289) (k := 0) (n := 400) rfl h (by omega)
theorem ld_290 {m : Nat} (h : m < 400) : dm_ldI (c, t, hp g (SH fl tg) σ) 290 0 (Int32.ofNat m) = some (σ 290 m) := hp_ldI (S := SH fl tg) (a := 290) (k := 0) (n := 400) rfl h (by omega)
theorem sv_290 {m : Nat} {v : Int32} (h : m < 400) : dm_stI (c, t, hp g (SH fl tg) σ) 290 0 (Int32.ofNat m) v = some (c, t, hp g (SH fl tg) (up2 σ 290 m v)) := hp_stI (S := SH fl tg) (a := 290) (k := 0) (n := 400) rfl h (by omega)
theorem ld_291 {m : Nat} (h : m < 400) : dm_ldI (c, t, hp g (SH fl tg) σ) 291 0 (Int32.ofNat m) = some (σ 291 m) := hp_ldI (S := SH fl tg) (a := 291) (k := 0) (n := 400) rfl h (by omega)
theorem sv_291 {m : Nat} {v : Int32} (h : m < 400) : dm_stI (c, t, hp g (SH fl tg) σ) 291 0 (Int32.ofNat m) v = some (c, t, hp g (SH fl tg) (up2 σ 291 m v)) := hp_stI (S := SH fl tg) (a := 291) (k := 0) (n := 400) rfl h (by omega)
theorem ld_292 {m : Nat} (h : m < 400) : dm_ldI (c, t, hp g (SH fl tg) σ) 292 0 (Int32.ofNat m) = some (σ 292 m) := hp_ldI (S := SH fl tg) (a := 292) (k := 0) (n := 400) rfl h (by omega)
theorem sv_292 {m : Nat} {v : Int32} (h : m < 400) : dm_stI (c, t, hp g (SH fl tg) σ) 292 0 (Int32.ofNat m) v = some (c, t, hp g (SH fl tg) (up2 σ 292 m v)) := hp_stI (S := SH fl tg) (a := 292) (k := 0) (n := 400) rfl h (by omega)
theorem ld_293 {m : Nat} (h : m < 400) : dm_ldI (c, t, hp g (SH fl tg) σ) 293 0 (Int32.ofNat m) = some (σ 293 m) := hp_ldI (S := SH fl tg) (a := 293) (k := 0) (n := 400) rfl h (by omega)
theorem sv_293 {m : Nat} {v : Int32} (h : m < 400) : dm_stI (c, t, hp g (SH fl tg) σ) 293 0 (Int32.ofNat m) v = some (c, t, hp g (SH fl tg) (up2 σ 293 m v)) := hp_stI (S := SH fl tg) (a := 293) (k := 0) (n := 400) rfl h (by omega)
theorem ld_294 {m : Nat} (h : m < 8) : dm_ldI (c, t, hp g (SH fl tg) σ) 294 0 (Int32.ofNat m) = some (σ 294 m) := hp_ldI (S := SH fl tg) (a := 294) (k := 0) (n := 8) rfl h (by omega)
theorem sv_294 {m : Nat} {v : Int32} (h : m < 8) : dm_stI (c, t, hp g (SH fl tg) σ) 294 0 (Int32.ofNat m) v = some (c, t, hp g (SH fl tg) (up2 σ 294 m v)) := hp_stI (S := SH fl tg) (a := 294) (k := 0) (n := 8) rfl h (by omega)
theorem is_s {s : Nat} (h : s < 8) : (dm_obj (c, t, hp g (SH fl tg) σ) (5 + 5 * s) 5).isSome = true := hp_isS (SH_stroke h)
theorem gi_s {s j : Nat} (h : s < 8) (hj : j < 7) : dm_getI (c, t, hp g (SH fl tg) σ) (5 + 5 * s) 5 j = some (σ (5 + 5 * s) j) := hp_getI (SH_stroke h) (match j, hj with | 0, _ => rfl | 1, _ => rfl | 2, _ => rfl | 3, _ => rfl | 4, _ => rfl | 5, _ => rfl | 6, _ => rfl)
theorem pi_s {s j : Nat} (v : Int32) (h : s < 8) (hj : j < 7) : dm_put (c, t, hp g (SH fl tg) σ) (5 + 5 * s) 5 j (.int v) = some (c, t, hp g (SH fl tg) (up2 σ (5 + 5 * s) j v)) := hp_put (SH_stroke h) (match j, hj with | 0, _ => rfl | 1, _ => rfl | 2, _ => rfl | 3, _ => rfl | 4, _ => rfl | 5, _ => rfl | 6, _ => rfl)
theorem gr_s_7 {s : Nat} (h : s < 8) : dm_getR (c, t, hp g (SH fl tg) σ) (5 + 5 * s) 5 7 = some (xA fl s) := hp_getR (SH_stroke h) rfl
theorem gr_s_8 {s : Nat} (h : s < 8) : dm_getR (c, t, hp g (SH fl tg) σ) (5 + 5 * s) 5 8 = some (yA fl s) := hp_getR (SH_stroke h) rfl
theorem gr_s_9 {s : Nat} (h : s < 8) : dm_getR (c, t, hp g (SH fl tg) σ) (5 + 5 * s) 5 9 = some (uA fl s) := hp_getR (SH_stroke h) rfl
theorem gr_s_10 {s : Nat} (h : s < 8) : dm_getR (c, t, hp g (SH fl tg) σ) (5 + 5 * s) 5 10 = some (vA fl s) := hp_getR (SH_stroke h) rfl
theorem ld_x {s m : Nat} (hs : s < 8) (h : m < 12) : dm_ldI (c, t, hp g (SH fl tg) σ) (xA fl s) 0 (Int32.ofNat m) = some (σ (xA fl s) m) := hp_ldI (SH_x hs) h (by omega)
theorem sv_x {s m : Nat} {v : Int32} (hs : s < 8) (h : m < 12) : dm_stI (c, t, hp g (SH fl tg) σ) (xA fl s) 0 (Int32.ofNat m) v = some (c, t, hp g (SH fl tg) (up2 σ (xA fl s) m v)) := hp_stI (SH_x hs) h (by omega)
theorem ld_y {s m : Nat} (hs : s < 8) (h : m < 12) : dm_ldI (c, t, hp g (SH fl tg) σ) (yA fl s) 0 (Int32.ofNat m) = some (σ (yA fl s) m) := hp_ldI (SH_y hs) h (by omega)
theorem sv_y {s m : Nat} {v : Int32} (hs : s < 8) (h : m < 12) : dm_stI (c, t, hp g (SH fl tg) σ) (yA fl s) 0 (Int32.ofNat m) v = some (c, t, hp g (SH fl tg) (up2 σ (yA fl s) m v)) := hp_stI (SH_y hs) h (by omega)
theorem ld_u {s m : Nat} (hs : s < 8) (h : m < 12) : dm_ldI (c, t, hp g (SH fl tg) σ) (uA fl s) 0 (Int32.ofNat m) = some (σ (uA fl s) m) := hp_ldI (SH_u hs) h (by omega)
theorem sv_u {s m : Nat} {v : Int32} (hs : s < 8) (h : m < 12) : dm_stI (c, t, hp g (SH fl tg) σ) (uA fl s) 0 (Int32.ofNat m) v = some (c, t, hp g (SH fl tg) (up2 σ (uA fl s) m v)) := hp_stI (SH_u hs) h (by omega)
theorem ld_v {s m : Nat} (hs : s < 8) (h : m < 12) : dm_ldI (c, t, hp g (SH fl tg) σ) (vA fl s) 0 (Int32.ofNat m) = some (σ (vA fl s) m) := hp_ldI (SH_v hs) h (by omega)
theorem sv_v {s m : Nat} {v : Int32} (hs : s < 8) (h : m < 12) : dm_stI (c, t, hp g (SH fl tg) σ) (vA fl s) 0 (Int32.ofNat m) v = some (c, t, hp g (SH fl tg) (up2 σ (vA fl s) m v)) := hp_stI (SH_v hs) h (by omega)
theorem ld_t {m : Nat} (ht : 296 ≤ tg) (h : m < 22528) : dm_ldI (c, t, hp g (SH fl tg) σ) tg 0 (Int32.ofNat m) = some (σ tg m) := hp_ldI (SH_tg ht) h (by omega)
theorem sv_t {m : Nat} {v : Int32} (ht : 296 ≤ tg) (h : m < 22528) : dm_stI (c, t, hp g (SH fl tg) σ) tg 0 (Int32.ofNat m) v = some (c, t, hp g (SH fl tg) (up2 σ tg m v)) := hp_stI (SH_tg ht) h (by omega)
theorem ld_b {m : Nat} (ht : 296 ≤ tg) (h : m < 7832) : dm_ldI (c, t, hp g (SH fl tg) σ) (tg + 1) 0 (Int32.ofNat m) = some (σ (tg + 1) m) := hp_ldI (SH_bt ht) h (by omega)
theorem sv_b {m : Nat} {v : Int32} (ht : 296 ≤ tg) (h : m < 7832) : dm_stI (c, t, hp g (SH fl tg) σ) (tg + 1) 0 (Int32.ofNat m) v = some (c, t, hp g (SH fl tg) (up2 σ (tg + 1) m v)) := hp_stI (SH_bt ht) h (by omega)
theorem is_l {i : Nat} (h : i < 209) : (dm_obj (c, t, hp g (SH fl tg) σ) (61 + i) 1).isSome = true := hp_isS (SH_leg h)
theorem gi_l {i j : Nat} (h : i < 209) (hj : j < 11) : dm_getI (c, t, hp g (SH fl tg) σ) (61 + i) 1 j = some (σ (61 + i) j) := hp_getI (SH_leg h) (match j, hj with | 0, _ => rfl | 1, _ => rfl | 2, _ => rfl | 3, _ => rfl | 4, _ => rfl | 5, _ => rfl | 6, _ => rfl | 7, _ => rfl | 8, _ => rfl | 9, _ => rfl | 10, _ => rfl)
theorem pi_l {i j : Nat} (v : Int32) (h : i < 209) (hj : j < 11) : dm_put (c, t, hp g (SH fl tg) σ) (61 + i) 1 j (.int v) = some (c, t, hp g (SH fl tg) (up2 σ (61 + i) j v)) := hp_put (SH_leg h) (match j, hj with | 0, _ => rfl | 1, _ => rfl | 2, _ => rfl | 3, _ => rfl | 4, _ => rfl | 5, _ => rfl | 6, _ => rfl | 7, _ => rfl | 8, _ => rfl | 9, _ => rfl | 10, _ => rfl)
theorem lr_2 {m : Nat} (h : m < 8) : dm_ldR (c, t, hp g (SH fl tg) σ) 2 (Int32.ofNat m) = some (5 + 5 * m) := hp_ldR (S := SH fl tg) (a := 2) (k := 3) (n := 8) rfl rfl (by show (bif Nat.blt m 8 then _ else _) = _; rw [show Nat.blt m 8 = true from Nat.blt_eq.mpr h]; rfl) h (by omega)
theorem lr_58 {m : Nat} (h : m < 209) : dm_ldR (c, t, hp g (SH fl tg) σ) 58 (Int32.ofNat m) = some (61 + m) := hp_ldR (S := SH fl tg) (a := 58) (k := 2) (n := 209) rfl rfl (by show (bif Nat.blt m 209 then _ else _) = _; rw [show Nat.blt m 209 = true from Nat.blt_eq.mpr h]; rfl) h (by omega)
end HQ
section I32
def bI (b : Bool) : Int32 := bif b then 1 else 0
theorem bI_0 (b : Bool) : (bI b = 0) = (b = false) := by cases b <;> simp [bI]
theorem bI_1 (b : Bool) : (bI b = 1) = (b = true) := by cases b <;> simp [bI]
theorem bI_d (b : Bool) : (decide (bI b = 0) || decide (bI b = 1)) = true := by cases b <;> rfl
theorem bI_t : bI true = 1 := rfl
theorem bI_f : bI false = 0 := rfl
theorem i_add (a b : Nat) : Int32.ofNat a + Int32.ofNat b = Int32.ofNat (a + b) := (Int32.ofNat_add a b).symm
theorem i_addl (a n : Nat) : Int32.ofNat a + (OfNat.ofNat n : Int32) = Int32.ofNat (a + OfNat.ofNat n) := (Int32.ofNat_add a n).symm
theorem i_ladd (a n : Nat) : (OfNat.ofNat n : Int32) + Int32.ofNat a = Int32.ofNat (OfNat.ofNat n + a) := (Int32.ofNat_add n a).symm
theorem i_mul (a b : Nat) : Int32.ofNat a * Int32.ofNat b = Int32.ofNat (a * b) := (Int32.ofNat_mul a b).symm
theorem i_mull (a n : Nat) : Int32.ofNat a * (OfNat.ofNat n : Int32) = Int32.ofNat (a * OfNat.ofNat n) := (Int32.ofNat_mul a n).symm
theorem i_lmul (a n : Nat) : (OfNat.ofNat n : Int32) * Int32.ofNat a = Int32.ofNat (OfNat.ofNat n * a) := (Int32.ofNat_mul n a).symm
theorem i_sub {a b : Nat} (h : b ≤ a) : Int32.ofNat a - Int32.ofNat b = Int32.ofNat (a - b) := (Int32.ofNat_sub a b h).symm
theorem i_subl {a n : Nat} (h : OfNat.ofNat n ≤ a) : Int32.ofNat a - (OfNat.ofNat n : Int32) = Int32.ofNat (a - OfNat.ofNat n) := (Int32.ofNat_sub a n h).symm
theorem i_lt {a b : Nat} (ha : a < 2 ^ 31) (hb : b < 2 ^ 31) : (Int32.ofNat a < Int32.ofNat b) = (a < b) := propext (Int32.ofNat_lt_iff_lt ha hb)
theorem i_ltl {a n : Nat} (ha : a < 2 ^ 31) (hb : OfNat.ofNat n < 2 ^ 31) : (Int32.ofNat a < (OfNat.ofNat n : Int32)) = (a < OfNat.ofNat n) := propext (Int32.ofNat_lt_iff_lt ha hb)
theorem i_llt {a n : Nat} (ha : a < 2 ^ 31) (hb : OfNat.ofNat n < 2 ^ 31) : ((OfNat.ofNat n : Int32) < Int32.ofNat a) = (OfNat.ofNat n < a) := propext (Int32.ofNat_lt_iff_lt hb ha)
theorem i_le {a b : Nat} (ha : a < 2 ^ 31) (hb : b < 2 ^ 31) : (Int32.ofNat a ≤ Int32.ofNat b) = (a ≤ b) := propext (Int32.ofNat_le_iff_le ha hb)
theorem i_lel {a n : Nat} (ha : a < 2 ^ 31) (hb : OfNat.ofNat n < 2 ^ 31) : (Int32.ofNat a ≤ (OfNat.ofNat n : Int32)) = (a ≤ OfNat.ofNat n) := propext (Int32.ofNat_le_iff_le ha hb)
theorem i_lle {a n : Nat} (ha : a < 2 ^ 31) (hb : OfNat.ofNat n < 2 ^ 31) : ((OfNat.ofNat n : Int32) ≤ Int32.ofNat a) = (OfNat.ofNat n ≤ a) := propext (Int32.ofNat_le_iff_le hb ha)
theorem i_eq {a b : Nat} (ha : a < 2 ^ 31) (hb : b < 2 ^ 31) : (Int32.ofNat a = Int32.ofNat b) = (a = b) := propext ⟨fun h => by
  have h2 := congrArg Int32.toNatClampNeg h
  rwa [Int32.toNatClampNeg_ofNat_of_lt ha, Int32.toNatClampNeg_ofNat_of_lt hb] at h2, fun h => by rw [h]⟩
theorem i_eql {a n : Nat} (ha : a < 2 ^ 31) (hb : OfNat.ofNat n < 2 ^ 31) : (Int32.ofNat a = (OfNat.ofNat n : Int32)) = (a = OfNat.ofNat n) := i_eq ha hb
theorem i_leq {a n : Nat} (ha : a < 2 ^ 31) (hb : OfNat.ofNat n < 2 ^ 31) : ((OfNat.ofNat n : Int32) = Int32.ofNat a) = (OfNat.ofNat n = a) := i_eq hb ha
theorem as_I {ρ : Type} (x : Int32) (h : dH) (K : Int32 → dH → Option ρ) : dm_asI (some (some (.int x), h)) K = K x h := rfl
theorem as_R {ρ : Type} (x : Nat) (h : dH) (K : Nat → dH → Option ρ) : dm_asR (some (some (.ref x), h)) K = K x h := rfl
theorem as_V {ρ : Type} (h : dH) (K : dH → Option ρ) : dm_asV (some (none, h)) K = K h := rfl
theorem ct_t {α : Type} (a b : α) : (bif true then a else b) = a := rfl
theorem ct_f {α : Type} (a b : α) : (bif false then a else b) = b := rfl
end I32
section LITS
theorem ia_0 (a : Nat) : Int32.ofNat a + 0 = Int32.ofNat (a + 0) := i_addl a 0
theorem ia_1 (a : Nat) : Int32.ofNat a + 1 = Int32.ofNat (a + 1) := i_addl a 1
theorem is_m0 {a : Nat} (h : 0 ≤ a) : Int32.ofNat a - 0 = Int32.ofNat (a - 0) := i_subl h
theorem is_m1 {a : Nat} (h : 1 ≤ a) : Int32.ofNat a - 1 = Int32.ofNat (a - 1) := i_subl h
theorem im_8 (a : Nat) : Int32.ofNat a * 8 = Int32.ofNat (a * 8) := i_mull a 8
theorem ml_8 (a : Nat) : 8 * Int32.ofNat a = Int32.ofNat (8 * a) := i_lmul a 8
theorem im_11 (a : Nat) : Int32.ofNat a * 11 = Int32.ofNat (a * 11) := i_mull a 11
theorem ml_11 (a : Nat) : 11 * Int32.ofNat a = Int32.ofNat (11 * a) := i_lmul a 11
theorem im_12 (a : Nat) : Int32.ofNat a * 12 = Int32.ofNat (a * 12) := i_mull a 12
theorem ml_12 (a : Nat) : 12 * Int32.ofNat a = Int32.ofNat (12 * a) := i_lmul a 12
theorem im_88 (a : Nat) : Int32.ofNat a * 88 = Int32.ofNat (a * 88) := i_mull a 88
theorem ml_88 (a : Nat) : 88 * Int32.ofNat a = Int32.ofNat (88 * a) := i_lmul a 88
theorem im_89 (a : Nat) : Int32.ofNat a * 89 = Int32.ofNat (a * 89) := i_mull a 89
theorem ml_89 (a : Nat) : 89 * Int32.ofNat a = Int32.ofNat (89 * a) := i_lmul a 89
theorem j_lt_0 {a : Nat} (h : a < 2 ^ 31) : (Int32.ofNat a < 0) = (a < 0) := i_ltl h (by decide)
theorem j_gt_0 {a : Nat} (h : a < 2 ^ 31) : (0 < Int32.ofNat a) = (0 < a) := i_llt h (by decide)
theorem j_le_0 {a : Nat} (h : a < 2 ^ 31) : (Int32.ofNat a ≤ 0) = (a ≤ 0) := i_lel h (by decide)
theorem j_ge_0 {a : Nat} (h : a < 2 ^ 31) : (0 ≤ Int32.ofNat a) = (0 ≤ a) := i_lle h (by decide)
theorem j_eq_0 {a : Nat} (h : a < 2 ^ 31) : (Int32.ofNat a = 0) = (a = 0) := i_eql h (by decide)
theorem j_lt_1 {a : Nat} (h : a < 2 ^ 31) : (Int32.ofNat a < 1) = (a < 1) := i_ltl h (by decide)
theorem j_gt_1 {a : Nat} (h : a < 2 ^ 31) : (1 < Int32.ofNat a) = (1 < a) := i_llt h (by decide)
theorem j_le_1 {a : Nat} (h : a < 2 ^ 31) : (Int32.ofNat a ≤ 1) = (a ≤ 1) := i_lel h (by decide)
theorem j_ge_1 {a : Nat} (h : a < 2 ^ 31) : (1 ≤ Int32.ofNat a) = (1 ≤ a) := i_lle h (by decide)
theorem j_eq_1 {a : Nat} (h : a < 2 ^ 31) : (Int32.ofNat a = 1) = (a = 1) := i_eql h (by decide)
theorem j_lt_2 {a : Nat} (h : a < 2 ^ 31) : (Int32.ofNat a < 2) = (a < 2) := i_ltl h (by decide)
theorem j_gt_2 {a : Nat} (h : a < 2 ^ 31) : (2 < Int32.ofNat a) = (2 < a) := i_llt h (by decide)
theorem j_le_2 {a : Nat} (h : a < 2 ^ 31) : (Int32.ofNat a ≤ 2) = (a ≤ 2) := i_lel h (by decide)
theorem j_ge_2 {a : Nat} (h : a < 2 ^ 31) : (2 ≤ Int32.ofNat a) = (2 ≤ a) := i_lle h (by decide)
theorem j_eq_2 {a : Nat} (h : a < 2 ^ 31) : (Int32.ofNat a = 2) = (a = 2) := i_eql h (by decide)
theorem j_lt_3 {a : Nat} (h : a < 2 ^ 31) : (Int32.ofNat a < 3) = (a < 3) := i_ltl h (by decide)
theorem j_gt_3 {a : Nat} (h : a < 2 ^ 31) : (3 < Int32.ofNat a) = (3 < a) := i_llt h (by decide)
theorem j_le_3 {a : Nat} (h : a < 2 ^ 31) : (Int32.ofNat a ≤ 3) = (a ≤ 3) := i_lel h (by decide)
theorem j_ge_3 {a : Nat} (h : a < 2 ^ 31) : (3 ≤ Int32.ofNat a) = (3 ≤ a) := i_lle h (by decide)
theorem j_eq_3 {a : Nat} (h : a < 2 ^ 31) : (Int32.ofNat a = 3) = (a = 3) := i_eql h (by decide)
theorem j_lt_4 {a : Nat} (h : a < 2 ^ 31) : (Int32.ofNat a < 4) = (a < 4) := i_ltl h (by decide)
theorem j_gt_4 {a : Nat} (h : a < 2 ^ 31) : (4 < Int32.ofNat a) = (4 < a) := i_llt h (by decide)
theorem j_le_4 {a : Nat} (h : a < 2 ^ 31) : (Int32.ofNat a ≤ 4) = (a ≤ 4) := i_lel h (by decide)
theorem j_ge_4 {a : Nat} (h : a < 2 ^ 31) : (4 ≤ Int32.ofNat a) = (4 ≤ a) := i_lle h (by decide)
theorem j_eq_4 {a : Nat} (h : a < 2 ^ 31) : (Int32.ofNat a = 4) = (a = 4) := i_eql h (by decide)
theorem j_lt_5 {a : Nat} (h : a < 2 ^ 31) : (Int32.ofNat a < 5) = (a < 5) := i_ltl h (by decide)
theorem j_gt_5 {a : Nat} (h : a < 2 ^ 31) : (5 < Int32.ofNat a) = (5 < a) := i_llt h (by decide)
theorem j_le_5 {a : Nat} (h : a < 2 ^ 31) : (Int32.ofNat a ≤ 5) = (a ≤ 5) := i_lel h (by decide)
theorem j_ge_5 {a : Nat} (h : a < 2 ^ 31) : (5 ≤ Int32.ofNat a) = (5 ≤ a) := i_lle h (by decide)
theorem j_eq_5 {a : Nat} (h : a < 2 ^ 31) : (Int32.ofNat a = 5) = (a = 5) := i_eql h (by decide)
theorem j_lt_6 {a : Nat} (h : a < 2 ^ 31) : (Int32.ofNat a < 6) = (a < 6) := i_ltl h (by decide)
theorem j_gt_6 {a : Nat} (h : a < 2 ^ 31) : (6 < Int32.ofNat a) = (6 < a) := i_llt h (by decide)
theorem j_le_6 {a : Nat} (h : a < 2 ^ 31) : (Int32.ofNat a ≤ 6) = (a ≤ 6) := i_lel h (by decide)
theorem j_ge_6 {a : Nat} (h : a < 2 ^ 31) : (6 ≤ Int32.ofNat a) = (6 ≤ a) := i_lle h (by decide)
theorem j_eq_6 {a : Nat} (h : a < 2 ^ 31) : (Int32.ofNat a = 6) = (a = 6) := i_eql h (by decide)
theorem j_lt_8 {a : Nat} (h : a < 2 ^ 31) : (Int32.ofNat a < 8) = (a < 8) := i_ltl h (by decide)
theorem j_gt_8 {a : Nat} (h : a < 2 ^ 31) : (8 < Int32.ofNat a) = (8 < a) := i_llt h (by decide)
theorem j_le_8 {a : Nat} (h : a < 2 ^ 31) : (Int32.ofNat a ≤ 8) = (a ≤ 8) := i_lel h (by decide)
theorem j_ge_8 {a : Nat} (h : a < 2 ^ 31) : (8 ≤ Int32.ofNat a) = (8 ≤ a) := i_lle h (by decide)
theorem j_eq_8 {a : Nat} (h : a < 2 ^ 31) : (Int32.ofNat a = 8) = (a = 8) := i_eql h (by decide)
theorem j_lt_12 {a : Nat} (h : a < 2 ^ 31) : (Int32.ofNat a < 12) = (a < 12) := i_ltl h (by decide)
theorem j_gt_12 {a : Nat} (h : a < 2 ^ 31) : (12 < Int32.ofNat a) = (12 < a) := i_llt h (by decide)
theorem j_le_12 {a : Nat} (h : a < 2 ^ 31) : (Int32.ofNat a ≤ 12) = (a ≤ 12) := i_lel h (by decide)
theorem j_ge_12 {a : Nat} (h : a < 2 ^ 31) : (12 ≤ Int32.ofNat a) = (12 ≤ a) := i_lle h (by decide)
theorem j_eq_12 {a : Nat} (h : a < 2 ^ 31) : (Int32.ofNat a = 12) = (a = 12) := i_eql h (by decide)
theorem j_lt_209 {a : Nat} (h : a < 2 ^ 31) : (Int32.ofNat a < 209) = (a < 209) := i_ltl h (by decide)
theorem j_gt_209 {a : Nat} (h : a < 2 ^ 31) : (209 < Int32.ofNat a) = (209 < a) := i_llt h (by decide)
theorem j_le_209 {a : Nat} (h : a < 2 ^ 31) : (Int32.ofNat a ≤ 209) = (a ≤ 209) := i_lel h (by decide)
theorem j_ge_209 {a : Nat} (h : a < 2 ^ 31) : (209 ≤ Int32.ofNat a) = (209 ≤ a) := i_lle h (by decide)
theorem j_eq_209 {a : Nat} (h : a < 2 ^ 31) : (Int32.ofNat a = 209) = (a = 209) := i_eql h (by decide)
theorem j_lt_255 {a : Nat} (h : a < 2 ^ 31) : (Int32.ofNat a < 255) = (a < 255) := i_ltl h (by decide)
theorem j_gt_255 {a : Nat} (h : a < 2 ^ 31) : (255 < Int32.ofNat a) = (255 < a) := i_llt h (by decide)
theorem j_le_255 {a : Nat} (h : a < 2 ^ 31) : (Int32.ofNat a ≤ 255) = (a ≤ 255) := i_lel h (by decide)
theorem j_ge_255 {a : Nat} (h : a < 2 ^ 31) : (255 ≤ Int32.ofNat a) = (255 ≤ a) := i_lle h (by decide)
theorem j_eq_255 {a : Nat} (h : a < 2 ^ 31) : (Int32.ofNat a = 255) = (a = 255) := i_eql h (by decide)
theorem j_lt_1000000000 {a : Nat} (h : a < 2 ^ 31) : (Int32.ofNat a < 1000000000) = (a < 1000000000) := i_ltl h (by decide)
theorem j_gt_1000000000 {a : Nat} (h : a < 2 ^ 31) : (1000000000 < Int32.ofNat a) = (1000000000 < a) := i_llt h (by decide)
theorem j_le_1000000000 {a : Nat} (h : a < 2 ^ 31) : (Int32.ofNat a ≤ 1000000000) = (a ≤ 1000000000) := i_lel h (by decide)
theorem j_ge_1000000000 {a : Nat} (h : a < 2 ^ 31) : (1000000000 ≤ Int32.ofNat a) = (1000000000 ≤ a) := i_lle h (by decide)
theorem j_eq_1000000000 {a : Nat} (h : a < 2 ^ 31) : (Int32.ofNat a = 1000000000) = (a = 1000000000) := i_eql h (by decide)
end LITS
