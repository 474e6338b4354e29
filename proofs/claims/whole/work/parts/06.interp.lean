/-! THE DEEP MACHINE: the bytecode of the class, the reference and the law, run over a picture of the heap.
A heap is (cells, slots, what each cell holds); a cell is an array (kind, length, contents) or an object (class, fields); references are numbers of cells.
Kinds of arrays: 0 int, 1 boolean, 2 Leg, 3 Stroke, 4 long. A 'float' k on the stack stands for the constant array k (3: the script). 'null' in the locals: unknown. -/
abbrev dE : Type := (Nat × vp_A) ⊕ (Nat × List Value)
abbrev dH : Type := Nat × Nat × (Nat → Option dE)
abbrev dT : Type := Nat → Nat × (Nat → Int32)
def dm_obj (h : dH) (a ci : Nat) : Option (List Value) := match h.2.2 a with
  | some (.inr (c, fs)) => bif Nat.beq c ci then some fs else none
  | _ => none
def dm_getI (h : dH) (a ci j : Nat) : Option Int32 := (dm_obj h a ci).bind fun fs => match fs[j]? with
  | some (.int x) => some x
  | _ => none
def dm_getR (h : dH) (a ci j : Nat) : Option Nat := (dm_obj h a ci).bind fun fs => match fs[j]? with
  | some (.ref x) => some x
  | _ => none
def dm_put (h : dH) (a ci j : Nat) (v : Value) : Option dH := (dm_obj h a ci).bind fun fs => bif Nat.blt j fs.length then some (h.1, h.2.1, va_up h.2.2 a (some (.inr (ci, fs.set j v)))) else none
def dm_rowI (h : dH) (a k : Nat) : Option (Nat × (Nat → Int32)) := match h.2.2 a with
  | some (.inl (c, n, .inl f)) => bif Nat.beq c k then some (n, f) else none
  | _ => none
def dm_rowL (h : dH) (a : Nat) : Option (Nat × (Nat → Int64)) := match h.2.2 a with
  | some (.inl (c, n, .inr (.inl f))) => bif Nat.beq c 4 then some (n, f) else none
  | _ => none
def dm_rowR (h : dH) (a : Nat) : Option (Nat × Nat × (Nat → Option Nat)) := match h.2.2 a with
  | some (.inl (c, n, .inr (.inr (.inr (.inr f))))) => bif Nat.beq c 2 || Nat.beq c 3 then some (c, n, f) else none
  | _ => none
def dm_at {α β : Type} (i : Int32) (n : Nat) (f : Nat → α) (K : α → Option β) : Option β := if i < 0 ∨ n ≤ i.toNatClampNeg then none else K (f i.toNatClampNeg)
def dm_ldI (h : dH) (a k : Nat) (i : Int32) : Option Int32 := (dm_rowI h a k).bind fun r => dm_at i r.1 r.2 some
def dm_ldL (h : dH) (a : Nat) (i : Int32) : Option Int64 := (dm_rowL h a).bind fun r => dm_at i r.1 r.2 some
def dm_ldR (h : dH) (a : Nat) (i : Int32) : Option Nat := (dm_rowR h a).bind fun r => dm_at i r.2.1 r.2.2 id
def dm_stI (h : dH) (a k : Nat) (i x : Int32) : Option dH := (dm_rowI h a k).bind fun r => dm_at i r.1 id fun j => some (h.1, h.2.1, va_up h.2.2 a (some (.inl (k, r.1, .inl (upd r.2 j x)))))
def dm_ek (k : Nat) : Nat := bif Nat.beq k 2 then 1 else 5
def dm_stR (h : dH) (a : Nat) (i : Int32) (v : Nat) : Option dH := (dm_rowR h a).bind fun r => (dm_obj h v (dm_ek r.1)).bind fun _ => dm_at i r.2.1 id fun j => some (h.1, h.2.1, va_up h.2.2 a (some (.inl (r.1, r.2.1, .inr (.inr (.inr (.inr (va_up r.2.2 j (some v)))))))))
def dm_new (h : dH) (n : Nat) (e : dE) : dH := (h.1 + 1, h.2.1 + n, va_up h.2.2 h.1 (some e))
def dm_def (ci : Nat) : List Value := match ci with
  | 0 => [.int 0, .int 0, .int 0, .int 0]
  | 1 => [.int 0, .int 0, .int 0, .int 0, .int 0, .int 0, .int 0, .int 0, .int 0, .int 0, .int 0]
  | 2 => [.null, .null, .null, .null, .null, .null, .null, .null, .int 0, .int 0, .int 0, .null, .null, .null, .null, .int 0, .int 0]
  | 3 => [.null, .null, .null, .int 0, .int 0, .null, .int 0, .null, .int 0, .int 0, .int 0, .int 0, .int 0, .int 0, .int 0]
  | 4 => [.null, .null, .null, .int 0]
  | 5 => [.int 0, .int 0, .int 0, .int 0, .int 0, .int 0, .int 0, .null, .null, .null, .null]
  | 6 => [.null, .null, .null, .null]
  | _ => [.int 0, .null, .null, .null, .null, .null, .null, .null, .null, .null, .int 0, .int 0, .int 0, .int 0, .int 0, .int 0, .null, .null, .null, .null, .null, .int 0, .int 0, .int 0, .null, .null, .null, .null, .null, .null, .null, .null, .null, .null, .int 0, .int 0, .int 0]
def dm_two (v : Option Value) : Bool := match v with
  | some (.long _) => true
  | some (.double _) => true
  | _ => false
def dm_sto (mi : Nat) (ls : List Value) (k : Nat) (v : Value) : Option (List Value) := bif Nat.blt k ls.length && !(Nat.beq mi 68 && (Nat.blt 0 k && dm_two ls[k - 1]?)) then some (ls.set k v) else none
def dm_stoL (mi : Nat) (ls : List Value) (k : Nat) (v : Value) : Option (List Value) := bif Nat.blt (k + 1) ls.length && (Nat.beq mi 68 && !(Nat.blt 0 k && dm_two ls[k - 1]?)) then some ((ls.set k v).set (k + 1) .null) else none
def dm_to (pc : Nat) (off : Int) : Option Nat := match (pc : Int) + off with
  | .ofNat n => some n
  | _ => none
def dm_ni {ρ : Type} (v : Option Value) (K : Int32 → Option ρ) : Option ρ := match v with
  | some (.int x) => K x
  | _ => none
def dm_nl {ρ : Type} (v : Option Value) (K : Int64 → Option ρ) : Option ρ := match v with
  | some (.long x) => K x
  | _ => none
def dm_nr {ρ : Type} (v : Option Value) (K : Value → Option ρ) : Option ρ := match v with
  | some (.ref x) => K (.ref x)
  | some (.float x) => K (.float x)
  | _ => none
def dm_i1 {ρ : Type} (st : List Value) (K : Int32 → List Value → Option ρ) : Option ρ := match st with
  | .int x :: r => K x r
  | _ => none
/-- two ints: the lower one first -/
def dm_i2 {ρ : Type} (st : List Value) (K : Int32 → Int32 → List Value → Option ρ) : Option ρ := match st with
  | .int y :: .int x :: r => K x y r
  | _ => none
def dm_l2 {ρ : Type} (st : List Value) (K : Int64 → Int64 → List Value → Option ρ) : Option ρ := match st with
  | .long y :: .long x :: r => K x y r
  | _ => none
def dm_if {ρ : Type} (c : ClassFile.Cond) (x y : Int32) (a b : Option ρ) : Option ρ := match c with
  | .eq => if x = y then a else b
  | .ne => if x = y then b else a
  | .lt => if x < y then a else b
  | .ge => if y ≤ x then a else b
  | .gt => if y < x then a else b
  | .le => if x ≤ y then a else b
def dm_ok (ty : Nat) (v : Value) : Bool := match v with
  | .int x => bif Nat.beq (ty % 4) 0 then true else bif Nat.beq (ty % 4) 1 then decide (x = 0) || decide (x = 1) else false
  | .ref _ => Nat.beq (ty % 4) 2
  | _ => false
def dm_sw (lo : Int) (offs : Array Int) (x : Int32) : Option Int := if x.toInt < lo then none else offs.toList[(x.toInt - lo).toNat]?
def dm_step {ρ : Type} (tb : dT) (mi : Nat) (i : Instr) (pc : Nat) (ls st : List Value) (h : dH) (K : Nat → List Value → List Value → dH → Option ρ) : Option ρ :=
  match i with
  | .iconst n => K (pc + 1) ls (.int (Int32.ofInt n) :: st) h
  | .bipush n => K (pc + 2) ls (.int (Int8.ofInt n).toInt32 :: st) h
  | .sipush n => K (pc + 3) ls (.int (Int16.ofInt n).toInt32 :: st) h
  | .lconst n => K (pc + 1) ls (.long (Int64.ofNat (n : Nat)) :: st) h
  | .ldc k => (dg_cst (dm_own mi * 512 + k)).bind fun v => K (pc + 2) ls (.int v :: st) h
  | .ldc_w k => (dg_cst (dm_own mi * 512 + k)).bind fun v => K (pc + 3) ls (.int v :: st) h
  | .iload k => dm_ni ls[k]? fun x => K (pc + 2) ls (.int x :: st) h
  | .iload_n k => dm_ni ls[k.val]? fun x => K (pc + 1) ls (.int x :: st) h
  | .lload k => dm_nl ls[k]? fun x => K (pc + 2) ls (.long x :: st) h
  | .aload k => dm_nr ls[k]? fun x => K (pc + 2) ls (x :: st) h
  | .aload_n k => dm_nr ls[k.val]? fun x => K (pc + 1) ls (x :: st) h
  | .istore k => dm_i1 st fun x r => (dm_sto mi ls k (.int x)).bind fun l => K (pc + 2) l r h
  | .istore_n k => dm_i1 st fun x r => (dm_sto mi ls k.val (.int x)).bind fun l => K (pc + 1) l r h
  | .lstore k => match st with
    | .long x :: r => (dm_stoL mi ls k (.long x)).bind fun l => K (pc + 2) l r h
    | _ => none
  | .astore k => match st with
    | .ref x :: r => (dm_sto mi ls k (.ref x)).bind fun l => K (pc + 2) l r h
    | _ => none
  | .astore_n k => match st with
    | .ref x :: r => (dm_sto mi ls k.val (.ref x)).bind fun l => K (pc + 1) l r h
    | _ => none
  | .iinc k n => dm_ni ls[k]? fun x => (dm_sto mi ls k (.int (x + Int32.ofInt n))).bind fun l => K (pc + 3) l st h
  | .iadd => dm_i2 st fun x y r => K (pc + 1) ls (.int (x + y) :: r) h
  | .isub => dm_i2 st fun x y r => K (pc + 1) ls (.int (x - y) :: r) h
  | .imul => dm_i2 st fun x y r => K (pc + 1) ls (.int (x * y) :: r) h
  | .idiv => dm_i2 st fun x y r => if y = 0 then none else K (pc + 1) ls (.int (x / y) :: r) h
  | .irem => dm_i2 st fun x y r => if y = 0 then none else K (pc + 1) ls (.int (x - x / y * y) :: r) h
  | .iand => dm_i2 st fun x y r => K (pc + 1) ls (.int (x &&& y) :: r) h
  | .ior => dm_i2 st fun x y r => K (pc + 1) ls (.int (x ||| y) :: r) h
  | .ixor => dm_i2 st fun x y r => K (pc + 1) ls (.int (x ^^^ y) :: r) h
  | .ishl => dm_i2 st fun x y r => K (pc + 1) ls (.int (x <<< (y &&& 31)) :: r) h
  | .ishr => dm_i2 st fun x y r => K (pc + 1) ls (.int (x >>> (y &&& 31)) :: r) h
  | .iushr => dm_i2 st fun x y r => K (pc + 1) ls (.int (x.toUInt32 >>> (y.toUInt32 &&& Int32.toUInt32 31)).toInt32 :: r) h
  | .ineg => dm_i1 st fun x r => K (pc + 1) ls (.int (-x) :: r) h
  | .i2l => dm_i1 st fun x r => K (pc + 1) ls (.long x.toInt64 :: r) h
  | .lmul => dm_l2 st fun x y r => K (pc + 1) ls (.long (x * y) :: r) h
  | .lcmp => dm_l2 st fun x y r => K (pc + 1) ls (.int (lg_cmp x y) :: r) h
  | .dup => match st with
    | .int x :: r => K (pc + 1) ls (.int x :: .int x :: r) h
    | .ref x :: r => K (pc + 1) ls (.ref x :: .ref x :: r) h
    | _ => none
  | .dup2 => match st with
    | .int y :: .ref x :: r => K (pc + 1) ls (.int y :: .ref x :: .int y :: .ref x :: r) h
    | _ => none
  | .ifCond c off => dm_i1 st fun x r => (dm_to pc off).bind fun t => dm_if c x 0 (K t ls r h) (K (pc + 3) ls r h)
  | .if_icmp c off => dm_i2 st fun x y r => (dm_to pc off).bind fun t => dm_if c x y (K t ls r h) (K (pc + 3) ls r h)
  | .goto off => (dm_to pc off).bind fun t => K t ls st h
  | .tableswitch dflt lo hi offs => dm_i1 st fun x r => (dm_to pc dflt).bind fun td => if x.toInt < lo ∨ hi < x.toInt then K td ls r h else (offs[(x.toInt - lo).toNat]?).bind fun o => (dm_to pc o).bind fun t => K t ls r h
  | .getfield k => match st with
    | .ref a :: r => (dg_fld (dm_own mi * 512 + k)).bind fun f => bif Nat.blt (f.2.2 % 4) 2 then (dm_getI h a f.1 f.2.1).bind fun x => K (pc + 3) ls (.int x :: r) h else (dm_getR h a f.1 f.2.1).bind fun x => K (pc + 3) ls (.ref x :: r) h
    | _ => none
  | .putfield k => match st with
    | v :: .ref a :: r => (dg_fld (dm_own mi * 512 + k)).bind fun f => bif dm_ok f.2.2 v && (Nat.blt f.2.2 4 || (dm_ini mi && Nat.beq f.1 (dm_own mi))) then (dm_put h a f.1 f.2.1 v).bind fun h => K (pc + 3) ls r h else none
    | _ => none
  | .getstatic k => (dg_stc (dm_own mi * 512 + k)).bind fun s => K (pc + 3) ls (.float (UInt32.ofNat s.1) :: st) h
  | .iaload => match st with
    | .int i :: .ref a :: r => (dm_ldI h a 0 i).bind fun x => K (pc + 1) ls (.int x :: r) h
    | .int i :: .float k :: r => dm_at i (tb k.toNat).1 (tb k.toNat).2 fun x => K (pc + 1) ls (.int x :: r) h
    | _ => none
  | .baload => match st with
    | .int i :: .ref a :: r => (dm_ldI h a 1 i).bind fun x => K (pc + 1) ls (.int x :: r) h
    | _ => none
  | .laload => match st with
    | .int i :: .ref a :: r => (dm_ldL h a i).bind fun x => K (pc + 1) ls (.long x :: r) h
    | _ => none
  | .aaload => match st with
    | .int i :: .ref a :: r => (dm_ldR h a i).bind fun x => K (pc + 1) ls (.ref x :: r) h
    | _ => none
  | .iastore => match st with
    | .int x :: .int i :: .ref a :: r => (dm_stI h a 0 i x).bind fun h => K (pc + 1) ls r h
    | _ => none
  | .bastore => match st with
    | .int x :: .int i :: .ref a :: r => bif decide (x = 0) || decide (x = 1) then (dm_stI h a 1 i x).bind fun h => K (pc + 1) ls r h else none
    | _ => none
  | .aastore => match st with
    | .ref x :: .int i :: .ref a :: r => (dm_stR h a i x).bind fun h => K (pc + 1) ls r h
    | _ => none
  | .arraylength => match st with
    | .ref a :: r => (dm_rowI h a 0).bind fun w => K (pc + 1) ls (.int (Int32.ofNat w.1) :: r) h
    | .float k :: r => K (pc + 1) ls (.int (Int32.ofNat (tb k.toNat).1) :: r) h
    | _ => none
  | .new k => (dg_cls (dm_own mi * 512 + k)).bind fun c => K (pc + 3) ls (.ref h.1 :: st) (dm_new h (dm_def c).length (.inr (c, dm_def c)))
  | .newarray t => dm_i1 st fun n r => if n < 0 ∨ 100000 < n then none else match t with
    | .int => K (pc + 2) ls (.ref h.1 :: r) (dm_new h n.toNatClampNeg (.inl (0, n.toNatClampNeg, .inl fun _ => 0)))
    | .boolean => K (pc + 2) ls (.ref h.1 :: r) (dm_new h n.toNatClampNeg (.inl (1, n.toNatClampNeg, .inl fun _ => 0)))
    | .long => K (pc + 2) ls (.ref h.1 :: r) (dm_new h n.toNatClampNeg (.inl (4, n.toNatClampNeg, .inr (.inl fun _ => 0))))
    | _ => none
  | .anewarray k => dm_i1 st fun n r => if n < 0 ∨ 100000 < n then none else (dg_cls (dm_own mi * 512 + k)).bind fun c => bif Nat.beq c 1 || Nat.beq c 5 then K (pc + 3) ls (.ref h.1 :: r) (dm_new h n.toNatClampNeg (.inl (bif Nat.beq c 1 then 2 else 3, n.toNatClampNeg, .inr (.inr (.inr (.inr fun _ => none)))))) else none
  | _ => none
def dm_asI {ρ : Type} (o : Option (Option Value × dH)) (K : Int32 → dH → Option ρ) : Option ρ := o.bind fun p => match p.1 with
  | some (.int x) => K x p.2
  | _ => none
def dm_asR {ρ : Type} (o : Option (Option Value × dH)) (K : Nat → dH → Option ρ) : Option ρ := o.bind fun p => match p.1 with
  | some (.ref x) => K x p.2
  | _ => none
def dm_asV {ρ : Type} (o : Option (Option Value × dH)) (K : dH → Option ρ) : Option ρ := o.bind fun p => match p.1 with
  | none => K p.2
  | _ => none
/-- the n arguments on the stack (the last one on top), the receiver where there is one: in order; and the rest -/
def dm_args (n : Nat) (st : List Value) : List Value := (st.take n).reverse
def dm_pad (n : Nat) (l : List Value) : List Value := l ++ List.replicate (n - l.length) .null
def dm_cat (v : Value) : Nat := match v with
  | .long _ => 2
  | .double _ => 2
  | _ => 1
def dm_cats (l : List Value) : Nat := match l with
  | [] => 0
  | v :: r => dm_cat v + dm_cats r
def dm_rf1 (v : Option Value) : Bool := match v with
  | some (.ref _) => true
  | _ => false
def dm_isr (h : dH) (v : Option Value) (ci : Nat) : Bool := match v with
  | some (.ref a) => (dm_obj h a ci).isSome
  | _ => false
def dm_call {ρ : Type} (run : Nat → List Value → dH → Option (Option Value × dH)) (m : Nat × Nat × Nat × Nat × Nat) (spec : Nat) (st : List Value) (h : dH) (K : List Value → dH → Option ρ) : Option ρ :=
  bif (match spec with
    | 0 => Nat.beq m.1 0 && dm_isr h st[m.2.2.1]? (dm_own m.2.1)
    | 1 => Nat.beq m.1 1 || Nat.beq m.1 2
    | _ => (Nat.beq m.1 3 || Nat.beq m.1 4) && dm_rf1 st[m.2.2.1]?) then
    (match (bif Nat.beq spec 1 then m.2.2.1 else m.2.2.1 + 1) with
    | n => bif Nat.ble n st.length && (Nat.beq (dm_cats (st.take n)) n && Nat.ble (dm_cats (st.drop n)) 8) then
        (match m.2.2.2.2 with
        | 0 => dm_asV (run m.2.1 (dm_pad m.2.2.2.1 (dm_args n st)) h) fun h => K (st.drop n) h
        | 1 => dm_asI (run m.2.1 (dm_pad m.2.2.2.1 (dm_args n st)) h) fun x h => K (.int x :: st.drop n) h
        | _ => dm_asR (run m.2.1 (dm_pad m.2.2.2.1 (dm_args n st)) h) fun x h => K (.ref x :: st.drop n) h) else none)
  else none
def dm_stL (h : dH) (a : Nat) (i : Int32) (x : Int64) : Option dH := (dm_rowL h a).bind fun r => dm_at i r.1 id fun j => some (h.1, h.2.1, va_up h.2.2 a (some (.inl (4, r.1, .inr (.inl (vp_updL r.2 j x))))))
/-- PenArmLaw.at: what PenArm.at answered goes into out[0], 0; or it threw: 1, and the heap has a cell more that nobody looks at -/
def dm_lat {ρ : Type} (o : Option (Option Value × dH)) (out : Nat) (K : Int32 → dH → Option ρ) : Option ρ := o.bind fun p => match p.1 with
  | some (.int y) => (dm_stL p.2 out 0 y.toInt64).bind fun h => K 0 h
  | some (.retAddr _) => K 1 (p.2.1 + 1, p.2.2.1 + 6, p.2.2.2)
  | _ => none
def dm_one {ρ : Type} (run : Nat → List Value → dH → Option (Option Value × dH)) (run2 : List Value → dH → Option (Option Value × dH)) (fin : Option Value → dH → Option ρ) (tb : dT) (deep deep2 : Bool) (mi : Nat) (i : Instr) (pc : Nat) (ls st : List Value) (h : dH) (K : Nat → List Value → List Value → dH → Option ρ) : Option ρ :=
  match i with
  | .ireturn => match st with
    | [.int x] => bif dm_isb mi then (bif decide (x = 0) || decide (x = 1) then fin (some (.int x)) h else none) else fin (some (.int x)) h
    | _ => none
  | .areturn => match st with
    | [.ref x] => fin (some (.ref x)) h
    | _ => none
  | .return_ => match st with
    | [] => fin none h
    | _ => none
  | .new k => bif Nat.beq mi 85 && Nat.beq pc 33 then (match st with
      | [] => fin (some (.retAddr 0)) h
      | _ => none) else dm_step tb mi (.new k) pc ls st h K
  | .invokevirtual k => bif deep then (dg_mth (dm_own mi * 512 + k)).bind fun m => dm_call run m 0 st h fun st h => K (pc + 3) ls st h else none
  | .invokestatic k => bif deep then (dg_mth (dm_own mi * 512 + k)).bind fun m => (match m.1 with
      | 6 => dm_i1 st fun x r => bif Nat.ble (dm_cats r) 8 then K (pc + 3) ls (.int (if 0 ≤ x then x else 0 - x) :: r) h else none
      | 7 => dm_i2 st fun x y r => bif Nat.ble (dm_cats r) 8 then K (pc + 3) ls (.int (if x < y then y else x) :: r) h else none
      | 8 => dm_i2 st fun x y r => bif Nat.ble (dm_cats r) 8 then K (pc + 3) ls (.int (if y < x then y else x) :: r) h else none
      | 9 => (match st with
        | [.ref out, .int p2, .int p1, .int p0, .ref x] => bif deep2 && (dm_obj h x 6).isSome then dm_lat (run2 [.ref x, .int p0, .int p1, .int p2, .null] h) out fun k h => K (pc + 3) ls [.int k] h else none
        | _ => none)
      | _ => dm_call run m 1 st h fun st h => K (pc + 3) ls st h) else none
  | .invokespecial k => bif deep then (dg_mth (dm_own mi * 512 + k)).bind fun m => bif Nat.beq m.1 5 then (match st with
      | .ref _ :: r => bif Nat.ble (dm_cats r) 8 then K (pc + 3) ls r h else none
      | _ => none) else dm_call run m 2 st h fun st h => K (pc + 3) ls st h else none
  | i => dm_step tb mi i pc ls st h K
noncomputable def dm_run (tb : dT) (n : Nat) : Nat → Nat → Nat → List Value → List Value → dH → Option (Option Value × dH) :=
  Nat.rec (fun _ _ _ _ _ _ => none) (fun _ ih d mi pc ls st h => match dm_code mi pc with
    | none => none
    | some i => dm_one (fun t as h => ih (d - 1) t 0 as [] h) (fun as h => ih (d - 2) 85 0 as [] h) (fun v h => some (v, h)) tb (Nat.blt 0 d) (Nat.blt 1 d) mi i pc ls st h fun pc ls st h => ih d mi pc ls st h) n
theorem dm_run_0 (tb : dT) (d mi pc : Nat) (ls st : List Value) (h : dH) : dm_run tb 0 d mi pc ls st h = none := rfl
theorem dm_run_s (tb : dT) (n d mi pc : Nat) (ls st : List Value) (h : dH) : dm_run tb (n + 1) d mi pc ls st h = match dm_code mi pc with
    | none => none
    | some i => dm_one (fun t as h => dm_run tb n (d - 1) t 0 as [] h) (fun as h => dm_run tb n (d - 2) 85 0 as [] h) (fun v h => some (v, h)) tb (Nat.blt 0 d) (Nat.blt 1 d) mi i pc ls st h fun pc ls st h => dm_run tb n d mi pc ls st h := rfl
