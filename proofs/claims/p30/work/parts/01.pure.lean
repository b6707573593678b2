/-! THE PURE MACHINE: the code of the claim's methods, run over plain lists; what the machine does is tied to it once (part 02) -/
/-- a cell: an array (its type's number, its length, what it holds) or an object (its class's number, its fields in the tables' order) -/
abbrev P_E : Type := (Nat × vp_A) ⊕ (Nat × List Value)
/-- cells by their numbers; how many cells and slots were made so far -/
abbrev P_H : Type := List P_E × Nat × Nat
/-- an instruction, the pc behind it, two numbers of its own, the locals that are dropped behind it and at its target -/
abbrev P_I : Type := Instr × Nat × Int × Nat × List Nat × List Nat
/-- a method: how many locals; what it returns; its code; its handlers: from, to, the thrown one's number, the pc behind the handler's store, the local that is stored -/
abbrev P_M : Type := Nat × Option FieldType × (Nat → Option P_I) × List (Nat × Nat × Nat × Nat × Nat)
/-- what a call comes to: a value or nothing; or the number of what it throws -/
abbrev P_R : Type := Option Value ⊕ Nat
/-- methods by number; what a call site chooses for a class -/
abbrev P_G : Type := (Nat → Option P_M) × (Nat → Nat → Option Nat)
/-- a place inside a method: pc, locals, stack, heap -/
abbrev P_S : Type := Nat × List Value × List Value × P_H
/-- a local that nothing is known of -/
abbrev P_un : Value := .retAddr 0
def P_pre (L : List Value) (i : Nat) : List Value := match i with
  | 0 => L
  | j + 1 => match L[j]? with
    | some (.long _) => L.set j P_un
    | some (.double _) => L.set j P_un
    | _ => L
def P_st1 (L : List Value) (i : Nat) (v : Value) : List Value := (P_pre L i).set i v
def P_st2 (L : List Value) (i : Nat) (v : Value) : List Value := ((P_pre L i).set i v).set (i + 1) P_un
def P_kill (L : List Value) : List Nat → List Value
  | [] => L
  | k :: ks => P_kill (L.set k P_un) ks
def P_ldi (L : List Value) (k : Nat) (st : List Value) : Option (List Value × List Value) := match L[k]? with
  | some (.int x) => some (L, .int x :: st)
  | _ => none
def P_ldl (L : List Value) (k : Nat) (st : List Value) : Option (List Value × List Value) := match L[k]? with
  | some (.long x) => some (L, .long x :: st)
  | _ => none
def P_ldd (L : List Value) (k : Nat) (st : List Value) : Option (List Value × List Value) := match L[k]? with
  | some (.double x) => some (L, .double x :: st)
  | _ => none
def P_lda (L : List Value) (k : Nat) (st : List Value) : Option (List Value × List Value) := match L[k]? with
  | some (.ref x) => some (L, .ref x :: st)
  | some .null => some (L, .null :: st)
  | _ => none
def P_sti (L : List Value) (k : Nat) (st : List Value) : Option (List Value × List Value) := match st with
  | .int x :: r => if k < L.length then some (P_st1 L k (.int x), r) else none
  | _ => none
def P_sta (L : List Value) (k : Nat) (st : List Value) : Option (List Value × List Value) := match st with
  | .ref x :: r => if k < L.length then some (P_st1 L k (.ref x), r) else none
  | .null :: r => if k < L.length then some (P_st1 L k .null, r) else none
  | _ => none
def P_stl (L : List Value) (k : Nat) (st : List Value) : Option (List Value × List Value) := match st with
  | .long x :: r => if k + 1 < L.length then some (P_st2 L k (.long x), r) else none
  | _ => none
def P_std (L : List Value) (k : Nat) (st : List Value) : Option (List Value × List Value) := match st with
  | .double x :: r => if k + 1 < L.length then some (P_st2 L k (.double x), r) else none
  | _ => none
def P_ii (f : Int32 → Int32 → Int32) (L st : List Value) : Option (List Value × List Value) := match st with
  | .int y :: .int x :: r => some (L, .int (f x y) :: r)
  | _ => none
def P_ll (f : Int64 → Int64 → Int64) (L st : List Value) : Option (List Value × List Value) := match st with
  | .long y :: .long x :: r => some (L, .long (f x y) :: r)
  | _ => none
/-- division and remainder: not by 0 -/
def P_id (f : Int32 → Int32 → Int32) (L st : List Value) : Option (List Value × List Value) := match st with
  | .int y :: .int x :: r => if y = 0 then none else some (L, .int (f x y) :: r)
  | _ => none
def P_ld (f : Int64 → Int64 → Int64) (L st : List Value) : Option (List Value × List Value) := match st with
  | .long y :: .long x :: r => if y = 0 then none else some (L, .long (f x y) :: r)
  | _ => none
/-- on doubles: not to a NaN -/
def P_dd (f : UInt64 → UInt64 → UInt64) (L st : List Value) : Option (List Value × List Value) := match st with
  | .double y :: .double x :: r => if f x y &&& 0x7fffffffffffffff ≤ 0x7ff0000000000000 then some (L, .double (f x y) :: r) else none
  | _ => none
def P_c1 (v : Value) : Bool := match v with
  | .long _ => false
  | .double _ => false
  | _ => true
def P_dup (L st : List Value) : Option (List Value × List Value) := match st with
  | a :: r => if P_c1 a = true then some (L, a :: a :: r) else none
  | _ => none
def P_pop (L st : List Value) : Option (List Value × List Value) := match st with
  | a :: r => if P_c1 a = true then some (L, r) else none
  | _ => none
def P_dupx1 (L st : List Value) : Option (List Value × List Value) := match st with
  | a :: b :: r => if P_c1 a = true then if P_c1 b = true then some (L, a :: b :: a :: r) else none else none
  | _ => none
def P_dupx2 (L st : List Value) : Option (List Value × List Value) := match st with
  | a :: b :: d :: r => if P_c1 a = true then if P_c1 b = true then if P_c1 d = true then some (L, a :: b :: d :: a :: r) else none else none else none
  | _ => none
def P_dup2 (L st : List Value) : Option (List Value × List Value) := match st with
  | a :: b :: r => if P_c1 a = true then if P_c1 b = true then some (L, a :: b :: a :: b :: r) else none else none
  | _ => none
def P_u (f : Value → Option Value) (L st : List Value) : Option (List Value × List Value) := match st with
  | a :: r => match f a with
    | some b => some (L, b :: r)
    | none => none
  | _ => none
def P_lcmp (L st : List Value) : Option (List Value × List Value) := match st with
  | .long y :: .long x :: r => some (L, .int (lg_cmp x y) :: r)
  | _ => none
def P_dcmp (op : CmpOp) (L st : List Value) : Option (List Value × List Value) := match st with
  | .double y :: .double x :: r => some (L, .int (Op.cmpValue (FP.dcmp x y) op) :: r)
  | _ => none
def P_ineg (v : Value) : Option Value := match v with
  | .int x => some (.int (-x))
  | _ => none
def P_i2l (v : Value) : Option Value := match v with
  | .int x => some (.long x.toInt64)
  | _ => none
def P_i2d (v : Value) : Option Value := match v with
  | .int x => some (.double (FP.i2d x))
  | _ => none
def P_d2i (v : Value) : Option Value := match v with
  | .double x => some (.int (FP.d2i x))
  | _ => none
def P_iinc (L : List Value) (k : Nat) (n : Int) (st : List Value) : Option (List Value × List Value) := match L[k]? with
  | some (.int x) => some (P_st1 L k (.int (x + Int32.ofInt n)), st)
  | _ => none
/-- what moves between locals and stack alone -/
def P_op (i : Instr) (r1 : Int) (r2 : Nat) (L st : List Value) : Option (List Value × List Value) := match i with
  | .aconst_null => some (L, .null :: st)
  | .aload k => P_lda L k st
  | .aload_n k => P_lda L k.val st
  | .iload k => P_ldi L k st
  | .iload_n k => P_ldi L k.val st
  | .lload k => P_ldl L k st
  | .lload_n k => P_ldl L k.val st
  | .dload k => P_ldd L k st
  | .dload_n k => P_ldd L k.val st
  | .astore k => P_sta L k st
  | .astore_n k => P_sta L k.val st
  | .istore k => P_sti L k st
  | .istore_n k => P_sti L k.val st
  | .lstore k => P_stl L k st
  | .lstore_n k => P_stl L k.val st
  | .dstore k => P_std L k st
  | .dstore_n k => P_std L k.val st
  | .iinc k n => P_iinc L k n st
  | .iconst n => some (L, .int (Int32.ofInt n) :: st)
  | .bipush n => some (L, .int (Int8.ofInt n).toInt32 :: st)
  | .sipush n => some (L, .int (Int16.ofInt n).toInt32 :: st)
  | .lconst n => some (L, .long (Int64.ofNat n.val) :: st)
  | .dconst n => if n.val = 0 then some (L, .double (0 : UInt64) :: st) else none
  | .ldc _ => some (L, .int (Int32.ofInt r1) :: st)
  | .ldc_w _ => some (L, .int (Int32.ofInt r1) :: st)
  | .ldc2_w _ => if r2 = 0 then some (L, .long (Int64.ofInt r1) :: st) else some (L, .double (UInt64.ofNat r1.toNat) :: st)
  | .dup => P_dup L st
  | .dup_x1 => P_dupx1 L st
  | .dup_x2 => P_dupx2 L st
  | .dup2 => P_dup2 L st
  | .pop => P_pop L st
  | .iadd => P_ii (fun x y => x + y) L st
  | .isub => P_ii (fun x y => x - y) L st
  | .imul => P_ii (fun x y => x * y) L st
  | .iand => P_ii (fun x y => x &&& y) L st
  | .ior => P_ii (fun x y => x ||| y) L st
  | .ishr => P_ii (fun x y => x >>> (y &&& 31)) L st
  | .idiv => P_id (fun x y => x / y) L st
  | .irem => P_id (fun x y => x - x / y * y) L st
  | .ladd => P_ll (fun x y => x + y) L st
  | .lmul => P_ll (fun x y => x * y) L st
  | .ldiv => P_ld (fun x y => x / y) L st
  | .lcmp => P_lcmp L st
  | .dcmp op => P_dcmp op L st
  | .ddiv => P_dd FP.ddiv L st
  | .dmul => P_dd FP.dmul L st
  | .dadd => P_dd FP.dadd L st
  | .ineg => P_u P_ineg L st
  | .i2l => P_u P_i2l L st
  | .i2d => P_u P_i2d L st
  | .d2i => P_u P_d2i L st
  | _ => none
def P_cc (c : ClassFile.Cond) (x y : Int32) : Bool := match c with
  | .eq => decide (x = y)
  | .ne => decide (¬ x = y)
  | .lt => decide (x < y)
  | .ge => decide (y ≤ x)
  | .gt => decide (y < x)
  | .le => decide (x ≤ y)
/-- whether it jumps -/
def P_br (i : Instr) (st : List Value) : Option (Bool × List Value) := match i with
  | .goto _ => some (true, st)
  | .ifCond c _ => match st with
    | .int x :: r => some (P_cc c x 0, r)
    | _ => none
  | .if_icmp c _ => match st with
    | .int y :: .int x :: r => some (P_cc c x y, r)
    | _ => none
  | .ifnull _ => match st with
    | .ref _ :: r => some (false, r)
    | .null :: r => some (true, r)
    | _ => none
  | .ifnonnull _ => match st with
    | .ref _ :: r => some (true, r)
    | .null :: r => some (false, r)
    | _ => none
  | _ => none
/-- a switch's target -/
def P_sw (i : Instr) (pc : Nat) (st : List Value) : Option (Nat × List Value) := match i with
  | .tableswitch dflt lo hi offs => match st with
    | .int x :: r => if x.toInt < lo ∨ hi < x.toInt then some (((pc : Int) + dflt).toNat, r) else match offs[(x.toInt - lo).toNat]? with
      | some off => some (((pc : Int) + off).toNat, r)
      | none => none
    | _ => none
  | _ => none
/-- an index of a row of n -/
def P_ix (i : Int32) (n : Nat) : Option Nat := if i < 0 ∨ n ≤ i.toNatClampNeg then none else some i.toNatClampNeg
def P_set (h : P_H) (a : Nat) (e : P_E) : P_H := (h.1.set a e, h.2)
def P_add (h : P_H) (e : P_E) (n : Nat) : P_H := (h.1 ++ [e], h.2.1 + 1, h.2.2 + n)
/-- a row of nothing, by its type's number: 0 int, 1 long, 2 double, 3 boolean, from 4 on references -/
def P_row (k n : Nat) : P_E := .inl (k, n, match k with
  | 0 => .inl (fun _ => 0)
  | 1 => .inr (.inl (fun _ => 0))
  | 2 => .inr (.inr (.inr (.inl (fun _ => 0))))
  | 3 => .inl (fun _ => 0)
  | _ => .inr (.inr (.inr (.inr (fun _ => none)))))
def P_new (h : P_H) (k : Nat) (n : Int32) (st : List Value) : Option (List Value × P_H) :=
  if n < 0 ∨ 65536 < n.toNatClampNeg then none else some (.ref h.1.length :: st, P_add h (P_row k n.toNatClampNeg) n.toNatClampNeg)
/-- what fields an object has at first, by its number; which kinds of object a place of a field's name may meet; the fields' types -/
abbrev P_Z : Type := (Nat → List Value) × (Nat → Nat → Bool) × (Nat → Nat → FieldType)
/-- a type that holds what is put as it is -/
def P_fits (t : FieldType) (v : Value) : Bool := match t with
  | .byte => false
  | .char => false
  | .short => false
  | .float => false
  | t => fits t v
/-- how many words a stack is -/
def P_cs : List Value → Nat
  | [] => 0
  | .long _ :: r => P_cs r + 2
  | .double _ :: r => P_cs r + 2
  | _ :: r => P_cs r + 1
/-- the type's number of a row of rows of a kind: 200 rows of ints, 201 rows of those -/
def P_up (k : Nat) : Nat := if k = 0 then 200 else if k = 200 then 201 else 0
/-- n references from sp on are rows of the kind that ty holds (or nothing) -/
def P_elk (nro : Nat) (h : List P_E) (ty : Nat) (f : Nat → Option Nat) (sp n : Nat) : Bool := (List.range n).all fun i => match f (sp + i) with
  | none => true
  | some y => decide (nro ≤ y) && match h[y]? with
    | some (.inl (k, _, _)) => decide (P_up k = ty)
    | _ => false
/-- n numbers, or references, of one row laid into another: their types' number, the places -/
def P_cpy (nro : Nat) (h : List P_E) (t0 : Nat) (f0 f1 : (Nat → Int32) ⊕ (Nat → Int64) ⊕ (Nat → UInt32) ⊕ (Nat → UInt64) ⊕ (Nat → Option Nat)) (sp dp n : Nat) : Option ((Nat → Int32) ⊕ (Nat → Int64) ⊕ (Nat → UInt32) ⊕ (Nat → UInt64) ⊕ (Nat → Option Nat)) := match f0, f1 with
  | .inl f, .inl g => if t0 = 0 then some (.inl (va_cpy f g sp dp n)) else none
  | .inr (.inr (.inr (.inr f))), .inr (.inr (.inr (.inr g))) => if (t0 = 200 ∨ t0 = 201) ∧ P_elk nro h t0 f sp n = true then some (.inr (.inr (.inr (.inr (va_cpy f g sp dp n))))) else none
  | _, _ => none
/-- rows of empty rows, as they are made -/
def P_mna (h : P_H) (n : Nat) : P_H := (h.1 ++ .inl (201, n, .inr (.inr (.inr (.inr (fun j => if j < n then some (h.1.length + 1 + j) else none))))) :: List.replicate n (.inl (200, 0, .inr (.inr (.inr (.inr (fun _ => none)))))), h.2.1 + 1 + n, h.2.2 + n)
/-- what reads and writes cells; nro: the cells below it are never written -/
def P_hp (Z : P_Z) (nro : Nat) (i : Instr) (r1 : Int) (r2 : Nat) (st : List Value) (h : P_H) : Option (List Value × P_H) := match i with
  | .getfield _ => match st with
    | .ref a :: r => match h.1[a]? with
      | some (.inr (ci, fs)) => if nro ≤ a ∧ Z.2.1 r1.toNat ci = true then match fs[r2]? with
        | some v => some (v :: r, h)
        | none => none
        else none
      | _ => none
    | _ => none
  | .putfield _ => match st with
    | v :: .ref a :: r => match h.1[a]? with
      | some (.inr (ci, fs)) => if nro ≤ a ∧ Z.2.1 r1.toNat ci = true ∧ P_fits (Z.2.2 ci r2) v = true ∧ r2 < fs.length then some (r, P_set h a (.inr (ci, fs.set r2 v))) else none
      | _ => none
    | _ => none
  | .iaload => match st with
    | .int j :: .ref a :: r => match h.1[a]? with
      | some (.inl (0, n, .inl f)) => (P_ix j n).bind fun k => some (.int (f k) :: r, h)
      | _ => none
    | _ => none
  | .iastore => match st with
    | .int x :: .int j :: .ref a :: r => match h.1[a]? with
      | some (.inl (0, n, .inl f)) => if nro ≤ a then (P_ix j n).bind fun k => some (r, P_set h a (.inl (0, n, .inl (upd f k x)))) else none
      | _ => none
    | _ => none
  | .baload => match st with
    | .int j :: .ref a :: r => match h.1[a]? with
      | some (.inl (3, n, .inl f)) => if nro ≤ a then (P_ix j n).bind fun k => some (.int (f k) :: r, h) else none
      | _ => none
    | _ => none
  | .bastore => match st with
    | .int x :: .int j :: .ref a :: r => match h.1[a]? with
      | some (.inl (3, n, .inl f)) => if nro ≤ a then (P_ix j n).bind fun k => some (r, P_set h a (.inl (3, n, .inl (upd f k (vp_nar .boolean x))))) else none
      | _ => none
    | _ => none
  | .laload => match st with
    | .int j :: .ref a :: r => match h.1[a]? with
      | some (.inl (1, n, .inr (.inl f))) => if nro ≤ a then (P_ix j n).bind fun k => some (.long (f k) :: r, h) else none
      | _ => none
    | _ => none
  | .lastore => match st with
    | .long x :: .int j :: .ref a :: r => match h.1[a]? with
      | some (.inl (1, n, .inr (.inl f))) => if nro ≤ a then (P_ix j n).bind fun k => some (r, P_set h a (.inl (1, n, .inr (.inl (vp_updL f k x))))) else none
      | _ => none
    | _ => none
  | .daload => match st with
    | .int j :: .ref a :: r => match h.1[a]? with
      | some (.inl (2, n, .inr (.inr (.inr (.inl f))))) => if nro ≤ a then (P_ix j n).bind fun k => some (.double (f k) :: r, h) else none
      | _ => none
    | _ => none
  | .dastore => match st with
    | .double x :: .int j :: .ref a :: r => match h.1[a]? with
      | some (.inl (2, n, .inr (.inr (.inr (.inl f))))) => if nro ≤ a then (P_ix j n).bind fun k => some (r, P_set h a (.inl (2, n, .inr (.inr (.inr (.inl (vf_upd f k x))))))) else none
      | _ => none
    | _ => none
  | .aaload => match st with
    | .int j :: .ref a :: r => match h.1[a]? with
      | some (.inl (ty, n, .inr (.inr (.inr (.inr f))))) => if nro ≤ a ∧ 4 ≤ ty then (P_ix j n).bind fun k => some (va_rf (f k) :: r, h) else none
      | _ => none
    | _ => none
  | .aastore => match st with
    | .ref x :: .int j :: .ref a :: r => match h.1[a]? with
      | some (.inl (ty, n, .inr (.inr (.inr (.inr f))))) => match h.1[x]? with
        | some (.inr (ci, _)) => if nro ≤ a ∧ nro ≤ x ∧ ty = 100 + ci then (P_ix j n).bind fun k => some (r, P_set h a (.inl (ty, n, .inr (.inr (.inr (.inr (va_up f k (some x)))))))) else none
        | some (.inl (tx, _, _)) => if nro ≤ a ∧ nro ≤ x ∧ P_up tx = ty ∧ 200 ≤ ty ∧ r2 = 1 then (P_ix j n).bind fun k => some (r, P_set h a (.inl (ty, n, .inr (.inr (.inr (.inr (va_up f k (some x)))))))) else none
        | _ => none
      | _ => none
    | _ => none
  | .arraylength => match st with
    | .ref a :: r => match h.1[a]? with
      | some (.inl (ty, n, f)) => if nro ≤ a ∨ ty = 0 then some (.int (Int32.ofNat n) :: r, h) else none
      | _ => none
    | _ => none
  | .newarray _ => match st with
    | .int n :: r => if r2 < 4 then P_new h r2 n r else none
    | _ => none
  | .anewarray _ => match st with
    | .int n :: r => if 100 ≤ r2 then P_new h r2 n r else none
    | _ => none
  | .new _ => if r2 < 1000 then some (.ref h.1.length :: st, P_add h (.inr (r2, Z.1 r2)) (Z.1 r2).length) else none
  | .getstatic _ => some (.ref r2 :: st, h)
  | .multianewarray _ _ => if r2 = 201 then match st with
    | .int k :: .int n :: r => if k = 0 ∧ ¬ (n < 0 ∨ 65536 < n.toNatClampNeg) then some (.ref h.1.length :: r, P_mna h n.toNatClampNeg) else none
    | _ => none
    else none
  | .invokestatic _ => if r2 = 9003 then match st with
    | .int n :: .int dp :: .ref a :: .int sp :: .ref b :: r => match h.1[b]? with
      | some (.inl (t0, n0, f0)) => match h.1[a]? with
        | some (.inl (t1, n1, f1)) => if nro ≤ a ∧ nro ≤ b ∧ t0 = t1 ∧ P_cs r ≤ 8 ∧ ¬ sp < 0 ∧ ¬ dp < 0 ∧ ¬ n < 0 ∧ sp.toNatClampNeg + n.toNatClampNeg ≤ n0 ∧ dp.toNatClampNeg + n.toNatClampNeg ≤ n1 then (P_cpy nro h.1 t0 f0 f1 sp.toNatClampNeg dp.toNatClampNeg n.toNatClampNeg).bind fun fg => some (r, P_set h a (.inl (t1, n1, fg))) else none
        | _ => none
      | _ => none
    | _ => none
    else none
  | _ => none
def P_args : List Value → List Value
  | [] => []
  | .long x :: as => .long x :: P_un :: P_args as
  | .double x :: as => .double x :: P_un :: P_args as
  | v :: as => v :: P_args as
def P_fit : Nat → List Value → List Value
  | 0, _ => []
  | n + 1, [] => P_un :: P_fit n []
  | n + 1, v :: vs => v :: P_fit n vs
/-- which method a call calls, and its arguments; the rest of the stack. r1: how many arguments without the receiver -/
def P_inv (V : Nat → Nat → Option Nat) (i : Instr) (r1 : Int) (r2 : Nat) (st : List Value) (h : P_H) : Option (Nat × List Value × List Value) := match i with
  | .invokestatic _ => if r1.toNat ≤ st.length ∧ r2 < 9000 then some (r2, (st.take r1.toNat).reverse, st.drop r1.toNat) else none
  | .invokespecial _ => if r2 < 9000 then match st.drop r1.toNat with
    | .ref a :: r => some (r2, .ref a :: (st.take r1.toNat).reverse, r)
    | _ => none
    else none
  | .invokevirtual _ => match st.drop r1.toNat with
    | .ref a :: r => match h.1[a]? with
      | some (.inr (ci, _)) => match V r2 ci with
        | some y => some (y, .ref a :: (st.take r1.toNat).reverse, r)
        | none => none
      | _ => none
    | _ => none
  | _ => none
/-- calls of what the tables hold no code of here: 9000 Object's constructor, 9001 max, 9002 min of two ints -/
def P_jdk (i : Instr) (r2 : Nat) (st : List Value) : Option (List Value) := match i with
  | .invokespecial _ => if r2 = 9000 then match st with
    | .ref _ :: r => if P_cs r ≤ 8 then some r else none
    | _ => none
    else none
  | .invokestatic _ => match st with
    | .int y :: .int x :: r => if P_cs r ≤ 8 then (if r2 = 9001 then some (.int (if x < y then y else x) :: r) else if r2 = 9002 then some (.int (if y < x then y else x) :: r) else none) else none
    | _ => none
  | _ => none
def P_ret (rt : Option FieldType) (i : Instr) (st : List Value) : Option (Option Value) := match i, rt with
  | .return_, none => match st with
    | [] => some none
    | _ => none
  | .ireturn, some t => match st with
    | [.int x] => if P_fits t (.int x) = true then some (some (.int x)) else none
    | _ => none
  | .lreturn, some .long => match st with
    | [.long x] => some (some (.long x))
    | _ => none
  | .dreturn, some .double => match st with
    | [.double x] => some (some (.double x))
    | _ => none
  | .areturn, some t => match st with
    | [.ref x] => if P_fits t (.ref x) = true then some (some (.ref x)) else none
    | [.null] => if P_fits t .null = true then some (some .null) else none
    | _ => none
  | _, _ => none
/-- new of what is thrown, up to its throw: its number -/
def P_thr (i : Instr) (r2 : Nat) (st : List Value) : Option Nat := match i with
  | .new _ => if 1000 ≤ r2 ∧ r2 < 1003 ∧ st.isEmpty = true then some (r2 - 1000) else none
  | _ => none
def P_find (E pc : Nat) : List (Nat × Nat × Nat × Nat × Nat) → Option (Nat × Nat)
  | [] => none
  | (f, t, x, p, k) :: hs => if f ≤ pc ∧ pc < t ∧ x = E then some (p, k) else P_find E pc hs
abbrev P_Y : Type := P_Z × Nat × P_G
/-- one instruction of a method; ex: what a call comes to -/
def P_do (Y : P_Y) (ex : Nat → Nat → List Value → P_H → Option (P_R × P_H)) (d : Nat) (rt : Option FieldType) (hs : List (Nat × Nat × Nat × Nat × Nat)) (pc : Nat) (L st : List Value) (h : P_H) (i : Instr) (nx : Nat) (r1 : Int) (r2 : Nat) (kN kT : List Nat) : Option (P_S ⊕ (P_R × P_H)) :=
  match P_op i r1 r2 L st with
  | some (L', st') => some (.inl (nx, P_kill L' kN, st', h))
  | none => match P_br i st with
    | some (true, st') => some (.inl (r2, P_kill L kT, st', h))
    | some (false, st') => some (.inl (nx, P_kill L kN, st', h))
    | none => match P_hp Y.1 Y.2.1 i r1 r2 st h with
      | some (st', h') => some (.inl (nx, P_kill L kN, st', h'))
      | none => match P_ret rt i st with
        | some v => some (.inr (.inl v, h))
        | none => match P_jdk i r2 st with
          | some st' => some (.inl (nx, P_kill L kN, st', h))
          | none => match P_sw i pc st with
            | some (t, st') => some (.inl (t, L, st', h))
            | none => match P_thr i r2 st with
              | some E => some (.inr (.inr E, (h.1, h.2.1 + 1, h.2.2 + 6)))
              | none => match P_inv Y.2.2.2 i r1 r2 st h with
                | some (y, as, r) => if 8 < P_cs r then none else match d with
                  | 0 => none
                  | d' + 1 => match ex d' y as h with
                    | some (.inl v, h') => some (.inl (nx, P_kill L kN, v.toList ++ r, h'))
                    | some (.inr E, h') => match P_find E pc hs with
                      | some (p, k) => if k < L.length then some (.inl (p, P_st1 L k P_un, [], h')) else none
                      | none => some (.inr (.inr E, h'))
                    | none => none
                | none => none
/-- a method from a place on, by fuel; d: how deep calls may still go; nothing calls 0, the law -/
def P_ex (Y : P_Y) : Nat → Nat → Nat → P_S → Option (P_R × P_H)
  | 0, _, _, _ => none
  | n + 1, d, y, (pc, L, st, h) => match Y.2.2.1 y with
    | none => none
    | some (_, rt, cd, hs) => match cd pc with
      | none => none
      | some (i, nx, r1, r2, kN, kT) => match P_do Y (fun d' y' as h' => if y' = 0 then none else match Y.2.2.1 y' with
          | none => none
          | some (mx', _) => if (P_args as).length ≤ mx' then P_ex Y n d' y' (0, P_fit mx' (P_args as), [], h') else none) d rt hs pc L st h i nx r1 r2 kN kT with
        | some (.inl s) => P_ex Y n d y s
        | some (.inr r) => some r
        | none => none
