section
/-! THE PURE MACHINE: the code of the claim's methods, run over plain lists; what the machine does is tied to it once (part 02) -/
/-- a cell: an array (its type's number, its length, what it holds) or an object (its class's number, its fields in the tables' order) -/
abbrev P_E : Type := (Nat × vp_A) ⊕ (Nat × List Value)
/-- cells by their numbers; how many cells and slots were made so far -/
abbrev P_H : Type := List P_E × Nat × Nat
/-- an instruction, the pc behind it, two numbers of its own, the locals that are dropped behind it and at its target -/
abbrev P_I : Type := Instr × Nat × Int × Nat × List Nat × List Nat
/-- a method: how many locals; what it returns; its code; its handlers: from, to, the thrown one's number, the pc behind the handler's store, the local that is stored -/
abbrev P_M : Type := Nat × Option FieldType × (Nat → Option P_I) × List (Nat × Nat × Nat × Nat × Nat)
/-- what a call comes to: a value or nothing; or the number of what it throws -/
abbrev P_R : Type := Option Value ⊕ Nat
/-- methods by number; what a call site chooses for a class -/
abbrev P_G : Type := (Nat → Option P_M) × (Nat → Nat → Option Nat)
/-- a place inside a method: pc, locals, stack, heap -/
abbrev P_S : Type := Nat × List Value × List Value × P_H
/-- a local that nothing is known of -/
abbrev P_un : Value := .retAddr 0
def P_pre (L : List Value) (i : Nat) : List Value := match i with
  | 0 => L
  | j + 1 => match L[j]? with
    | some (.long _) => L.set j P_un
    | some (.double _) => L.set j P_un
    | _ => L
def P_st1 (L : List Value) (i : Nat) (v : Value) : List Value := (P_pre L i).set i v
def P_st2 (L : List Value) (i : Nat) (v : Value) : List Value := ((P_pre L i).set i v).set (i + 1) P_un
def P_kill (L : List Value) : List Nat → List Value
  | [] => L
  | k :: ks => P_kill (L.set k P_un) ks
def P_ldi (L : List Value) (k : Nat) (st : List Value) : Option (List Value × List Value) := match L[k]? with
  | some (.int x) => some (L, .int x :: st)
  | _ => none
def P_ldl (L : List Value) (k : Nat) (st : List Value) : Option (List Value × List Value) := match L[k]? with
  | some (.long x) => some (L, .long x :: st)
  | _ => none
def P_ldd (L : List Value) (k : Nat) (st : List Value) : Option (List Value × List Value) := match L[k]? with
  | some (.double x) => some (L, .double x :: st)
  | _ => none
def P_lda (L : List Value) (k : Nat) (st : List Value) : Option (List Value × List Value) := match L[k]? with
  | some (.ref x) => some (L, .ref x :: st)
  | some .null => some (L, .null :: st)
  | _ => none
def P_sti (L : List Value) (k : Nat) (st : List Value) : Option (List Value × List Value) := match st with
  | .int x :: r => if k < L.length then some (P_st1 L k (.int x), r) else none
  | _ => none
def P_sta (L : List Value) (k : Nat) (st : List Value) : Option (List Value × List Value) := match st with
  | .ref x :: r => if k < L.length then some (P_st1 L k (.ref x), r) else none
  | .null :: r => if k < L.length then some (P_st1 L k .null, r) else none
  | _ => none
def P_stl (L : List Value) (k : Nat) (st : List Value) : Option (List Value × List Value) := match st with
  | .long x :: r => if k + 1 < L.length then some (P_st2 L k (.long x), r) else none
  | _ => none
def P_std (L : List Value) (k : Nat) (st : List Value) : Option (List Value × List Value) := match st with
  | .double x :: r => if k + 1 < L.length then some (P_st2 L k (.double x), r) else none
  | _ => none
def P_ii (f : Int32 → Int32 → Int32) (L st : List Value) : Option (List Value × List Value) := match st with
  | .int y :: .int x :: r => some (L, .int (f x y) :: r)
  | _ => none
def P_ll (f : Int64 → Int64 → Int64) (L st : List Value) : Option (List Value × List Value) := match st with
  | .long y :: .long x :: r => some (L, .long (f x y) :: r)
  | _ => none
/-- division and remainder: not by 0 -/
def P_id (f : Int32 → Int32 → Int32) (L st : List Value) : Option (List Value × List Value) := match st with
  | .int y :: .int x :: r => if y = 0 then none else some (L, .int (f x y) :: r)
  | _ => none
def P_ld (f : Int64 → Int64 → Int64) (L st : List Value) : Option (List Value × List Value) := match st with
  | .long y :: .long x :: r => if y = 0 then none else some (L, .long (f x y) :: r)
  | _ => none
/-- on doubles: not to a NaN -/
def P_dd (f : UInt64 → UInt64 → UInt64) (L st : List Value) : Option (List Value × List Value) := match st with
  | .double y :: .double x :: r => if f x y &&& 0x7fffffffffffffff ≤ 0x7ff0000000000000 then some (L, .double (f x y) :: r) else none
  | _ => none
def P_c1 (v : Value) : Bool := match v with
  | .long _ => false
  | .double _ => false
  | _ => true
def P_dup (L st : List Value) : Option (List Value × List Value) := match st with
  | a :: r => if P_c1 a = true then some (L, a :: a :: r) else none
  | _ => none
def P_pop (L st : List Value) : Option (List Value × List Value) := match st with
  | a :: r => if P_c1 a = true then some (L, r) else none
  | _ => none
def P_dupx1 (L st : List Value) : Option (List Value × List Value) := match st with
  | a :: b :: r => if P_c1 a = true then if P_c1 b = true then some (L, a :: b :: a :: r) else none else none
  | _ => none
def P_dupx2 (L st : List Value) : Option (List Value × List Value) := match st with
  | a :: b :: d :: r => if P_c1 a = true then if P_c1 b = true then if P_c1 d = true then some (L, a :: b :: d :: a :: r) else none else none else none
  | _ => none
def P_dup2 (L st : List Value) : Option (List Value × List Value) := match st with
  | a :: b :: r => if P_c1 a = true then if P_c1 b = true then some (L, a :: b :: a :: b :: r) else none else none
  | _ => none
def P_u (f : Value → Option Value) (L st : List Value) : Option (List Value × List Value) := match st with
  | a :: r => match f a with
    | some b => some (L, b :: r)
    | none => none
  | _ => none
def P_lcmp (L st : List Value) : Option (List Value × List Value) := match st with
  | .long y :: .long x :: r => some (L, .int (lg_cmp x y) :: r)
  | _ => none
def P_dcmp (op : CmpOp) (L st : List Value) : Option (List Value × List Value) := match st with
  | .double y :: .double x :: r => some (L, .int (Op.cmpValue (FP.dcmp x y) op) :: r)
  | _ => none
def P_ineg (v : Value) : Option Value := match v with
  | .int x => some (.int (-x))
  | _ => none
def P_i2l (v : Value) : Option Value := match v with
  | .int x => some (.long x.toInt64)
  | _ => none
def P_i2d (v : Value) : Option Value := match v with
  | .int x => some (.double (FP.i2d x))
  | _ => none
def P_d2i (v : Value) : Option Value := match v with
  | .double x => some (.int (FP.d2i x))
  | _ => none
def P_iinc (L : List Value) (k : Nat) (n : Int) (st : List Value) : Option (List Value × List Value) := match L[k]? with
  | some (.int x) => some (P_st1 L k (.int (x + Int32.ofInt n)), st)
  | _ => none
/-- what moves between locals and stack alone -/
def P_op (i : Instr) (r1 : Int) (r2 : Nat) (L st : List Value) : Option (List Value × List Value) := match i with
  | .aconst_null => some (L, .null :: st)
  | .aload k => P_lda L k st
  | .aload_n k => P_lda L k.val st
  | .iload k => P_ldi L k st
  | .iload_n k => P_ldi L k.val st
  | .lload k => P_ldl L k st
  | .lload_n k => P_ldl L k.val st
  | .dload k => P_ldd L k st
  | .dload_n k => P_ldd L k.val st
  | .astore k => P_sta L k st
  | .astore_n k => P_sta L k.val st
  | .istore k => P_sti L k st
  | .istore_n k => P_sti L k.val st
  | .lstore k => P_stl L k st
  | .lstore_n k => P_stl L k.val st
  | .dstore k => P_std L k st
  | .dstore_n k => P_std L k.val st
  | .iinc k n => P_iinc L k n st
  | .iconst n => some (L, .int (Int32.ofInt n) :: st)
  | .bipush n => some (L, .int (Int8.ofInt n).toInt32 :: st)
  | .sipush n => some (L, .int (Int16.ofInt n).toInt32 :: st)
  | .lconst n => some (L, .long (Int64.ofNat n.val) :: st)
  | .dconst n => if n.val = 0 then some (L, .double (0 : UInt64) :: st) else none
  | .ldc _ => some (L, .int (Int32.ofInt r1) :: st)
  | .ldc_w _ => some (L, .int (Int32.ofInt r1) :: st)
  | .ldc2_w _ => if r2 = 0 then some (L, .long (Int64.ofInt r1) :: st) else some (L, .double (UInt64.ofNat r1.toNat) :: st)
  | .dup => P_dup L st
  | .dup_x1 => P_dupx1 L st
  | .dup_x2 => P_dupx2 L st
  | .dup2 => P_dup2 L st
  | .pop => P_pop L st
  | .iadd => P_ii (fun x y => x + y) L st
  | .isub => P_ii (fun x y => x - y) L st
  | .imul => P_ii (fun x y => x * y) L st
  | .iand => P_ii (fun x y => x &&& y) L st
  | .ior => P_ii (fun x y => x ||| y) L st
  | .ishr => P_ii (fun x y => x >>> (y &&& 31)) L st
  | .idiv => P_id (fun x y => x / y) L st
  | .irem => P_id (fun x y => x - x / y * y) L st
  | .ladd => P_ll (fun x y => x + y) L st
  | .lmul => P_ll (fun x y => x * y) L st
  | .ldiv => P_ld (fun x y => x / y) L st
  | .lcmp => P_lcmp L st
  | .dcmp op => P_dcmp op L st
  | .ddiv => P_dd FP.ddiv L st
  | .dmul => P_dd FP.dmul L st
  | .dadd => P_dd FP.dadd L st
  | .ineg => P_u P_ineg L st
  | .i2l => P_u P_i2l L st
  | .i2d => P_u P_i2d L st
  | .d2i => P_u P_d2i L st
  | _ => none
def P_cc (c : ClassFile.Cond) (x y : Int32) : Bool := match c with
  | .eq => decide (x = y)
  | .ne => decide (¬ x = y)
  | .lt => decide (x < y)
  | .ge => decide (y ≤ x)
  | .gt => decide (y < x)
  | .le => decide (x ≤ y)
/-- whether it jumps -/
def P_br (i : Instr) (st : List Value) : Option (Bool × List Value) := match i with
  | .goto _ => some (true, st)
  | .ifCond c _ => match st with
    | .int x :: r => some (P_cc c x 0, r)
    | _ => none
  | .if_icmp c _ => match st with
    | .int y :: .int x :: r => some (P_cc c x y, r)
    | _ => none
  | .ifnull _ => match st with
    | .ref _ :: r => some (false, r)
    | .null :: r => some (true, r)
    | _ => none
  | .ifnonnull _ => match st with
    | .ref _ :: r => some (true, r)
    | .null :: r => some (false, r)
    | _ => none
  | _ => none
/-- a switch's target -/
def P_sw (i : Instr) (pc : Nat) (st : List Value) : Option (Nat × List Value) := match i with
  | .tableswitch dflt lo hi offs => match st with
    | .int x :: r => if x.toInt < lo ∨ hi < x.toInt then some (((pc : Int) + dflt).toNat, r) else match offs[(x.toInt - lo).toNat]? with
      | some off => some (((pc : Int) + off).toNat, r)
      | none => none
    | _ => none
  | _ => none
/-- an index of a row of n -/
def P_ix (i : Int32) (n : Nat) : Option Nat := if i < 0 ∨ n ≤ i.toNatClampNeg then none else some i.toNatClampNeg
def P_set (h : P_H) (a : Nat) (e : P_E) : P_H := (h.1.set a e, h.2)
def P_add (h : P_H) (e : P_E) (n : Nat) : P_H := (h.1 ++ [e], h.2.1 + 1, h.2.2 + n)
/-- a row of nothing, by its type's number: 0 int, 1 long, 2 double, 3 boolean, from 4 on references -/
def P_row (k n : Nat) : P_E := .inl (k, n, match k with
  | 0 => .inl (fun _ => 0)
  | 1 => .inr (.inl (fun _ => 0))
  | 2 => .inr (.inr (.inr (.inl (fun _ => 0))))
  | 3 => .inl (fun _ => 0)
  | _ => .inr (.inr (.inr (.inr (fun _ => none)))))
def P_new (h : P_H) (k : Nat) (n : Int32) (st : List Value) : Option (List Value × P_H) :=
  if n < 0 ∨ 65536 < n.toNatClampNeg then none else some (.ref h.1.length :: st, P_add h (P_row k n.toNatClampNeg) n.toNatClampNeg)
/-- what fields an object has at first, by its number; which kinds of object a place of a field's name may meet; the fields' types -/
abbrev P_Z : Type := (Nat → List Value) × (Nat → Nat → Bool) × (Nat → Nat → FieldType)
/-- a type that holds what is put as it is -/
def P_fits (t : FieldType) (v : Value) : Bool := match t with
  | .byte => false
  | .char => false
  | .short => false
  | .float => false
  | t => fits t v
/-- what reads and writes cells; nro: the cells below it are never written -/
def P_hp (Z : P_Z) (nro : Nat) (i : Instr) (r1 : Int) (r2 : Nat) (st : List Value) (h : P_H) : Option (List Value × P_H) := match i with
  | .getfield _ => match st with
    | .ref a :: r => match h.1[a]? with
      | some (.inr (ci, fs)) => if nro ≤ a ∧ Z.2.1 r1.toNat ci = true then match fs[r2]? with
        | some v => some (v :: r, h)
        | none => none
        else none
      | _ => none
    | _ => none
  | .putfield _ => match st with
    | v :: .ref a :: r => match h.1[a]? with
      | some (.inr (ci, fs)) => if nro ≤ a ∧ Z.2.1 r1.toNat ci = true ∧ P_fits (Z.2.2 ci r2) v = true ∧ r2 < fs.length then some (r, P_set h a (.inr (ci, fs.set r2 v))) else none
      | _ => none
    | _ => none
  | .iaload => match st with
    | .int j :: .ref a :: r => match h.1[a]? with
      | some (.inl (0, n, .inl f)) => (P_ix j n).bind fun k => some (.int (f k) :: r, h)
      | _ => none
    | _ => none
  | .iastore => match st with
    | .int x :: .int j :: .ref a :: r => match h.1[a]? with
      | some (.inl (0, n, .inl f)) => if nro ≤ a then (P_ix j n).bind fun k => some (r, P_set h a (.inl (0, n, .inl (upd f k x)))) else none
      | _ => none
    | _ => none
  | .baload => match st with
    | .int j :: .ref a :: r => match h.1[a]? with
      | some (.inl (3, n, .inl f)) => if nro ≤ a then (P_ix j n).bind fun k => some (.int (f k) :: r, h) else none
      | _ => none
    | _ => none
  | .bastore => match st with
    | .int x :: .int j :: .ref a :: r => match h.1[a]? with
      | some (.inl (3, n, .inl f)) => if nro ≤ a then (P_ix j n).bind fun k => some (r, P_set h a (.inl (3, n, .inl (upd f k (vp_nar .boolean x))))) else none
      | _ => none
    | _ => none
  | .laload => match st with
    | .int j :: .ref a :: r => match h.1[a]? with
      | some (.inl (1, n, .inr (.inl f))) => if nro ≤ a then (P_ix j n).bind fun k => some (.long (f k) :: r, h) else none
      | _ => none
    | _ => none
  | .lastore => match st with
    | .long x :: .int j :: .ref a :: r => match h.1[a]? with
      | some (.inl (1, n, .inr (.inl f))) => if nro ≤ a then (P_ix j n).bind fun k => some (r, P_set h a (.inl (1, n, .inr (.inl (vp_updL f k x))))) else none
      | _ => none
    | _ => none
  | .daload => match st with
    | .int j :: .ref a :: r => match h.1[a]? with
      | some (.inl (2, n, .inr (.inr (.inr (.inl f))))) => if nro ≤ a then (P_ix j n).bind fun k => some (.double (f k) :: r, h) else none
      | _ => none
    | _ => none
  | .dastore => match st with
    | .double x :: .int j :: .ref a :: r => match h.1[a]? with
      | some (.inl (2, n, .inr (.inr (.inr (.inl f))))) => if nro ≤ a then (P_ix j n).bind fun k => some (r, P_set h a (.inl (2, n, .inr (.inr (.inr (.inl (vf_upd f k x))))))) else none
      | _ => none
    | _ => none
  | .aaload => match st with
    | .int j :: .ref a :: r => match h.1[a]? with
      | some (.inl (ty, n, .inr (.inr (.inr (.inr f))))) => if nro ≤ a ∧ 4 ≤ ty then (P_ix j n).bind fun k => some (va_rf (f k) :: r, h) else none
      | _ => none
    | _ => none
  | .aastore => match st with
    | .ref x :: .int j :: .ref a :: r => match h.1[a]? with
      | some (.inl (ty, n, .inr (.inr (.inr (.inr f))))) => match h.1[x]? with
        | some (.inr (ci, _)) => if nro ≤ a ∧ nro ≤ x ∧ ty = 100 + ci then (P_ix j n).bind fun k => some (r, P_set h a (.inl (ty, n, .inr (.inr (.inr (.inr (va_up f k (some x)))))))) else none
        | _ => none
      | _ => none
    | _ => none
  | .arraylength => match st with
    | .ref a :: r => match h.1[a]? with
      | some (.inl (ty, n, f)) => if nro ≤ a ∨ ty = 0 then some (.int (Int32.ofNat n) :: r, h) else none
      | _ => none
    | _ => none
  | .newarray _ => match st with
    | .int n :: r => if r2 < 4 then P_new h r2 n r else none
    | _ => none
  | .anewarray _ => match st with
    | .int n :: r => if 100 ≤ r2 then P_new h r2 n r else none
    | _ => none
  | .new _ => if r2 < 1000 then some (.ref h.1.length :: st, P_add h (.inr (r2, Z.1 r2)) (Z.1 r2).length) else none
  | .getstatic _ => some (.ref r2 :: st, h)
  | _ => none
/-- how many words a stack is -/
def P_cs : List Value → Nat
  | [] => 0
  | .long _ :: r => P_cs r + 2
  | .double _ :: r => P_cs r + 2
  | _ :: r => P_cs r + 1
def P_args : List Value → List Value
  | [] => []
  | .long x :: as => .long x :: P_un :: P_args as
  | .double x :: as => .double x :: P_un :: P_args as
  | v :: as => v :: P_args as
def P_fit : Nat → List Value → List Value
  | 0, _ => []
  | n + 1, [] => P_un :: P_fit n []
  | n + 1, v :: vs => v :: P_fit n vs
/-- which method a call calls, and its arguments; the rest of the stack. r1: how many arguments without the receiver -/
def P_inv (V : Nat → Nat → Option Nat) (i : Instr) (r1 : Int) (r2 : Nat) (st : List Value) (h : P_H) : Option (Nat × List Value × List Value) := match i with
  | .invokestatic _ => if r1.toNat ≤ st.length ∧ r2 < 9000 then some (r2, (st.take r1.toNat).reverse, st.drop r1.toNat) else none
  | .invokespecial _ => if r1.toNat + 1 ≤ st.length ∧ r2 < 9000 then some (r2, (st.take (r1.toNat + 1)).reverse, st.drop (r1.toNat + 1)) else none
  | .invokevirtual _ => match st.drop r1.toNat with
    | .ref a :: r => match h.1[a]? with
      | some (.inr (ci, _)) => match V r2 ci with
        | some y => some (y, (st.take (r1.toNat + 1)).reverse, r)
        | none => none
      | _ => none
    | _ => none
  | _ => none
/-- calls of what the tables hold no code of here: 9000 Object's constructor, 9001 max, 9002 min of two ints -/
def P_jdk (i : Instr) (r2 : Nat) (st : List Value) : Option (List Value) := match i with
  | .invokespecial _ => if r2 = 9000 then match st with
    | .ref _ :: r => if P_cs r ≤ 8 then some r else none
    | _ => none
    else none
  | .invokestatic _ => match st with
    | .int y :: .int x :: r => if P_cs r ≤ 8 then (if r2 = 9001 then some (.int (if x < y then y else x) :: r) else if r2 = 9002 then some (.int (if y < x then y else x) :: r) else none) else none
    | _ => none
  | _ => none
def P_ret (rt : Option FieldType) (i : Instr) (st : List Value) : Option (Option Value) := match i, rt with
  | .return_, none => match st with
    | [] => some none
    | _ => none
  | .ireturn, some t => match st with
    | [.int x] => if P_fits t (.int x) = true then some (some (.int x)) else none
    | _ => none
  | .lreturn, some .long => match st with
    | [.long x] => some (some (.long x))
    | _ => none
  | .dreturn, some .double => match st with
    | [.double x] => some (some (.double x))
    | _ => none
  | .areturn, some t => match st with
    | [.ref x] => if P_fits t (.ref x) = true then some (some (.ref x)) else none
    | [.null] => if P_fits t .null = true then some (some .null) else none
    | _ => none
  | _, _ => none
/-- new of what is thrown, up to its throw: its number -/
def P_thr (i : Instr) (r2 : Nat) (st : List Value) : Option Nat := match i with
  | .new _ => if 1000 ≤ r2 ∧ st.isEmpty = true then some (r2 - 1000) else none
  | _ => none
def P_find (E pc : Nat) : List (Nat × Nat × Nat × Nat × Nat) → Option (Nat × Nat)
  | [] => none
  | (f, t, x, p, k) :: hs => if f ≤ pc ∧ pc < t ∧ x = E then some (p, k) else P_find E pc hs
abbrev P_Y : Type := P_Z × Nat × P_G
/-- one instruction of a method; ex: what a call comes to -/
def P_do (Y : P_Y) (ex : Nat → Nat → List Value → P_H → Option (P_R × P_H)) (d : Nat) (rt : Option FieldType) (hs : List (Nat × Nat × Nat × Nat × Nat)) (pc : Nat) (L st : List Value) (h : P_H) (i : Instr) (nx : Nat) (r1 : Int) (r2 : Nat) (kN kT : List Nat) : Option (P_S ⊕ (P_R × P_H)) :=
  match P_op i r1 r2 L st with
  | some (L', st') => some (.inl (nx, P_kill L' kN, st', h))
  | none => match P_br i st with
    | some (true, st') => some (.inl (r2, P_kill L kT, st', h))
    | some (false, st') => some (.inl (nx, P_kill L kN, st', h))
    | none => match P_hp Y.1 Y.2.1 i r1 r2 st h with
      | some (st', h') => some (.inl (nx, P_kill L kN, st', h'))
      | none => match P_ret rt i st with
        | some v => some (.inr (.inl v, h))
        | none => match P_jdk i r2 st with
          | some st' => some (.inl (nx, P_kill L kN, st', h))
          | none => match P_sw i pc st with
            | some (t, st') => some (.inl (t, L, st', h))
            | none => match P_thr i r2 st with
              | some E => some (.inr (.inr E, (h.1, h.2.1 + 1, h.2.2 + 6)))
              | none => match P_inv Y.2.2.2 i r1 r2 st h with
                | some (y, as, r) => if 8 < P_cs r then none else match d with
                  | 0 => none
                  | d' + 1 => match ex d' y as h with
                    | some (.inl v, h') => some (.inl (nx, P_kill L kN, v.toList ++ r, h'))
                    | some (.inr E, h') => match P_find E pc hs with
                      | some (p, k) => if k < L.length then some (.inl (p, P_st1 L k P_un, [], h')) else none
                      | none => some (.inr (.inr E, h'))
                    | none => none
                | none => none
/-- a method from a place on, by fuel; d: how deep calls may still go -/
def P_ex (Y : P_Y) : Nat → Nat → Nat → P_S → Option (P_R × P_H)
  | 0, _, _, _ => none
  | n + 1, d, y, (pc, L, st, h) => match Y.2.2.1 y with
    | none => none
    | some (_, rt, cd, hs) => match cd pc with
      | none => none
      | some (i, nx, r1, r2, kN, kT) => match P_do Y (fun d' y' as h' => match Y.2.2.1 y' with
          | none => none
          | some (mx', _) => if (P_args as).length ≤ mx' then P_ex Y n d' y' (0, P_fit mx' (P_args as), [], h') else none) d rt hs pc L st h i nx r1 r2 kN kT with
        | some (.inl s) => P_ex Y n d y s
        | some (.inr r) => some r
        | none => none
end
section
/-! THE TIE, 1: values, locals, stacks; what moves between locals and stack alone -/
/-- a pure value and the machine's; rho: where the cells lie -/
def P_v (ρ : List Nat) (v v' : Value) : Prop := match v with
  | .ref i => ∃ q, ρ[i]? = some q ∧ v' = .ref q
  | .retAddr _ => False
  | v => v' = v
def P_vs (ρ : List Nat) : List Value → List Value → Prop
  | [], [] => True
  | v :: vs, w :: ws => P_v ρ v w ∧ P_vs ρ vs ws
  | _, _ => False
def P_sub (ρ ρ' : List Nat) : Prop := ∀ (i q : Nat), ρ[i]? = some q → ρ'[i]? = some q
theorem P_v.mono {ρ ρ' : List Nat} (h : P_sub ρ ρ') {v v' : Value} (hv : P_v ρ v v') : P_v ρ' v v' := by
  cases v <;> simp only [P_v] at hv ⊢ <;> first | exact hv | (obtain ⟨q, h1, h2⟩ := hv; exact ⟨q, h _ _ h1, h2⟩)
theorem P_vs.mono {ρ ρ' : List Nat} (h : P_sub ρ ρ') : ∀ {vs ws : List Value}, P_vs ρ vs ws → P_vs ρ' vs ws
  | [], [], _ => trivial
  | _ :: _, _ :: _, hv => ⟨hv.1.mono h, P_vs.mono h hv.2⟩
  | [], _ :: _, hv => hv.elim
  | _ :: _, [], hv => hv.elim
theorem P_v.cat {ρ : List Nat} {v v' : Value} (hv : P_v ρ v v') : v'.category = v.category := by
  cases v <;> simp only [P_v] at hv <;> first | (subst hv; rfl) | (obtain ⟨q, -, rfl⟩ := hv; rfl) | exact hv.elim
theorem P_v.c1 {ρ : List Nat} {v v' : Value} (hv : P_v ρ v v') (h : P_c1 v = true) : v'.category = 1 := by
  rw [hv.cat]
  cases v <;> first | rfl | (simp [P_c1] at h)
/-- the locals -/
def P_L (ρ : List Nat) (L : List Value) (ls : Array Slot) (n : Nat) : Prop := L.length = n ∧ ∃ l : List (Nat × Value), lv_has ls n l ∧ ∀ (k : Nat) (v : Value), L[k]? = some v → v = P_un ∨ ∃ v', (k, v') ∈ l ∧ P_v ρ v v'
theorem P_L.mono {ρ ρ' : List Nat} (h : P_sub ρ ρ') {L : List Value} {ls : Array Slot} {n : Nat} (hL : P_L ρ L ls n) : P_L ρ' L ls n := by
  obtain ⟨h0, l, h1, h2⟩ := hL
  exact ⟨h0, l, h1, fun k v hk => (h2 k v hk).imp id fun ⟨v', a, b⟩ => ⟨v', a, b.mono h⟩⟩
theorem P_L.at {ρ : List Nat} {L : List Value} {ls : Array Slot} {n k : Nat} {v : Value} (hL : P_L ρ L ls n) (hk : L[k]? = some v) (hv : v ≠ P_un) : ∃ v', ls[k]? = some (.val v') ∧ P_v ρ v v' := by
  obtain ⟨-, l, h1, h2⟩ := hL
  obtain hq | ⟨v', a, b⟩ := h2 k v hk
  · exact absurd hq hv
  · exact ⟨v', h1.2.2 _ a, b⟩
theorem P_L.drop {ρ : List Nat} {L : List Value} {ls : Array Slot} {n : Nat} (hL : P_L ρ L ls n) (i : Nat) : P_L ρ (L.set i P_un) ls n := by
  obtain ⟨h0, l, h1, h2⟩ := hL
  refine ⟨by simpa using h0, l, h1, fun k v hk => ?_⟩
  rw [List.getElem?_set] at hk
  by_cases e : i = k
  · subst e
    rw [if_pos rfl] at hk
    split at hk
    · exact Or.inl (Option.some.inj hk).symm
    · cases hk
  · rw [if_neg e] at hk
    exact h2 k v hk
theorem P_L.kill {ρ : List Nat} {ls : Array Slot} {n : Nat} (ks : List Nat) : ∀ {L : List Value}, P_L ρ L ls n → P_L ρ (P_kill L ks) ls n := by
  induction ks with
  | nil => exact fun h => h
  | cons k ks ih => exact fun h => ih (h.drop k)
theorem P_pre_len (L : List Value) (i : Nat) : (P_pre L i).length = L.length := by
  unfold P_pre
  split
  · rfl
  · split <;> simp
/-- what a store leaves alone -/
theorem P_pre_at {L : List Value} {i k : Nat} {v : Value} (h : (P_pre L i)[k]? = some v) : v = P_un ∨ (L[k]? = some v ∧ ¬ (k + 1 = i ∧ v.category = 2)) := by
  unfold P_pre at h
  split at h
  · exact Or.inr ⟨h, fun q => by omega⟩
  · next j =>
    by_cases e : j = k
    · subst e
      split at h
      · rw [List.getElem?_set] at h
        simp only [if_true] at h
        split at h
        · exact Or.inl (Option.some.inj h).symm
        · cases h
      · rw [List.getElem?_set] at h
        simp only [if_true] at h
        split at h
        · exact Or.inl (Option.some.inj h).symm
        · cases h
      · next h1 h2 =>
        refine Or.inr ⟨h, fun q => ?_⟩
        cases v <;> first | (exact absurd h (h1 _)) | (exact absurd h (h2 _)) | (simp [Value.category] at q)
    · have h3 : L[k]? = some v := by
        split at h
        · rwa [List.getElem?_set_ne e] at h
        · rwa [List.getElem?_set_ne e] at h
        · exact h
      exact Or.inr ⟨h3, fun q => e (by omega)⟩
/-- the machine's side of a store of one slot, and of two -/
theorem P_L.st1 {ρ : List Nat} {L : List Value} {ls : Array Slot} {n i : Nat} {v v' : Value} (hL : P_L ρ L ls n) (hv : P_v ρ v v') : ∃ l : List (Nat × Value), lv_has ls n l ∧ ∀ ls' : Array Slot, lv_has ls' n ((i, v') :: l.filter (fun q => !(q.1 == i) && !(q.1 + 1 == i && q.2.category == 2))) → P_L ρ (P_st1 L i v) ls' n := by
  obtain ⟨h0, l, h1, h2⟩ := hL
  refine ⟨l, h1, fun ls' h' => ⟨by simp [P_st1, P_pre_len, h0], _, h', fun k x hk => ?_⟩⟩
  unfold P_st1 at hk
  rw [List.getElem?_set] at hk
  by_cases e : i = k
  · subst e
    simp only [if_true] at hk
    split at hk
    · cases hk
      exact Or.inr ⟨v', List.mem_cons_self, hv⟩
    · cases hk
  · rw [if_neg e] at hk
    obtain hq | ⟨h3, h4⟩ := P_pre_at hk
    · exact Or.inl hq
    · obtain hq | ⟨w, a, b⟩ := h2 k x h3
      · exact Or.inl hq
      · refine Or.inr ⟨w, List.mem_cons_of_mem _ (List.mem_filter.mpr ⟨a, ?_⟩), b⟩
        have e' : ¬ k = i := fun q => e q.symm
        have hc := b.cat
        by_cases h5 : k + 1 = i
        · have h6 : ¬ w.category = 2 := fun q => h4 ⟨h5, by rw [← hc]; exact q⟩
          simp [e', h6]
        · simp [e', h5]
theorem P_L.st2 {ρ : List Nat} {L : List Value} {ls : Array Slot} {n i : Nat} {v v' : Value} (hL : P_L ρ L ls n) (hv : P_v ρ v v') : ∃ l : List (Nat × Value), lv_has ls n l ∧ ∀ ls' : Array Slot, lv_has ls' n ((i, v') :: l.filter (fun q => !(q.1 == i) && (!(q.1 == i + 1) && !(q.1 + 1 == i && q.2.category == 2)))) → P_L ρ (P_st2 L i v) ls' n := by
  obtain ⟨h0, l, h1, h2⟩ := hL
  refine ⟨l, h1, fun ls' h' => ⟨by simp [P_st2, P_pre_len, h0], _, h', fun k x hk => ?_⟩⟩
  unfold P_st2 at hk
  rw [List.getElem?_set] at hk
  by_cases e1 : i + 1 = k
  · subst e1
    simp only [if_true] at hk
    split at hk
    · exact Or.inl (Option.some.inj hk).symm
    · cases hk
  rw [if_neg e1, List.getElem?_set] at hk
  by_cases e : i = k
  · subst e
    simp only [if_true] at hk
    split at hk
    · cases hk
      exact Or.inr ⟨v', List.mem_cons_self, hv⟩
    · cases hk
  · rw [if_neg e] at hk
    obtain hq | ⟨h3, h4⟩ := P_pre_at hk
    · exact Or.inl hq
    · obtain hq | ⟨w, a, b⟩ := h2 k x h3
      · exact Or.inl hq
      · refine Or.inr ⟨w, List.mem_cons_of_mem _ (List.mem_filter.mpr ⟨a, ?_⟩), b⟩
        have e' : ¬ k = i := fun q => e q.symm
        have e1' : ¬ k = i + 1 := fun q => e1 q.symm
        have hc := b.cat
        by_cases h5 : k + 1 = i
        · have h6 : ¬ w.category = 2 := fun q => h4 ⟨h5, by rw [← hc]; exact q⟩
          simp [e', e1', h6]
        · simp [e', e1', h5]
end
section
/-! THE TIE, 2: an instruction between locals and stack; jumps -/
/-- how long an instruction is -/
def P_len (i : Instr) : Nat := match i with
  | .aload _ | .iload _ | .lload _ | .dload _ | .astore _ | .istore _ | .lstore _ | .dstore _ | .bipush _ | .ldc _ | .newarray _ => 2
  | .iinc _ _ | .sipush _ | .ldc_w _ | .ldc2_w _ | .goto _ | .ifCond _ _ | .if_icmp _ _ | .ifnull _ | .ifnonnull _ | .getfield _ | .putfield _ | .getstatic _ | .anewarray _ | .new _ | .invokestatic _ | .invokespecial _ | .invokevirtual _ => 3
  | _ => 1
/-- the constants that an instruction loads -/
def P_ldok (own : String) (i : Instr) (r1 : Int) (r2 : Nat) (args : Array Value) (s : State) : Prop := match i with
  | .ldc k => (Jvm.Cond.constant own k (Int32.ofInt r1)).before args s = true
  | .ldc_w k => (Jvm.Cond.constant own k (Int32.ofInt r1)).before args s = true
  | .ldc2_w k => if r2 = 0 then (Jvm.Cond.constantLong own k (Int64.ofInt r1)).before args s = true else (Jvm.Cond.constantDouble own k (UInt64.ofNat r1.toNat)).before args s = true
  | _ => True
section OP
variable {p : Program} {l : Launch} {e : Env} {R : Room} {s : State} {m : MethodId} {args : Array Value} {below : List Frame} {meth : Method} {c : Code} {H : Heap} {locs : List Loc} {cells slots : Nat} {Q : State → Prop} {cc : ByteArray} {pc nL : Nat} {ls : Array Slot} {rest : List Value} {ρ : List Nat} {L L1 st st1 st' : List Value}
theorem P_vs_cons {v : Value} (h : P_vs ρ (v :: st) st') : ∃ w ws, st' = w :: ws ∧ P_v ρ v w ∧ P_vs ρ st ws := by
  cases st' with
  | nil => exact h.elim
  | cons w ws => exact ⟨w, ws, rfl, h.1, h.2⟩
theorem P_vs_nil (h : P_vs ρ [] st') : st' = [] := by
  cases st' with
  | nil => rfl
  | cons w ws => exact h.elim
set_option maxHeartbeats 4000000 in
/-- an instruction between locals and stack -/
theorem P_op_ok (hx : p.tables.exec = Jvm.exec) (hb : c.code = cc) {own : String} (hown : s.vm.findClass own = some m.cls) {i : Instr} {r1 : Int} {r2 : Nat} (hdg : decode cc pc = .ok (i, P_len i)) (hld : P_ldok own i r1 r2 args s) (hL : P_L ρ L ls nL) (hst : P_vs ρ st st') (h : P_op i r1 r2 L st = some (L1, st1))
    (k : ∀ (ls' : Array Slot) (ws : List Value), P_L ρ L1 ls' nL → P_vs ρ st1 ws → W p l e R s m args below meth c H locs cells slots Q (F0 m (pc + P_len i) ls' ws)) : W p l e R s m args below meth c H locs cells slots Q (F0 m pc ls st') := by
  cases i with
  | aconst_null =>
    cases h
    exact lv_null hx hb hdg (k ls _ hL ⟨rfl, hst⟩)
  | aload i =>
    simp only [P_op, P_lda] at h
    split at h
    · next a ha =>
      cases h
      obtain ⟨v', h1, q, h2, rfl⟩ := hL.at ha (by simp [P_un])
      exact lv_aload hx hb hdg h1 (k ls _ hL ⟨⟨q, h2, rfl⟩, hst⟩)
    · next ha =>
      cases h
      obtain ⟨v', h1, h2⟩ := hL.at ha (by simp [P_un])
      cases h2
      exact lv_aloadN hx hb hdg h1 (k ls _ hL ⟨rfl, hst⟩)
    · cases h
  | aload_n i =>
    simp only [P_op, P_lda] at h
    split at h
    · next a ha =>
      cases h
      obtain ⟨v', h1, q, h2, rfl⟩ := hL.at ha (by simp [P_un])
      exact lv_aload_n hx hb hdg rfl h1 (k ls _ hL ⟨⟨q, h2, rfl⟩, hst⟩)
    · next ha =>
      cases h
      obtain ⟨v', h1, h2⟩ := hL.at ha (by simp [P_un])
      cases h2
      exact lv_aload_nN hx hb hdg rfl h1 (k ls _ hL ⟨rfl, hst⟩)
    · cases h
  | iload i =>
    simp only [P_op, P_ldi] at h
    split at h
    · next a ha =>
      cases h
      obtain ⟨v', h1, h2⟩ := hL.at ha (by simp [P_un])
      cases h2
      exact lv_iload hx hb hdg h1 (k ls _ hL ⟨rfl, hst⟩)
    · cases h
  | iload_n i =>
    simp only [P_op, P_ldi] at h
    split at h
    · next a ha =>
      cases h
      obtain ⟨v', h1, h2⟩ := hL.at ha (by simp [P_un])
      cases h2
      exact lv_iload_n hx hb hdg rfl h1 (k ls _ hL ⟨rfl, hst⟩)
    · cases h
  | lload i =>
    simp only [P_op, P_ldl] at h
    split at h
    · next a ha =>
      cases h
      obtain ⟨v', h1, h2⟩ := hL.at ha (by simp [P_un])
      cases h2
      exact lv_lload hx hb hdg h1 (k ls _ hL ⟨rfl, hst⟩)
    · cases h
  | lload_n i =>
    simp only [P_op, P_ldl] at h
    split at h
    · next a ha =>
      cases h
      obtain ⟨v', h1, h2⟩ := hL.at ha (by simp [P_un])
      cases h2
      exact lv_lload_n hx hb hdg rfl h1 (k ls _ hL ⟨rfl, hst⟩)
    · cases h
  | dload i =>
    simp only [P_op, P_ldd] at h
    split at h
    · next a ha =>
      cases h
      obtain ⟨v', h1, h2⟩ := hL.at ha (by simp [P_un])
      cases h2
      exact lv_dload hx hb hdg h1 (k ls _ hL ⟨rfl, hst⟩)
    · cases h
  | dload_n i =>
    simp only [P_op, P_ldd] at h
    split at h
    · next a ha =>
      cases h
      obtain ⟨v', h1, h2⟩ := hL.at ha (by simp [P_un])
      cases h2
      exact lv_dload_n hx hb hdg rfl h1 (k ls _ hL ⟨rfl, hst⟩)
    · cases h
  | astore i =>
    simp only [P_op, P_sta] at h
    split at h
    · split at h
      · next x r hlt =>
        cases h
        obtain ⟨w, ws, rfl, ⟨q, h2, rfl⟩, h3⟩ := P_vs_cons hst
        obtain ⟨l0, g1, g2⟩ := hL.st1 (i := i) (v := .ref x) ⟨q, h2, rfl⟩
        exact lv_astore hx hb hdg g1 (by rw [← hL.1]; exact hlt) rfl (fun ls' h' => k ls' _ (g2 ls' h') h3)
      · cases h
    · split at h
      · next r hlt =>
        cases h
        obtain ⟨w, ws, rfl, h2, h3⟩ := P_vs_cons hst
        cases h2
        obtain ⟨l0, g1, g2⟩ := hL.st1 (i := i) (v := .null) rfl
        exact lv_astoreN hx hb hdg g1 (by rw [← hL.1]; exact hlt) rfl (fun ls' h' => k ls' _ (g2 ls' h') h3)
      · cases h
    · cases h
  | astore_n i =>
    simp only [P_op, P_sta] at h
    split at h
    · split at h
      · next x r hlt =>
        cases h
        obtain ⟨w, ws, rfl, ⟨q, h2, rfl⟩, h3⟩ := P_vs_cons hst
        obtain ⟨l0, g1, g2⟩ := hL.st1 (i := i.val) (v := .ref x) ⟨q, h2, rfl⟩
        exact lv_astore_n hx hb hdg rfl g1 (by rw [← hL.1]; exact hlt) rfl (fun ls' h' => k ls' _ (g2 ls' h') h3)
      · cases h
    · split at h
      · next r hlt =>
        cases h
        obtain ⟨w, ws, rfl, h2, h3⟩ := P_vs_cons hst
        cases h2
        obtain ⟨l0, g1, g2⟩ := hL.st1 (i := i.val) (v := .null) rfl
        exact lv_astore_nN hx hb hdg rfl g1 (by rw [← hL.1]; exact hlt) rfl (fun ls' h' => k ls' _ (g2 ls' h') h3)
      · cases h
    · cases h
  | istore i =>
    simp only [P_op, P_sti] at h
    split at h
    · split at h
      · next x r hlt =>
        cases h
        obtain ⟨w, ws, rfl, h2, h3⟩ := P_vs_cons hst
        cases h2
        obtain ⟨l0, g1, g2⟩ := hL.st1 (i := i) (v := .int x) rfl
        exact lv_istore hx hb hdg g1 (by rw [← hL.1]; exact hlt) rfl (fun ls' h' => k ls' _ (g2 ls' h') h3)
      · cases h
    · cases h
  | istore_n i =>
    simp only [P_op, P_sti] at h
    split at h
    · split at h
      · next x r hlt =>
        cases h
        obtain ⟨w, ws, rfl, h2, h3⟩ := P_vs_cons hst
        cases h2
        obtain ⟨l0, g1, g2⟩ := hL.st1 (i := i.val) (v := .int x) rfl
        exact lv_istore_n hx hb hdg rfl g1 (by rw [← hL.1]; exact hlt) rfl (fun ls' h' => k ls' _ (g2 ls' h') h3)
      · cases h
    · cases h
  | lstore i =>
    simp only [P_op, P_stl] at h
    split at h
    · split at h
      · next x r hlt =>
        cases h
        obtain ⟨w, ws, rfl, h2, h3⟩ := P_vs_cons hst
        cases h2
        obtain ⟨l0, g1, g2⟩ := hL.st2 (i := i) (v := .long x) rfl
        exact lv_lstore hx hb hdg g1 (by rw [← hL.1]; exact hlt) rfl (fun ls' h' => k ls' _ (g2 ls' h') h3)
      · cases h
    · cases h
  | lstore_n i =>
    simp only [P_op, P_stl] at h
    split at h
    · split at h
      · next x r hlt =>
        cases h
        obtain ⟨w, ws, rfl, h2, h3⟩ := P_vs_cons hst
        cases h2
        obtain ⟨l0, g1, g2⟩ := hL.st2 (i := i.val) (v := .long x) rfl
        exact lv_lstore_n hx hb hdg rfl g1 (by rw [← hL.1]; exact hlt) rfl (fun ls' h' => k ls' _ (g2 ls' h') h3)
      · cases h
    · cases h
  | dstore i =>
    simp only [P_op, P_std] at h
    split at h
    · split at h
      · next x r hlt =>
        cases h
        obtain ⟨w, ws, rfl, h2, h3⟩ := P_vs_cons hst
        cases h2
        obtain ⟨l0, g1, g2⟩ := hL.st2 (i := i) (v := .double x) rfl
        exact lv_dstore hx hb hdg g1 (by rw [← hL.1]; exact hlt) rfl (fun ls' h' => k ls' _ (g2 ls' h') h3)
      · cases h
    · cases h
  | dstore_n i =>
    simp only [P_op, P_std] at h
    split at h
    · split at h
      · next x r hlt =>
        cases h
        obtain ⟨w, ws, rfl, h2, h3⟩ := P_vs_cons hst
        cases h2
        obtain ⟨l0, g1, g2⟩ := hL.st2 (i := i.val) (v := .double x) rfl
        exact lv_dstore_n hx hb hdg rfl g1 (by rw [← hL.1]; exact hlt) rfl (fun ls' h' => k ls' _ (g2 ls' h') h3)
      · cases h
    · cases h
  | iinc i n =>
    simp only [P_op, P_iinc] at h
    split at h
    · next x ha =>
      cases h
      obtain ⟨l0, g1, g2⟩ := hL.st1 (i := i) (v := .int (x + Int32.ofInt n)) rfl
      have hlt : i < nL := by rw [← hL.1]; exact (List.getElem?_eq_some_iff.mp ha).1
      obtain ⟨h0, l1, h1, h2⟩ := hL
      obtain hq | ⟨v', a, b⟩ := h2 i _ ha
      · exact absurd hq (by simp [P_un])
      · cases b
        obtain ⟨j, hj⟩ := List.getElem?_of_mem a
        have hs : lv_has ls nL ((i, .int x) :: l0) := ⟨g1.1, g1.2.1, fun q hq => by
          rcases List.mem_cons.mp hq with rfl | hq
          · exact h1.2.2 _ a
          · exact g1.2.2 q hq⟩
        refine lv_iinc (k := 0) hx hb hdg hs rfl rfl hlt rfl (fun ls' h' => k ls' _ (g2 ls' ?_) hst)
        refine ⟨h'.1, h'.2.1, fun q hq => h'.2.2 q ?_⟩
        rcases List.mem_cons.mp hq with rfl | hq
        · exact List.mem_cons_self
        · refine List.mem_cons_of_mem _ ?_
          rw [List.mem_filter] at hq ⊢
          exact ⟨List.mem_cons_of_mem _ hq.1, hq.2⟩
    · cases h
  | iconst n =>
    cases h
    exact lv_iconst hx hb hdg rfl (k ls _ hL ⟨rfl, hst⟩)
  | bipush n =>
    cases h
    exact lv_bipush hx hb hdg rfl (k ls _ hL ⟨rfl, hst⟩)
  | sipush n =>
    cases h
    exact lv_sipush hx hb hdg rfl (k ls _ hL ⟨rfl, hst⟩)
  | lconst n =>
    cases h
    exact lv_lconst hx hb hdg rfl (k ls _ hL ⟨rfl, hst⟩)
  | dconst n =>
    simp only [P_op] at h
    split at h
    · next hn =>
      cases h
      have hn' : n = 0 := Fin.ext hn
      subst hn'
      exact lv_dconst0 hx hb hdg (k ls _ hL ⟨rfl, hst⟩)
    · cases h
  | ldc i =>
    cases h
    exact lv_ldc hx hb hown hld hdg (k ls _ hL ⟨rfl, hst⟩)
  | ldc_w i =>
    cases h
    exact lv_ldcw hx hb hown hld hdg (k ls _ hL ⟨rfl, hst⟩)
  | ldc2_w i =>
    simp only [P_op] at h
    simp only [P_ldok] at hld
    split at h
    · next hr =>
      cases h
      rw [if_pos hr] at hld
      exact lv_ldc2 hx hb hown hld hdg (k ls _ hL ⟨rfl, hst⟩)
    · next hr =>
      cases h
      rw [if_neg hr] at hld
      exact lv_ldc2d hx hb hown hld hdg (k ls _ hL ⟨rfl, hst⟩)
  | dup =>
    simp only [P_op, P_dup] at h
    split at h
    · split at h
      · next a r ha =>
        cases h
        obtain ⟨w, ws, rfl, h2, h3⟩ := P_vs_cons hst
        exact lv_dup hx hb hdg (h2.c1 ha) (k ls _ hL ⟨h2, h2, h3⟩)
      · cases h
    · cases h
  | pop =>
    simp only [P_op, P_pop] at h
    split at h
    · split at h
      · next a r ha =>
        cases h
        obtain ⟨w, ws, rfl, h2, h3⟩ := P_vs_cons hst
        exact lv_pop hx hb hdg (h2.c1 ha) (k ls _ hL h3)
      · cases h
    · cases h
  | dup_x1 =>
    simp only [P_op, P_dupx1] at h
    split at h
    · split at h
      · split at h
        · next a b r ha hb2 =>
          cases h
          obtain ⟨w, ws, rfl, h2, h3⟩ := P_vs_cons hst
          obtain ⟨w2, ws2, rfl, h4, h5⟩ := P_vs_cons h3
          exact lv_dup_x1 hx hb hdg (h2.c1 ha) (h4.c1 hb2) (k ls _ hL ⟨h2, h4, h2, h5⟩)
        · cases h
      · cases h
    · cases h
  | dup_x2 =>
    simp only [P_op, P_dupx2] at h
    split at h
    · split at h
      · split at h
        · split at h
          · next a b d r ha hb2 hd =>
            cases h
            obtain ⟨w, ws, rfl, h2, h3⟩ := P_vs_cons hst
            obtain ⟨w2, ws2, rfl, h4, h5⟩ := P_vs_cons h3
            obtain ⟨w3, ws3, rfl, h6, h7⟩ := P_vs_cons h5
            exact lv_dup_x2 hx hb hdg (h2.c1 ha) (h4.c1 hb2) (h6.c1 hd) (k ls _ hL ⟨h2, h4, h6, h2, h7⟩)
          · cases h
        · cases h
      · cases h
    · cases h
  | dup2 =>
    simp only [P_op, P_dup2] at h
    split at h
    · split at h
      · split at h
        · next a b r ha hb2 =>
          cases h
          obtain ⟨w, ws, rfl, h2, h3⟩ := P_vs_cons hst
          obtain ⟨w2, ws2, rfl, h4, h5⟩ := P_vs_cons h3
          exact lv_dup2_11 hx hb hdg (h2.c1 ha) (h4.c1 hb2) (k ls _ hL ⟨h2, h4, h2, h4, h5⟩)
        · cases h
      · cases h
    · cases h
  | iadd =>
    simp only [P_op, P_ii] at h
    split at h
    · cases h
      obtain ⟨w, ws, rfl, h2, h3⟩ := P_vs_cons hst
      obtain ⟨w2, ws2, rfl, h4, h5⟩ := P_vs_cons h3
      cases h2; cases h4
      exact lv_iadd hx hb hdg (k ls _ hL ⟨rfl, h5⟩)
    · cases h
  | isub =>
    simp only [P_op, P_ii] at h
    split at h
    · cases h
      obtain ⟨w, ws, rfl, h2, h3⟩ := P_vs_cons hst
      obtain ⟨w2, ws2, rfl, h4, h5⟩ := P_vs_cons h3
      cases h2; cases h4
      exact lv_isub hx hb hdg (k ls _ hL ⟨rfl, h5⟩)
    · cases h
  | imul =>
    simp only [P_op, P_ii] at h
    split at h
    · cases h
      obtain ⟨w, ws, rfl, h2, h3⟩ := P_vs_cons hst
      obtain ⟨w2, ws2, rfl, h4, h5⟩ := P_vs_cons h3
      cases h2; cases h4
      exact lv_imul hx hb hdg (k ls _ hL ⟨rfl, h5⟩)
    · cases h
  | iand =>
    simp only [P_op, P_ii] at h
    split at h
    · cases h
      obtain ⟨w, ws, rfl, h2, h3⟩ := P_vs_cons hst
      obtain ⟨w2, ws2, rfl, h4, h5⟩ := P_vs_cons h3
      cases h2; cases h4
      exact lv_iand hx hb hdg (k ls _ hL ⟨rfl, h5⟩)
    · cases h
  | ior =>
    simp only [P_op, P_ii] at h
    split at h
    · cases h
      obtain ⟨w, ws, rfl, h2, h3⟩ := P_vs_cons hst
      obtain ⟨w2, ws2, rfl, h4, h5⟩ := P_vs_cons h3
      cases h2; cases h4
      exact lv_ior hx hb hdg (k ls _ hL ⟨rfl, h5⟩)
    · cases h
  | ishr =>
    simp only [P_op, P_ii] at h
    split at h
    · cases h
      obtain ⟨w, ws, rfl, h2, h3⟩ := P_vs_cons hst
      obtain ⟨w2, ws2, rfl, h4, h5⟩ := P_vs_cons h3
      cases h2; cases h4
      exact lv_ishr hx hb hdg (k ls _ hL ⟨rfl, h5⟩)
    · cases h
  | idiv =>
    simp only [P_op, P_id] at h
    split at h
    · split at h
      · cases h
      · next hne =>
        cases h
        obtain ⟨w, ws, rfl, h2, h3⟩ := P_vs_cons hst
        obtain ⟨w2, ws2, rfl, h4, h5⟩ := P_vs_cons h3
        cases h2; cases h4
        exact lv_idiv hx hb hdg hne (k ls _ hL ⟨rfl, h5⟩)
    · cases h
  | irem =>
    simp only [P_op, P_id] at h
    split at h
    · split at h
      · cases h
      · next hne =>
        cases h
        obtain ⟨w, ws, rfl, h2, h3⟩ := P_vs_cons hst
        obtain ⟨w2, ws2, rfl, h4, h5⟩ := P_vs_cons h3
        cases h2; cases h4
        exact lv_irem hx hb hdg hne (k ls _ hL ⟨rfl, h5⟩)
    · cases h
  | ladd =>
    simp only [P_op, P_ll] at h
    split at h
    · cases h
      obtain ⟨w, ws, rfl, h2, h3⟩ := P_vs_cons hst
      obtain ⟨w2, ws2, rfl, h4, h5⟩ := P_vs_cons h3
      cases h2; cases h4
      exact lv_ladd hx hb hdg (k ls _ hL ⟨rfl, h5⟩)
    · cases h
  | lmul =>
    simp only [P_op, P_ll] at h
    split at h
    · cases h
      obtain ⟨w, ws, rfl, h2, h3⟩ := P_vs_cons hst
      obtain ⟨w2, ws2, rfl, h4, h5⟩ := P_vs_cons h3
      cases h2; cases h4
      exact lv_lmul hx hb hdg (k ls _ hL ⟨rfl, h5⟩)
    · cases h
  | ldiv =>
    simp only [P_op, P_ld] at h
    split at h
    · split at h
      · cases h
      · next hne =>
        cases h
        obtain ⟨w, ws, rfl, h2, h3⟩ := P_vs_cons hst
        obtain ⟨w2, ws2, rfl, h4, h5⟩ := P_vs_cons h3
        cases h2; cases h4
        exact lv_ldiv hx hb hdg hne (k ls _ hL ⟨rfl, h5⟩)
    · cases h
  | lcmp =>
    simp only [P_op, P_lcmp] at h
    split at h
    · cases h
      obtain ⟨w, ws, rfl, h2, h3⟩ := P_vs_cons hst
      obtain ⟨w2, ws2, rfl, h4, h5⟩ := P_vs_cons h3
      cases h2; cases h4
      exact W.lcmp hx hb hdg (k ls _ hL ⟨rfl, h5⟩)
    · cases h
  | dcmp op =>
    simp only [P_op, P_dcmp] at h
    split at h
    · cases h
      obtain ⟨w, ws, rfl, h2, h3⟩ := P_vs_cons hst
      obtain ⟨w2, ws2, rfl, h4, h5⟩ := P_vs_cons h3
      cases h2; cases h4
      exact lv_dcmp hx hb hdg (k ls _ hL ⟨rfl, h5⟩)
    · cases h
  | ddiv =>
    simp only [P_op, P_dd] at h
    split at h
    · split at h
      · next hne =>
        cases h
        obtain ⟨w, ws, rfl, h2, h3⟩ := P_vs_cons hst
        obtain ⟨w2, ws2, rfl, h4, h5⟩ := P_vs_cons h3
        cases h2; cases h4
        exact lv_ddiv hx hb hdg hne (k ls _ hL ⟨rfl, h5⟩)
      · cases h
    · cases h
  | dmul =>
    simp only [P_op, P_dd] at h
    split at h
    · split at h
      · next hne =>
        cases h
        obtain ⟨w, ws, rfl, h2, h3⟩ := P_vs_cons hst
        obtain ⟨w2, ws2, rfl, h4, h5⟩ := P_vs_cons h3
        cases h2; cases h4
        exact lv_dmul hx hb hdg hne (k ls _ hL ⟨rfl, h5⟩)
      · cases h
    · cases h
  | dadd =>
    simp only [P_op, P_dd] at h
    split at h
    · split at h
      · next hne =>
        cases h
        obtain ⟨w, ws, rfl, h2, h3⟩ := P_vs_cons hst
        obtain ⟨w2, ws2, rfl, h4, h5⟩ := P_vs_cons h3
        cases h2; cases h4
        exact lv_dadd hx hb hdg hne (k ls _ hL ⟨rfl, h5⟩)
      · cases h
    · cases h
  | ineg =>
    simp only [P_op, P_u] at h
    split at h
    · next a r =>
      cases a <;> simp only [P_ineg] at h <;> first | (cases h; done) | skip
      cases h
      obtain ⟨w, ws, rfl, h2, h3⟩ := P_vs_cons hst
      cases h2
      exact lv_ineg hx hb hdg (k ls _ hL ⟨rfl, h3⟩)
    · cases h
  | i2l =>
    simp only [P_op, P_u] at h
    split at h
    · next a r =>
      cases a <;> simp only [P_i2l] at h <;> first | (cases h; done) | skip
      cases h
      obtain ⟨w, ws, rfl, h2, h3⟩ := P_vs_cons hst
      cases h2
      exact lv_i2l hx hb hdg rfl (k ls _ hL ⟨rfl, h3⟩)
    · cases h
  | i2d =>
    simp only [P_op, P_u] at h
    split at h
    · next a r =>
      cases a <;> simp only [P_i2d] at h <;> first | (cases h; done) | skip
      cases h
      obtain ⟨w, ws, rfl, h2, h3⟩ := P_vs_cons hst
      cases h2
      exact lv_i2d hx hb hdg (k ls _ hL ⟨rfl, h3⟩)
    · cases h
  | d2i =>
    simp only [P_op, P_u] at h
    split at h
    · next a r =>
      cases a <;> simp only [P_d2i] at h <;> first | (cases h; done) | skip
      cases h
      obtain ⟨w, ws, rfl, h2, h3⟩ := P_vs_cons hst
      cases h2
      exact lv_d2i hx hb hdg (k ls _ hL ⟨rfl, h3⟩)
    · cases h
  | _ => cases h
end OP
end
section
/-! THE TIE, 3: jumps -/
section BR
variable {p : Program} {l : Launch} {e : Env} {R : Room} {s : State} {m : MethodId} {args : Array Value} {below : List Frame} {meth : Method} {c : Code} {H : Heap} {locs : List Loc} {cells slots : Nat} {Q : State → Prop} {cc : ByteArray} {pc nL : Nat} {ls : Array Slot} {rest : List Value} {ρ : List Nat} {L L1 st st1 st' : List Value}
def P_off (i : Instr) : Option Int := match i with
  | .goto o => some o
  | .ifCond _ o => some o
  | .if_icmp _ o => some o
  | .ifnull o => some o
  | .ifnonnull o => some o
  | _ => none
set_option maxHeartbeats 4000000 in
theorem P_br_ok (hx : p.tables.exec = Jvm.exec) (hb : c.code = cc) {i : Instr} {tgt : Nat} {j : Bool} (hdg : decode cc pc = .ok (i, P_len i)) (ht : ∀ o, P_off i = some o → (pc : Int) + o = (tgt : Int)) (hst : P_vs ρ st st') (h : P_br i st = some (j, st1))
    (k : ∀ ws : List Value, P_vs ρ st1 ws → W p l e R s m args below meth c H locs cells slots Q (F0 m (if j = true then tgt else pc + P_len i) ls ws)) : W p l e R s m args below meth c H locs cells slots Q (F0 m pc ls st') := by
  cases i with
  | goto o =>
    cases h
    exact lv_goto hx hb hdg (ht o rfl) (k _ hst)
  | ifnull o =>
    simp only [P_br] at h
    split at h
    · cases h
      obtain ⟨w, ws, rfl, ⟨q, h2, rfl⟩, h3⟩ := P_vs_cons hst
      exact lv_ifnull hx hb hdg (k _ h3)
    · cases h
      obtain ⟨w, ws, rfl, h2, h3⟩ := P_vs_cons hst
      cases h2
      exact lv_ifnullN hx hb hdg (ht o rfl) (k _ h3)
    · cases h
  | ifnonnull o =>
    simp only [P_br] at h
    split at h
    · cases h
      obtain ⟨w, ws, rfl, ⟨q, h2, rfl⟩, h3⟩ := P_vs_cons hst
      exact lv_ifnonnull hx hb hdg (ht o rfl) (k _ h3)
    · cases h
      obtain ⟨w, ws, rfl, h2, h3⟩ := P_vs_cons hst
      cases h2
      exact lv_ifnonnullN hx hb hdg (k _ h3)
    · cases h
  | ifCond cd o =>
    simp only [P_br] at h
    split at h
    · next x r =>
      cases h
      obtain ⟨w, ws, rfl, h2, h3⟩ := P_vs_cons hst
      cases h2
      have k := k _ h3
      cases cd with
      | eq => exact lv_if_eq hx hb hdg (ht o rfl) (fun q => by rwa [if_pos (show P_cc .eq x 0 = true from decide_eq_true q)] at k) (fun q => by rwa [if_neg (show ¬ P_cc .eq x 0 = true from fun z => q (of_decide_eq_true z))] at k)
      | ne => exact lv_if_ne hx hb hdg (ht o rfl) (fun q => by rwa [if_pos (show P_cc .ne x 0 = true from decide_eq_true q)] at k) (fun q => by rwa [if_neg (show ¬ P_cc .ne x 0 = true from fun z => of_decide_eq_true z q)] at k)
      | lt => exact lv_if_lt hx hb hdg (ht o rfl) (fun q => by rwa [if_pos (show P_cc .lt x 0 = true from decide_eq_true q)] at k) (fun q => by rwa [if_neg (show ¬ P_cc .lt x 0 = true from fun z => q (of_decide_eq_true z))] at k)
      | ge => exact lv_if_ge hx hb hdg (ht o rfl) (fun q => by rwa [if_pos (show P_cc .ge x 0 = true from decide_eq_true q)] at k) (fun q => by rwa [if_neg (show ¬ P_cc .ge x 0 = true from fun z => q (of_decide_eq_true z))] at k)
      | gt => exact lv_if_gt hx hb hdg (ht o rfl) (fun q => by rwa [if_pos (show P_cc .gt x 0 = true from decide_eq_true q)] at k) (fun q => by rwa [if_neg (show ¬ P_cc .gt x 0 = true from fun z => q (of_decide_eq_true z))] at k)
      | le => exact lv_if_le hx hb hdg (ht o rfl) (fun q => by rwa [if_pos (show P_cc .le x 0 = true from decide_eq_true q)] at k) (fun q => by rwa [if_neg (show ¬ P_cc .le x 0 = true from fun z => q (of_decide_eq_true z))] at k)
    · cases h
  | if_icmp cd o =>
    simp only [P_br] at h
    split at h
    · next y x r =>
      cases h
      obtain ⟨w, ws, rfl, h2, h3⟩ := P_vs_cons hst
      obtain ⟨w2, ws2, rfl, h4, h5⟩ := P_vs_cons h3
      cases h2; cases h4
      have k := k _ h5
      cases cd with
      | eq => exact lv_icmp_eq hx hb hdg (ht o rfl) (fun q => by rwa [if_pos (show P_cc .eq x y = true from decide_eq_true q)] at k) (fun q => by rwa [if_neg (show ¬ P_cc .eq x y = true from fun z => q (of_decide_eq_true z))] at k)
      | ne => exact lv_icmp_ne hx hb hdg (ht o rfl) (fun q => by rwa [if_pos (show P_cc .ne x y = true from decide_eq_true q)] at k) (fun q => by rwa [if_neg (show ¬ P_cc .ne x y = true from fun z => of_decide_eq_true z q)] at k)
      | lt => exact lv_icmp_lt hx hb hdg (ht o rfl) (fun q => by rwa [if_pos (show P_cc .lt x y = true from decide_eq_true q)] at k) (fun q => by rwa [if_neg (show ¬ P_cc .lt x y = true from fun z => q (of_decide_eq_true z))] at k)
      | ge => exact lv_icmp_ge hx hb hdg (ht o rfl) (fun q => by rwa [if_pos (show P_cc .ge x y = true from decide_eq_true q)] at k) (fun q => by rwa [if_neg (show ¬ P_cc .ge x y = true from fun z => q (of_decide_eq_true z))] at k)
      | gt => exact lv_icmp_gt hx hb hdg (ht o rfl) (fun q => by rwa [if_pos (show P_cc .gt x y = true from decide_eq_true q)] at k) (fun q => by rwa [if_neg (show ¬ P_cc .gt x y = true from fun z => q (of_decide_eq_true z))] at k)
      | le => exact lv_icmp_le hx hb hdg (ht o rfl) (fun q => by rwa [if_pos (show P_cc .le x y = true from decide_eq_true q)] at k) (fun q => by rwa [if_neg (show ¬ P_cc .le x y = true from fun z => q (of_decide_eq_true z))] at k)
    · cases h
  | _ => cases h
theorem P_sw_ok (hx : p.tables.exec = Jvm.exec) (hb : c.code = cc) {i : Instr} {t len : Nat} (hdg : decode cc pc = .ok (i, len)) (hst : P_vs ρ st st') (h : P_sw i pc st = some (t, st1)) (hpos : ∀ dflt lo hi offs, i = .tableswitch dflt lo hi offs → 0 ≤ (pc : Int) + dflt ∧ ∀ o ∈ offs.toList, 0 ≤ (pc : Int) + o)
    (k : ∀ ws : List Value, P_vs ρ st1 ws → W p l e R s m args below meth c H locs cells slots Q (F0 m t ls ws)) : W p l e R s m args below meth c H locs cells slots Q (F0 m pc ls st') := by
  cases i with
  | tableswitch dflt lo hi offs =>
    obtain ⟨hd, ho⟩ := hpos _ _ _ _ rfl
    simp only [P_sw] at h
    split at h
    · next x r =>
      obtain ⟨w, ws, rfl, h2, h3⟩ := P_vs_cons hst
      cases h2
      split at h
      · next hq =>
        cases h
        exact lv_tableOut hx hb hdg hq (Int.toNat_of_nonneg hd).symm (k _ h3)
      · next hq =>
        split at h
        · next off hoff =>
          cases h
          have hm : off ∈ offs.toList := by
            obtain ⟨hlt, he⟩ := Array.getElem?_eq_some_iff.mp hoff
            rw [← he]
            exact Array.getElem_mem_toList hlt
          exact lv_tableIn hx hb hdg (fun q => hq (Or.inl q)) (fun q => hq (Or.inr q)) hoff (Int.toNat_of_nonneg (ho _ hm)).symm (k _ h3)
        · cases h
    · cases h
  | _ => cases h
end BR
end
section
/-! THE TIE, 4: cells -/
def P_ar (ρ : List Nat) (f g : (Nat → Int32) ⊕ (Nat → Int64) ⊕ (Nat → UInt32) ⊕ (Nat → UInt64) ⊕ (Nat → Option Nat)) : Prop := match f with
  | .inr (.inr (.inr (.inr f))) => ∃ g' : Nat → Option Nat, g = .inr (.inr (.inr (.inr g'))) ∧ ∀ j, (f j = none ∧ g' j = none) ∨ ∃ i q, f j = some i ∧ g' j = some q ∧ ρ[i]? = some q
  | f => g = f
def P_c (aty : Nat → FieldType) (tys : List (ClassId × FieldType)) (ρ : List Nat) (c : P_E) (e : va_E) : Prop := match c with
  | .inl (k, n, f) => ∃ (cA : ClassId) (t0 : Nat) (g : (Nat → Int32) ⊕ (Nat → Int64) ⊕ (Nat → UInt32) ⊕ (Nat → UInt64) ⊕ (Nat → Option Nat)), tys[t0]? = some (cA, aty k) ∧ e = .inl (cA, n, g) ∧ P_ar ρ f g
  | .inr (ci, fs) => ∃ fs' : List Value, e = .inr (ci, fs') ∧ P_vs ρ fs fs'
abbrev P_rho (ro : List Nat) (ws : va_W) : List Nat := ro ++ ws.map Prod.fst
/-- statics that hold rows never written: name of the kind, of the field, its descriptor, the row's number -/
abbrev P_T : Type := List (String × String × String × Nat)
def P_Wd (cl : List vw_C) (aty : Nat → FieldType) (nro : Nat) (stat : P_T) (D : va_G) (A : Nat → Prop) (s : State) (H : Heap) (locs : List Loc) (ro : List Nat) (ws : va_W) (tys : List (ClassId × FieldType)) (h : List P_E) : Prop :=
  va_P D cl ws H ∧ va_K D cl tys s ∧ va_D A ws ∧ va_S A s.heap H locs ∧ (∀ q, s.heap.size ≤ q → A q) ∧ ro.length = nro ∧ h.length = nro + ws.length ∧
  (∀ (i q : Nat), ro[i]? = some q → ∃ (n : Nat) (f : Nat → Int32), h[i]? = some ((.inl (0, n, .inl f) : P_E)) ∧ va_X q n f s s.heap ∧ ¬ A q ∧ q < s.heap.size) ∧
  (∀ (i : Nat) (c : P_E) (q : Nat) (e : va_E), h[nro + i]? = some c → ws[i]? = some (q, e) → P_c aty tys (P_rho ro ws) c e) ∧
  (∀ x ∈ stat, ∃ q : Nat, ro[x.2.2.2]? = some q ∧ va_Z x.1 x.2.1 x.2.2.1 (.ref q) A s s.heap)
theorem P_vs.len {ρ : List Nat} : ∀ {vs ws : List Value}, P_vs ρ vs ws → vs.length = ws.length
  | [], [], _ => rfl
  | _ :: _, _ :: _, h => congrArg (· + 1) (P_vs.len h.2)
  | [], _ :: _, h => h.elim
  | _ :: _, [], h => h.elim
theorem P_vs.get {ρ : List Nat} : ∀ {vs ws : List Value} {k : Nat} {v : Value}, P_vs ρ vs ws → vs[k]? = some v → ∃ w, ws[k]? = some w ∧ P_v ρ v w
  | _ :: _, w :: _, 0, v, h, e => ⟨w, rfl, by cases e; exact h.1⟩
  | _ :: _, _ :: _, k + 1, v, h, e => by simpa using P_vs.get (k := k) h.2 (by simpa using e)
  | [], [], _, _, _, e => by simp at e
  | [], _ :: _, _, _, h, _ => h.elim
  | _ :: _, [], _, _, h, _ => h.elim
theorem P_vs.set {ρ : List Nat} : ∀ {vs ws : List Value} {k : Nat} {v w : Value}, P_vs ρ vs ws → P_v ρ v w → P_vs ρ (vs.set k v) (ws.set k w)
  | _ :: _, _ :: _, 0, _, _, h, e => ⟨e, h.2⟩
  | _ :: _, _ :: _, _ + 1, _, _, h, e => ⟨h.1, P_vs.set h.2 e⟩
  | [], [], _, _, _, _, _ => trivial
  | [], _ :: _, _, _, _, h, _ => h.elim
  | _ :: _, [], _, _, _, h, _ => h.elim
theorem P_ar.mono {ρ ρ' : List Nat} (h : P_sub ρ ρ') {f g : (Nat → Int32) ⊕ (Nat → Int64) ⊕ (Nat → UInt32) ⊕ (Nat → UInt64) ⊕ (Nat → Option Nat)} (hf : P_ar ρ f g) : P_ar ρ' f g := by
  obtain f | f | f | f | f := f
  · exact hf
  · exact hf
  · exact hf
  · exact hf
  · obtain ⟨g', h1, h2⟩ := hf
    refine ⟨g', h1, fun j => (h2 j).imp id ?_⟩
    rintro ⟨i, q, a, b, c⟩
    exact ⟨i, q, a, b, h _ _ c⟩
theorem P_c.mono {aty : Nat → FieldType} {tys tys' : List (ClassId × FieldType)} {ρ ρ' : List Nat} (h : P_sub ρ ρ') (ht : ∀ (k : Nat) x, tys[k]? = some x → tys'[k]? = some x) {c : P_E} {e : va_E} (hc : P_c aty tys ρ c e) : P_c aty tys' ρ' c e := by
  obtain ⟨k, n, f⟩ | ⟨ci, fs⟩ := c
  · obtain ⟨cA, t0, g, h1, h2, h3⟩ := hc
    exact ⟨cA, t0, g, ht _ _ h1, h2, h3.mono h⟩
  · obtain ⟨fs', h1, h2⟩ := hc
    exact ⟨fs', h1, h2.mono h⟩
section WD
variable {cl : List vw_C} {aty : Nat → FieldType} {nro : Nat} {stat : P_T} {D : va_G} {A : Nat → Prop} {s : State} {H : Heap} {locs : List Loc} {ro : List Nat} {ws : va_W} {tys : List (ClassId × FieldType)} {h : List P_E}
/-- a written cell, by its number -/
theorem P_Wd.at (hW : P_Wd cl aty nro stat D A s H locs ro ws tys h) {a : Nat} {c : P_E} {w : Value} (ha : nro ≤ a) (hv : P_v (P_rho ro ws) (.ref a) w) (hc : h[a]? = some c) : ∃ (q : Nat) (e : va_E), w = .ref q ∧ ws[a - nro]? = some (q, e) ∧ P_c aty tys (P_rho ro ws) c e := by
  obtain ⟨-, -, -, -, -, h6, h7, -, h9, -⟩ := hW
  obtain ⟨q, hq, rfl⟩ := hv
  have hq2 : (ws.map Prod.fst)[a - nro]? = some q := by
    rw [P_rho, List.getElem?_append_right (by omega), h6] at hq
    exact hq
  rw [List.getElem?_map] at hq2
  obtain ⟨⟨q', e⟩, h1, h2⟩ := Option.map_eq_some_iff.mp hq2
  cases h2
  exact ⟨_, e, rfl, h1, h9 _ c _ e (by rw [show nro + (a - nro) = a by omega]; exact hc) h1⟩
theorem P_Wd.row (hW : P_Wd cl aty nro stat D A s H locs ro ws tys h) {a : Nat} {w : Value} (ha : a < nro) (hv : P_v (P_rho ro ws) (.ref a) w) : ∃ (q n : Nat) (f : Nat → Int32), w = .ref q ∧ h[a]? = some (.inl (0, n, .inl f)) ∧ va_X q n f s s.heap ∧ ¬ A q ∧ q < s.heap.size := by
  obtain ⟨-, -, -, -, -, h6, h7, h8, -, -⟩ := hW
  obtain ⟨q, hq, rfl⟩ := hv
  rw [P_rho, List.getElem?_append_left (by omega)] at hq
  obtain ⟨n, f, h1, h2, h3, h4⟩ := h8 a q hq
  exact ⟨q, n, f, rfl, h1, h2, h3, h4⟩
theorem P_rho_set {i : Nat} {q : Nat} {e0 e : va_E} (hi : ws[i]? = some (q, e0)) : P_rho ro (ws.set i (q, e)) = P_rho ro ws := by
  have : (ws.set i (q, e)).map Prod.fst = ws.map Prod.fst := by
    refine List.ext_getElem? fun k => ?_
    rw [List.getElem?_map, List.getElem?_map, List.getElem?_set]
    by_cases hk : i = k
    · subst hk
      rw [hi]
      simp [(List.getElem?_eq_some_iff.mp hi).1]
    · simp [hk]
  rw [P_rho, P_rho, this]
theorem P_Wd.set (hW : P_Wd cl aty nro stat D A s H locs ro ws tys h) {a : Nat} {q : Nat} {e0 e : va_E} {c : P_E} {H1 : Heap} {locs1 : List Loc} (ha : nro ≤ a) (hi : ws[a - nro]? = some (q, e0)) (hP : va_P D cl (ws.set (a - nro) (q, e)) H1) (hD : va_D A (ws.set (a - nro) (q, e))) (hS : va_S A s.heap H1 locs1) (hc : P_c aty tys (P_rho ro ws) c e) : P_Wd cl aty nro stat D A s H1 locs1 ro (ws.set (a - nro) (q, e)) tys (h.set a c) := by
  obtain ⟨h1, h2, h3, h4, h5, h6, h7, h8, h9, h10⟩ := hW
  refine ⟨hP, h2, hD, hS, h5, h6, by simpa using h7, fun i q' hq => ?_, fun i c' q' e' hc' he' => ?_, h10⟩
  · obtain ⟨n, f, g1, g2⟩ := h8 i q' hq
    have hlt : i < nro := by rw [← h6]; exact (List.getElem?_eq_some_iff.mp hq).1
    exact ⟨n, f, by rw [List.getElem?_set_ne (by omega)]; exact g1, g2⟩
  · rw [P_rho_set hi]
    rw [List.getElem?_set] at hc' he'
    by_cases hk : a - nro = i
    · subst hk
      rw [if_pos (by omega)] at hc'
      rw [if_pos rfl] at he'
      split at hc'
      · split at he'
        · cases hc'; cases he'
          exact hc
        · cases he'
      · cases hc'
    · rw [if_neg (by omega)] at hc'
      rw [if_neg hk] at he'
      exact h9 i c' q' e' hc' he'
theorem P_sub_push (ro : List Nat) (ws : va_W) (x : Nat × va_E) : P_sub (P_rho ro ws) (P_rho ro (ws ++ [x])) := by
  intro i q hq
  rw [P_rho, List.map_append, ← List.append_assoc]
  rw [List.getElem?_append_left (List.getElem?_eq_some_iff.mp hq).1]
  exact hq
theorem P_Wd.push (hW : P_Wd cl aty nro stat D A s H locs ro ws tys h) {q : Nat} {e : va_E} {c : P_E} {H1 : Heap} {tys1 : List (ClassId × FieldType)} (hK : va_K D cl (tys ++ tys1) s) (hP : va_P D cl (ws ++ [(q, e)]) H1) (hD : va_D A (ws ++ [(q, e)])) (hS : va_S A s.heap H1 locs) (hc : P_c aty (tys ++ tys1) (P_rho ro ws) c e) : P_Wd cl aty nro stat D A s H1 locs ro (ws ++ [(q, e)]) (tys ++ tys1) (h ++ [c]) := by
  obtain ⟨h1, h2, h3, h4, h5, h6, h7, h8, h9, h10⟩ := hW
  have ht : ∀ (k : Nat) x, tys[k]? = some x → (tys ++ tys1)[k]? = some x := fun k x hk => by
    rw [List.getElem?_append_left (List.getElem?_eq_some_iff.mp hk).1]; exact hk
  refine ⟨hP, hK, hD, hS, h5, h6, by simp [h7]; omega, fun i q' hq => ?_, fun i c' q' e' hc' he' => ?_, h10⟩
  · obtain ⟨n, f, g1, g2⟩ := h8 i q' hq
    exact ⟨n, f, by rw [List.getElem?_append_left (List.getElem?_eq_some_iff.mp g1).1]; exact g1, g2⟩
  · by_cases hk : i < ws.length
    · rw [List.getElem?_append_left (by omega)] at hc'
      rw [List.getElem?_append_left hk] at he'
      exact (h9 i c' q' e' hc' he').mono (P_sub_push ro ws _) ht
    · rw [List.getElem?_append_right (by omega)] at hc' he'
      have hz : i - ws.length < 1 := (List.getElem?_eq_some_iff.mp he').1
      rw [show nro + i - h.length = 0 by omega] at hc'
      rw [show i - ws.length = 0 by omega] at he'
      cases hc'; cases he'
      exact hc.mono (P_sub_push ro ws _) (fun _ _ q => q)
theorem P_Wd.new_v (hW : P_Wd cl aty nro stat D A s H locs ro ws tys h) (q : Nat) (e : va_E) : P_v (P_rho ro (ws ++ [(q, e)])) (.ref h.length) (.ref q) := by
  obtain ⟨h1, h2, h3, h4, h5, h6, h7, -⟩ := hW
  refine ⟨q, ?_, rfl⟩
  rw [P_rho, List.getElem?_append_right (by omega), h6, h7, List.getElem?_map, List.getElem?_append_right (by omega)]
  rw [show nro + ws.length - nro - ws.length = 0 by omega]
  rfl
end WD
theorem P_fits_ok {t : FieldType} {v w : Value} {ρ : List Nat} (h : P_fits t v = true) (hv : P_v ρ v w) : narrow t w = w ∧ fits t w = true := by
  cases t <;> simp only [P_fits] at h <;> first | (cases h; done) | skip
  all_goals cases v <;> simp only [fits] at h <;> first | (cases h; done) | skip
  all_goals simp only [P_v] at hv
  all_goals first | (subst hv; refine ⟨?_, h⟩) | (obtain ⟨q, -, rfl⟩ := hv; exact ⟨rfl, rfl⟩)
  all_goals first | rfl | skip
  next x =>
    rcases (by simpa using h : x = 0 ∨ x = 1) with rfl | rfl <;> rfl
end
section
/-! THE TIE, 5: what reads and writes cells -/
/-- a field's name at a place, for an object of the number ci -/
def P_fok (cl : List vw_C) (Tb : List Jvm.Cond) (own : String) (idx ci k : Nat) : Prop := ∃ (C : String) (T : u_T) (N : Nat) (ref : String), cl[ci]? = some (C, T, N) ∧ k < N ∧ (ref = (T k).1 ∨ Jvm.Cond.sameField ref (T k).1 (T k).2.1 (T k).2.2.1 ∈ Tb) ∧ (Jvm.Cond.fieldLink own idx ref (T k).2.1 (T k).2.2.1 ∈ Tb ∨ ∃ host, Jvm.Cond.fieldLinkNest own idx ref (T k).2.1 (T k).2.2.1 host ∈ Tb)
/-- the same for a write -/
def P_pok (cl : List vw_C) (Tb : List Jvm.Cond) (own : String) (ini : Bool) (idx ci k : Nat) : Prop := ∃ (C : String) (T : u_T) (N : Nat) (ref : String), cl[ci]? = some (C, T, N) ∧ k < N ∧ (ref = (T k).1 ∨ Jvm.Cond.sameField ref (T k).1 (T k).2.1 (T k).2.2.1 ∈ Tb) ∧ ((Jvm.Cond.fieldLink own idx ref (T k).2.1 (T k).2.2.1 ∈ Tb ∧ ((T k).2.2.2 = false ∨ ((T k).2.2.2 = true ∧ ini = true ∧ (T k).1 = own))) ∨ ∃ host, Jvm.Cond.fieldLinkNest own idx ref (T k).2.1 (T k).2.2.1 host ∈ Tb ∧ (T k).2.2.2 = false)
/-- what the tables say of the kinds of object -/
def P_clok (cl : List vw_C) (Z : P_Z) (Tb : List Jvm.Cond) : Prop := ∀ (ci : Nat) (C : String) (T : u_T) (N : Nat), cl[ci]? = some (C, T, N) → (∀ w ∈ u_ws C T N, w ∈ Tb) ∧ (∀ k, k < N → parseFieldDescriptor (T k).2.2.1 = some (Z.2.2 ci k)) ∧ (∀ a, a < N → ∀ b, b < N → a ≠ b → (T a).2.1 ≠ (T b).2.1) ∧ (Z.1 ci).length = N ∧ ∀ j, j < N → defaultValue (Z.2.2 ci j) = vp_V (Z.1 ci) j ∧ P_v [] ((Z.1 ci).getD j .null) ((Z.1 ci).getD j .null)
/-- what the types of rows are -/
def P_atok (cl : List vw_C) (aty : Nat → FieldType) : Prop := aty 0 = .int ∧ aty 1 = .long ∧ aty 2 = .double ∧ aty 3 = .boolean ∧ (∀ ci r, cl[ci]? = some r → aty (100 + ci) = .object r.1) ∧ ∀ k, 4 ≤ k → (∃ C, aty k = .object C) ∨ ∃ t, aty k = .array t
/-- what the tables say of an instruction that meets cells -/
def P_iok (cl : List vw_C) (aty : Nat → FieldType) (Z : P_Z) (Tb : List Jvm.Cond) (stat : P_T) (own : String) (ini : Bool) (i : Instr) (r1 : Int) (r2 : Nat) : Prop := match i with
  | .getfield idx => ∀ ci, Z.2.1 r1.toNat ci = true → P_fok cl Tb own idx ci r2
  | .putfield idx => ∀ ci, Z.2.1 r1.toNat ci = true → P_pok cl Tb own ini idx ci r2
  | .newarray t => newarray.typeOf t = aty r2 ∧ Jvm.Cond.arrayClass (aty r2) ∈ Tb
  | .anewarray idx => (∃ C, aty r2 = .object C ∧ Jvm.Cond.classLink own idx C ∈ Tb ∧ Jvm.Cond.arrayOver (.object C) ∈ Tb) ∨ (∃ t, aty r2 = .array t ∧ Jvm.Cond.classLink own idx (FieldType.array t).toString ∈ Tb ∧ Jvm.Cond.arrayOver (.array t) ∈ Tb)
  | .new idx => r2 < 1000 → ∃ (C : String) (T : u_T) (N : Nat), cl[r2]? = some (C, T, N) ∧ Jvm.Cond.classLink own idx C ∈ Tb ∧ Jvm.Cond.instantiable C N ∈ Tb ∧ Jvm.Cond.initialized C ∈ Tb
  | .getstatic idx => ∃ (C ref n d : String), (C, n, d, r2) ∈ stat ∧ Jvm.Cond.fieldLink own idx ref n d ∈ Tb ∧ (ref = C ∨ Jvm.Cond.sameField ref C n d ∈ Tb)
  | _ => True
/-- a method's frame -/
def P_Cx (Tb : List Jvm.Cond) (own : String) (ini : Bool) (cc : ByteArray) (nL : Nat) (p : Program) (s : State) (m : MethodId) (args : Array Value) (meth : Method) (c : Code) : Prop :=
  p.tables.exec = Jvm.exec ∧ c.code = cc ∧ c.maxLocals = nL ∧ s.vm.findClass own = some m.cls ∧ (∀ w ∈ Tb, w.before args s = true) ∧ meth.locks = false ∧ (ini = true → meth.name = "<init>")
section HP
variable {p : Program} {l : Launch} {e : Env} {R : Room} {s : State} {m : MethodId} {args : Array Value} {below : List Frame} {meth : Method} {c : Code} {H : Heap} {locs : List Loc} {cells slots : Nat} {Q : State → Prop} {cc : ByteArray} {pc nL : Nat} {ls : Array Slot} {rest : List Value} {L L1 st st1 st' : List Value}
variable {cl : List vw_C} {aty : Nat → FieldType} {nro : Nat} {stat : P_T} {D : va_G} {A : Nat → Prop} {ro : List Nat} {ws : va_W} {tys : List (ClassId × FieldType)} {h h1 : P_H} {Z : P_Z} {Tb : List Jvm.Cond} {own : String} {ini : Bool}
theorem P_hsame {args : Array Value} {s : State} {Tb : List Jvm.Cond} (hts : ∀ w ∈ Tb, w.before args s = true) {ref C n d : String} (h : ref = C ∨ Jvm.Cond.sameField ref C n d ∈ Tb) : ∀ x, s.fieldFound? C n d = some x → s.fieldFound? ref n d = some x := by
  rcases h with rfl | h
  · exact fun _ q => q
  · exact fun x q => u_same (hts _ h) x q
theorem P_ix_ok {j : Int32} {n k : Nat} (h : P_ix j n = some k) : vp_in j n ∧ k = j.toNatClampNeg := by
  unfold P_ix at h
  split at h
  · cases h
  · next hq => exact ⟨hq, (Option.some.inj h).symm⟩
set_option maxHeartbeats 4000000 in
theorem P_getf_ok (hC : P_Cx Tb own ini cc nL p s m args meth c) (hW : P_Wd cl aty nro stat D A s H locs ro ws tys h.1) (hcl : P_clok cl Z Tb) {idx : Nat} {r1 : Int} {r2 : Nat} (hok : P_iok cl aty Z Tb stat own ini (.getfield idx) r1 r2) (hdg : decode cc pc = .ok (.getfield idx, 3)) (hst : P_vs (P_rho ro ws) st st') (hh : P_hp Z nro (.getfield idx) r1 r2 st h = some (st1, h1))
    (k : ∀ ws' : List Value, P_vs (P_rho ro ws) st1 ws' → h1 = h → W p l e R s m args below meth c H locs cells slots Q (F0 m (pc + 3) ls ws')) : W p l e R s m args below meth c H locs cells slots Q (F0 m pc ls st') := by
  obtain ⟨hx, hb, -, hown, hts, -, -⟩ := hC
  simp only [P_hp] at hh
  split at hh
  · next a r =>
    split at hh
    · next ci fs hc =>
      split at hh
      · next hcond =>
        split at hh
        · next v hv =>
          cases hh
          obtain ⟨w, ws2, rfl, h2, h3⟩ := P_vs_cons hst
          obtain ⟨q, e1, rfl, h4, fs', rfl, h5⟩ := hW.at hcond.1 h2 hc
          obtain ⟨C, T, N, ref, g1, g2, g3, g4⟩ := hok ci hcond.2
          obtain ⟨w', hw1, hw2⟩ := h5.get hv
          have hin : ∀ x ∈ u_ws C T N, x ∈ Tb := (hcl ci C T N g1).1
          rcases g4 with g4 | ⟨host, g4⟩
          · exact va_get (D := D) (cl := cl) hx hb hts hin hown hW.2.1 hW.1 _ h4 g1 r2 g2 (hts _ g4) (P_hsame hts g3) hw1 hdg (k _ ⟨hw2, h3⟩ rfl)
          · exact va_getN (D := D) (cl := cl) hx hb hts hin hown hW.2.1 hW.1 _ h4 g1 r2 g2 (hts _ g4) (P_hsame hts g3) hw1 hdg (k _ ⟨hw2, h3⟩ rfl)
        · cases hh
      · cases hh
    · cases hh
  · cases hh
set_option maxHeartbeats 4000000 in
theorem P_putf_ok (hC : P_Cx Tb own ini cc nL p s m args meth c) (hW : P_Wd cl aty nro stat D A s H locs ro ws tys h.1) (hcl : P_clok cl Z Tb) {idx : Nat} {r1 : Int} {r2 : Nat} (hok : P_iok cl aty Z Tb stat own ini (.putfield idx) r1 r2) (hdg : decode cc pc = .ok (.putfield idx, 3)) (hst : P_vs (P_rho ro ws) st st') (hh : P_hp Z nro (.putfield idx) r1 r2 st h = some (st1, h1))
    (k : ∀ (H1 : Heap) (locs1 : List Loc) (ws1 : va_W) (ws' : List Value), P_rho ro ws1 = P_rho ro ws → P_Wd cl aty nro stat D A s H1 locs1 ro ws1 tys h1.1 → h1.2 = h.2 → P_vs (P_rho ro ws) st1 ws' → W p l e R s m args below meth c H1 locs1 cells slots Q (F0 m (pc + 3) ls ws')) : W p l e R s m args below meth c H locs cells slots Q (F0 m pc ls st') := by
  obtain ⟨hx, hb, -, hown, hts, -, hini⟩ := hC
  simp only [P_hp] at hh
  split at hh
  · next v a r =>
    split at hh
    · next ci fs hc =>
      split at hh
      · next hcond =>
        cases hh
        obtain ⟨w, ws2, rfl, h2, h3⟩ := P_vs_cons hst
        obtain ⟨w2, ws3, rfl, h4, h5⟩ := P_vs_cons h3
        obtain ⟨q, e1, rfl, h6, fs', rfl, h7⟩ := hW.at hcond.1 h4 hc
        obtain ⟨C, T, N, ref, g1, g2, g3, g4⟩ := hok ci hcond.2.1
        obtain ⟨c1, c2, c3, c4, -⟩ := hcl ci C T N g1
        obtain ⟨f1, f2⟩ := P_fits_ok hcond.2.2.1 h2
        have hlen : r2 < fs'.length := by rw [← h7.len]; exact hcond.2.2.2
        have kk : ∀ (H1 : Heap) (locs1 : List Loc), va_P D cl (ws.set (a - nro) (q, .inr (ci, fs'.set r2 w))) H1 → va_D A (ws.set (a - nro) (q, .inr (ci, fs'.set r2 w))) → va_S A s.heap H1 locs1 → W p l e R s m args below meth c H1 locs1 cells slots Q (F0 m (pc + 3) ls ws3) := fun H1 locs1 hP hD hS =>
          k H1 locs1 _ _ (P_rho_set h6) (hW.set hcond.1 h6 hP hD hS ⟨_, rfl, h7.set h2⟩) rfl h5
        rcases g4 with ⟨g4, g5 | ⟨g5, g6, g7⟩⟩ | ⟨host, g4, g5⟩
        · exact va_put (D := D) (cl := cl) hx hb hts c1 (Z.2.2 ci) c2 c3 hown hW.2.1 hW.1 hW.2.2.1 hW.2.2.2.1 _ h6 g1 r2 g2 (hts _ g4) (P_hsame hts g3) g5 (c2 r2 g2) f1 f2 hlen hdg kk
        · exact va_putF (D := D) (cl := cl) hx hb hts c1 (Z.2.2 ci) c2 c3 hown hW.2.1 hW.1 hW.2.2.1 hW.2.2.2.1 _ h6 g1 r2 g2 (hts _ g4) (P_hsame hts g3) g5 (hini g6) g7 (c2 r2 g2) f1 f2 hlen hdg kk
        · exact va_putN (D := D) (cl := cl) hx hb hts c1 (Z.2.2 ci) c2 c3 hown hW.2.1 hW.1 hW.2.2.1 hW.2.2.2.1 _ h6 g1 r2 g2 (hts _ g4) (P_hsame hts g3) g5 (c2 r2 g2) f1 f2 hlen hdg kk
      · cases hh
    · cases hh
  · cases hh
end HP
end
section
/-! THE TIE, 6: rows -/
section AR
variable {p : Program} {l : Launch} {e : Env} {R : Room} {s : State} {m : MethodId} {args : Array Value} {below : List Frame} {meth : Method} {c : Code} {H : Heap} {locs : List Loc} {cells slots : Nat} {Q : State → Prop} {cc : ByteArray} {pc nL : Nat} {ls : Array Slot} {rest : List Value} {L L1 st st1 st' : List Value}
variable {cl : List vw_C} {aty : Nat → FieldType} {nro : Nat} {stat : P_T} {D : va_G} {A : Nat → Prop} {ro : List Nat} {ws : va_W} {tys : List (ClassId × FieldType)} {h h1 : P_H} {Z : P_Z} {Tb : List Jvm.Cond} {own : String} {ini : Bool} {r1 : Int} {r2 : Nat}
theorem P_bind_some {α β : Type} {o : Option α} {f : α → Option β} {b : β} (h : o.bind f = some b) : ∃ a, o = some a ∧ f a = some b := by
  cases o with
  | none => cases h
  | some a => exact ⟨a, rfl, h⟩
theorem P_aald (hx : p.tables.exec = Jvm.exec) (hb : c.code = cc) (hK : va_K D cl tys s) (hP : va_P D cl ws H) (q0 t0 : Nat) {a : Nat} {cA : ClassId} {ty : FieldType} {n : Nat} {f : Nat → Option Nat} (ha : ws[q0]? = some (a, .inl (cA, n, .inr (.inr (.inr (.inr f)))))) (ht : tys[t0]? = some (cA, ty)) (hty : ty.isReference = true) {i : Int32} (hin : vp_in i n) (hdg : decode cc pc = .ok (.aaload, 1))
    (kk : W p l e R s m args below meth c H locs cells slots Q (F0 m (pc + 1) ls (va_rf (f i.toNatClampNeg) :: rest))) : W p l e R s m args below meth c H locs cells slots Q (F0 m pc ls (.int i :: .ref a :: rest)) := by
  have hlt : i.toNatClampNeg < n := Nat.not_le.mp fun q => hin (Or.inr q)
  exact W.aald (v := va_rf (f i.toNatClampNeg)) (ty := ty) hx hb (hP q0 _ ha) ((hK.2 t0 _ ht).1 n (fun j => va_rf (f j))) hty (fun q => by cases q) (by show ¬ (i < 0 ∨ (arrV _ _ _).slots.size ≤ _); rw [arrV_size]; exact hin) (by show (arrV _ _ _).slots[_]? = _; rw [arrV_read _ _ hlt]) rfl rfl hdg kk
set_option maxHeartbeats 4000000 in
/-- the rows' reads -/
theorem P_ald_ok (hC : P_Cx Tb own ini cc nL p s m args meth c) (hW : P_Wd cl aty nro stat D A s H locs ro ws tys h.1) (hat : P_atok cl aty) {i : Instr} (hi : i = .iaload ∨ i = .baload ∨ i = .laload ∨ i = .daload ∨ i = .aaload) (hdg : decode cc pc = .ok (i, 1)) (hst : P_vs (P_rho ro ws) st st') (hh : P_hp Z nro i r1 r2 st h = some (st1, h1))
    (k : ∀ ws' : List Value, P_vs (P_rho ro ws) st1 ws' → h1 = h → W p l e R s m args below meth c H locs cells slots Q (F0 m (pc + 1) ls ws')) : W p l e R s m args below meth c H locs cells slots Q (F0 m pc ls st') := by
  obtain ⟨hx, hb, -, hown, hts, -, -⟩ := hC
  obtain ⟨a0, a1, a2, a3, -, a4⟩ := hat
  rcases hi with rfl | rfl | rfl | rfl | rfl
  · simp only [P_hp] at hh
    split at hh
    · next j a r =>
      split at hh
      · next n f hc =>
        obtain ⟨kx, hk, hh⟩ := P_bind_some hh
        cases hh
        obtain ⟨hin, rfl⟩ := P_ix_ok hk
        obtain ⟨w, ws2, rfl, h2, h3⟩ := P_vs_cons hst
        obtain ⟨w2, ws3, rfl, h4, h5⟩ := P_vs_cons h3
        cases h2
        by_cases ha : nro ≤ a
        · obtain ⟨q, e1, rfl, h6, cA, t0, g, g1, rfl, g3⟩ := hW.at ha h4 hc
          cases g3
          exact va_iald (D := D) (cl := cl) hx hb hW.2.1 hW.1 _ t0 h6 (by rw [g1, a0]) hin hdg (k _ ⟨rfl, h5⟩ rfl)
        · obtain ⟨q, n', f', rfl, g1, g2, g3, g4⟩ := hW.row (by omega) h4
          cases g1.symm.trans hc
          exact va_sld hx hb g2 g4 g3 hW.2.2.2.1 hin hdg (k _ ⟨rfl, h5⟩ rfl)
      · cases hh
    · cases hh
  · simp only [P_hp] at hh
    split at hh
    · next j a r =>
      split at hh
      · next n f hc =>
        split at hh
        · next ha =>
          obtain ⟨kx, hk, hh⟩ := P_bind_some hh
          cases hh
          obtain ⟨hin, rfl⟩ := P_ix_ok hk
          obtain ⟨w, ws2, rfl, h2, h3⟩ := P_vs_cons hst
          obtain ⟨w2, ws3, rfl, h4, h5⟩ := P_vs_cons h3
          cases h2
          obtain ⟨q, e1, rfl, h6, cA, t0, g, g1, rfl, g3⟩ := hW.at ha h4 hc
          cases g3
          exact va_zald (D := D) (cl := cl) hx hb hW.2.1 hW.1 _ t0 h6 (by rw [g1, a3]) hin hdg (k _ ⟨rfl, h5⟩ rfl)
        · cases hh
      · cases hh
    · cases hh
  · simp only [P_hp] at hh
    split at hh
    · next j a r =>
      split at hh
      · next n f hc =>
        split at hh
        · next ha =>
          obtain ⟨kx, hk, hh⟩ := P_bind_some hh
          cases hh
          obtain ⟨hin, rfl⟩ := P_ix_ok hk
          obtain ⟨w, ws2, rfl, h2, h3⟩ := P_vs_cons hst
          obtain ⟨w2, ws3, rfl, h4, h5⟩ := P_vs_cons h3
          cases h2
          obtain ⟨q, e1, rfl, h6, cA, t0, g, g1, rfl, g3⟩ := hW.at ha h4 hc
          cases g3
          exact va_lald (D := D) (cl := cl) hx hb hW.2.1 hW.1 _ t0 h6 (by rw [g1, a1]) hin hdg (k _ ⟨rfl, h5⟩ rfl)
        · cases hh
      · cases hh
    · cases hh
  · simp only [P_hp] at hh
    split at hh
    · next j a r =>
      split at hh
      · next n f hc =>
        split at hh
        · next ha =>
          obtain ⟨kx, hk, hh⟩ := P_bind_some hh
          cases hh
          obtain ⟨hin, rfl⟩ := P_ix_ok hk
          obtain ⟨w, ws2, rfl, h2, h3⟩ := P_vs_cons hst
          obtain ⟨w2, ws3, rfl, h4, h5⟩ := P_vs_cons h3
          cases h2
          obtain ⟨q, e1, rfl, h6, cA, t0, g, g1, rfl, g3⟩ := hW.at ha h4 hc
          cases g3
          exact va_dald (D := D) (cl := cl) hx hb hW.2.1 hW.1 _ t0 h6 (by rw [g1, a2]) hin hdg (k _ ⟨rfl, h5⟩ rfl)
        · cases hh
      · cases hh
    · cases hh
  · simp only [P_hp] at hh
    split at hh
    · next j a r =>
      split at hh
      · next ty n f hc =>
        split at hh
        · next ha =>
          obtain ⟨kx, hk, hh⟩ := P_bind_some hh
          cases hh
          obtain ⟨hin, rfl⟩ := P_ix_ok hk
          obtain ⟨w, ws2, rfl, h2, h3⟩ := P_vs_cons hst
          obtain ⟨w2, ws3, rfl, h4, h5⟩ := P_vs_cons h3
          cases h2
          obtain ⟨q, e1, rfl, h6, cA, t0, g, g1, rfl, g', rfl, g4⟩ := hW.at ha.1 h4 hc
          have hty : (aty ty).isReference = true := by
            rcases a4 ty ha.2 with ⟨C, hq⟩ | ⟨t, hq⟩ <;> rw [hq] <;> rfl
          refine P_aald (D := D) (cl := cl) hx hb hW.2.1 hW.1 _ t0 h6 g1 hty hin hdg (k _ ⟨?_, h5⟩ rfl)
          rcases g4 j.toNatClampNeg with ⟨b1, b2⟩ | ⟨i, q2, b1, b2, b3⟩
          · rw [b1, b2]
            rfl
          · rw [b1, b2]
            exact ⟨q2, b3, rfl⟩
        · cases hh
      · cases hh
    · cases hh
set_option maxHeartbeats 4000000 in
/-- the rows' writes -/
theorem P_ast_ok (hC : P_Cx Tb own ini cc nL p s m args meth c) (hW : P_Wd cl aty nro stat D A s H locs ro ws tys h.1) (hat : P_atok cl aty) {i : Instr} (hi : i = .iastore ∨ i = .bastore ∨ i = .lastore ∨ i = .dastore ∨ i = .aastore) (hdg : decode cc pc = .ok (i, 1)) (hst : P_vs (P_rho ro ws) st st') (hh : P_hp Z nro i r1 r2 st h = some (st1, h1))
    (k : ∀ (H1 : Heap) (locs1 : List Loc) (ws1 : va_W) (ws' : List Value), P_rho ro ws1 = P_rho ro ws → P_Wd cl aty nro stat D A s H1 locs1 ro ws1 tys h1.1 → h1.2 = h.2 → P_vs (P_rho ro ws) st1 ws' → W p l e R s m args below meth c H1 locs1 cells slots Q (F0 m (pc + 1) ls ws')) : W p l e R s m args below meth c H locs cells slots Q (F0 m pc ls st') := by
  obtain ⟨hx, hb, -, hown, hts, -, -⟩ := hC
  obtain ⟨a0, a1, a2, a3, a5, a4⟩ := hat
  rcases hi with rfl | rfl | rfl | rfl | rfl
  · simp only [P_hp] at hh
    split at hh
    · next x j a r =>
      split at hh
      · next n f hc =>
        split at hh
        · next ha =>
          obtain ⟨kx, hk, hh⟩ := P_bind_some hh
          cases hh
          obtain ⟨hin, rfl⟩ := P_ix_ok hk
          obtain ⟨w0, ws0, rfl, h0, h0'⟩ := P_vs_cons hst
          obtain ⟨w, ws2, rfl, h2, h3⟩ := P_vs_cons h0'
          obtain ⟨w2, ws3, rfl, h4, h5⟩ := P_vs_cons h3
          cases h2; cases h0
          obtain ⟨q, e1, rfl, h6, cA, t0, g, g1, rfl, g3⟩ := hW.at ha h4 hc
          cases g3
          exact va_iast (D := D) (cl := cl) hx hb hW.2.1 hW.1 hW.2.2.1 hW.2.2.2.1 _ t0 h6 (by rw [g1, a0]) hin hdg (fun H1 locs1 hP hD hS => k H1 locs1 _ _ (P_rho_set h6) (hW.set ha h6 hP hD hS ⟨cA, t0, _, g1, rfl, rfl⟩) rfl h5)
        · cases hh
      · cases hh
    · cases hh
  · simp only [P_hp] at hh
    split at hh
    · next x j a r =>
      split at hh
      · next n f hc =>
        split at hh
        · next ha =>
          obtain ⟨kx, hk, hh⟩ := P_bind_some hh
          cases hh
          obtain ⟨hin, rfl⟩ := P_ix_ok hk
          obtain ⟨w0, ws0, rfl, h0, h0'⟩ := P_vs_cons hst
          obtain ⟨w, ws2, rfl, h2, h3⟩ := P_vs_cons h0'
          obtain ⟨w2, ws3, rfl, h4, h5⟩ := P_vs_cons h3
          cases h2; cases h0
          obtain ⟨q, e1, rfl, h6, cA, t0, g, g1, rfl, g3⟩ := hW.at ha h4 hc
          cases g3
          exact va_zast (D := D) (cl := cl) hx hb hW.2.1 hW.1 hW.2.2.1 hW.2.2.2.1 _ t0 h6 (by rw [g1, a3]) hin hdg (fun H1 locs1 hP hD hS => k H1 locs1 _ _ (P_rho_set h6) (hW.set ha h6 hP hD hS ⟨cA, t0, _, g1, rfl, rfl⟩) rfl h5)
        · cases hh
      · cases hh
    · cases hh
  · simp only [P_hp] at hh
    split at hh
    · next x j a r =>
      split at hh
      · next n f hc =>
        split at hh
        · next ha =>
          obtain ⟨kx, hk, hh⟩ := P_bind_some hh
          cases hh
          obtain ⟨hin, rfl⟩ := P_ix_ok hk
          obtain ⟨w0, ws0, rfl, h0, h0'⟩ := P_vs_cons hst
          obtain ⟨w, ws2, rfl, h2, h3⟩ := P_vs_cons h0'
          obtain ⟨w2, ws3, rfl, h4, h5⟩ := P_vs_cons h3
          cases h2; cases h0
          obtain ⟨q, e1, rfl, h6, cA, t0, g, g1, rfl, g3⟩ := hW.at ha h4 hc
          cases g3
          exact va_last (D := D) (cl := cl) hx hb hW.2.1 hW.1 hW.2.2.1 hW.2.2.2.1 _ t0 h6 (by rw [g1, a1]) hin hdg (fun H1 locs1 hP hD hS => k H1 locs1 _ _ (P_rho_set h6) (hW.set ha h6 hP hD hS ⟨cA, t0, _, g1, rfl, rfl⟩) rfl h5)
        · cases hh
      · cases hh
    · cases hh
  · simp only [P_hp] at hh
    split at hh
    · next x j a r =>
      split at hh
      · next n f hc =>
        split at hh
        · next ha =>
          obtain ⟨kx, hk, hh⟩ := P_bind_some hh
          cases hh
          obtain ⟨hin, rfl⟩ := P_ix_ok hk
          obtain ⟨w0, ws0, rfl, h0, h0'⟩ := P_vs_cons hst
          obtain ⟨w, ws2, rfl, h2, h3⟩ := P_vs_cons h0'
          obtain ⟨w2, ws3, rfl, h4, h5⟩ := P_vs_cons h3
          cases h2; cases h0
          obtain ⟨q, e1, rfl, h6, cA, t0, g, g1, rfl, g3⟩ := hW.at ha h4 hc
          cases g3
          exact va_dast (D := D) (cl := cl) hx hb hW.2.1 hW.1 hW.2.2.1 hW.2.2.2.1 _ t0 h6 (by rw [g1, a2]) hin hdg (fun H1 locs1 hP hD hS => k H1 locs1 _ _ (P_rho_set h6) (hW.set ha h6 hP hD hS ⟨cA, t0, _, g1, rfl, rfl⟩) rfl h5)
        · cases hh
      · cases hh
    · cases hh
  · simp only [P_hp] at hh
    split at hh
    · next x j a r =>
      split at hh
      · next ty n f hc =>
        split at hh
        · next ci fs hc2 =>
          split at hh
          · next hcond =>
            obtain ⟨kx, hk, hh⟩ := P_bind_some hh
            cases hh
            obtain ⟨hin, rfl⟩ := P_ix_ok hk
            obtain ⟨w0, ws0, rfl, h0, h0'⟩ := P_vs_cons hst
            obtain ⟨w, ws2, rfl, h2, h3⟩ := P_vs_cons h0'
            obtain ⟨w2, ws3, rfl, h4, h5⟩ := P_vs_cons h3
            cases h2
            obtain ⟨ha, hx0, rfl⟩ := hcond
            obtain ⟨q, e1, rfl, h6, cA, t0, g, g1, rfl, g', rfl, g4⟩ := hW.at ha h4 hc
            have hrho : P_v (P_rho ro ws) (.ref x) w0 := h0
            obtain ⟨q2, e2, rfl, h7, fs', rfl, h8⟩ := hW.at hx0 h0 hc2
            obtain ⟨rr, hrr, -⟩ := hW.1 _ _ h7
            refine va_astq (D := D) (cl := cl) hx hb hW.2.1 hW.1 hW.2.2.1 hW.2.2.2.1 _ t0 (x - nro) ci (r := rr) h6 (by rw [g1, a5 _ _ hrr]) h7 hrr hin hdg (fun H1 locs1 hP hD hS => k H1 locs1 _ _ (P_rho_set h6) (hW.set ha h6 hP hD hS ⟨cA, t0, _, g1, rfl, _, rfl, fun jj => ?_⟩) rfl h5)
            obtain ⟨q3, hq3, e3⟩ := hrho
            cases e3
            by_cases hjj : jj = j.toNatClampNeg
            · exact Or.inr ⟨x, q2, by simp [va_up, hjj], by simp [va_up, hjj], hq3⟩
            · simpa [va_up, hjj] using g4 jj
          · cases hh
        · cases hh
      · cases hh
    · cases hh
set_option maxHeartbeats 4000000 in
theorem P_alen_ok (hC : P_Cx Tb own ini cc nL p s m args meth c) (hW : P_Wd cl aty nro stat D A s H locs ro ws tys h.1) (hdg : decode cc pc = .ok (.arraylength, 1)) (hst : P_vs (P_rho ro ws) st st') (hh : P_hp Z nro .arraylength r1 r2 st h = some (st1, h1))
    (k : ∀ ws' : List Value, P_vs (P_rho ro ws) st1 ws' → h1 = h → W p l e R s m args below meth c H locs cells slots Q (F0 m (pc + 1) ls ws')) : W p l e R s m args below meth c H locs cells slots Q (F0 m pc ls st') := by
  obtain ⟨hx, hb, -, hown, hts, -, -⟩ := hC
  simp only [P_hp] at hh
  split at hh
  · next a r =>
    split at hh
    · next ty n f hc =>
      split at hh
      · next hcond =>
        cases hh
        obtain ⟨w2, ws3, rfl, h4, h5⟩ := P_vs_cons hst
        by_cases ha : nro ≤ a
        · obtain ⟨q, e1, rfl, h6, cA, t0, g, g1, rfl, g3⟩ := hW.at ha h4 hc
          exact va_alen (D := D) (cl := cl) hx hb hW.2.1 hW.1 _ t0 h6 g1 rfl hdg (k _ ⟨rfl, h5⟩ rfl)
        · obtain ⟨q, n', f', rfl, g1, g2, g3, g4⟩ := hW.row (by omega) h4
          cases g1.symm.trans hc
          exact va_slen hx hb g2 g4 g3 hW.2.2.2.1 hdg (k _ ⟨rfl, h5⟩ rfl)
      · cases hh
    · cases hh
  · cases hh
set_option maxHeartbeats 4000000 in
theorem P_gets_ok (hC : P_Cx Tb own ini cc nL p s m args meth c) (hW : P_Wd cl aty nro stat D A s H locs ro ws tys h.1) {idx : Nat} (hok : P_iok cl aty Z Tb stat own ini (.getstatic idx) r1 r2) (hdg : decode cc pc = .ok (.getstatic idx, 3)) (hst : P_vs (P_rho ro ws) st st') (hh : P_hp Z nro (.getstatic idx) r1 r2 st h = some (st1, h1))
    (k : ∀ ws' : List Value, P_vs (P_rho ro ws) st1 ws' → h1 = h → W p l e R s m args below meth c H locs cells slots Q (F0 m (pc + 3) ls ws')) : W p l e R s m args below meth c H locs cells slots Q (F0 m pc ls st') := by
  obtain ⟨hx, hb, -, hown, hts, -, -⟩ := hC
  cases hh
  obtain ⟨C, ref, n, d, g1, g2, g3⟩ := hok
  obtain ⟨q, b1, b2⟩ := hW.2.2.2.2.2.2.2.2.2 _ g1
  refine va_gets hx hb b2 hW.2.2.2.1 hown (hts _ g2) (P_hsame hts g3) hdg (k _ ⟨⟨q, ?_, rfl⟩, hst⟩ rfl)
  rw [P_rho, List.getElem?_append_left (List.getElem?_eq_some_iff.mp b1).1]
  exact b1
end AR
end
section
/-! THE TIE, 7: what is made -/
section NW
variable {p : Program} {l : Launch} {e : Env} {R : Room} {s : State} {m : MethodId} {args : Array Value} {below : List Frame} {meth : Method} {c : Code} {H H0 : Heap} {locs : List Loc} {cells slots : Nat} {Q : State → Prop} {cc : ByteArray} {pc nL : Nat} {ls : Array Slot} {rest : List Value} {L L1 st st1 st' : List Value}
variable {cl : List vw_C} {aty : Nat → FieldType} {nro : Nat} {stat : P_T} {D : va_G} {A : Nat → Prop} {ro : List Nat} {ws : va_W} {tys : List (ClassId × FieldType)} {h h1 : P_H} {Z : P_Z} {Tb : List Jvm.Cond} {own : String} {ini : Bool} {r1 : Int} {r2 : Nat}
/-- a row of rows: as va_newq, after the kit's -/
theorem P_newr (hx : p.tables.exec = Jvm.exec) (hb : c.code = cc) {t : FieldType} {index : Nat} (hown : s.vm.findClass own = some m.cls) (hclink : (Jvm.Cond.classLink own index (FieldType.array t).toString).before args s = true) (hover : (Jvm.Cond.arrayOver (.array t)).before args s = true) (hK : va_K D cl tys s) (hP : va_P D cl ws H) (hD : va_D A ws) (hS : va_S A H0 H locs) (hA : ∀ q, H0.size ≤ q → A q)
    {n : Int32} {N' : Nat} (hn : ¬ n < 0) (hN : n.toNatClampNeg = N') (hbytes : N' * 4 ≤ 536870912) (hcells : cells + 1 ≤ R.cells) (hslots : slots + N' ≤ R.slots) (hdg : decode cc pc = .ok (.anewarray index, 3))
    (kk : ∀ (q : Nat) (cA : ClassId) (H1 : Heap), va_K D cl (tys ++ [(cA, .array t)]) s → va_P D cl (ws ++ [(q, .inl (cA, N', .inr (.inr (.inr (.inr (fun _ => none))))))]) H1 → va_D A (ws ++ [(q, .inl (cA, N', .inr (.inr (.inr (.inr (fun _ => none))))))]) → va_S A H0 H1 locs →
      W p l e R s m args below meth c H1 locs (cells + 1) (slots + N') Q (F0 m (pc + 3) ls (.ref q :: rest))) : W p l e R s m args below meth c H locs cells slots Q (F0 m pc ls (.int n :: rest)) := by
  subst hN
  refine W.anewA hx hb hown hclink hover rfl hdg rfl hn hbytes hcells hslots fun cA kA comp f1 f2 f3 f4 => ?_
  generalize hH1 : H.push ({ cls := cA, slots := Array.replicate n.toNatClampNeg .null, vm := .none } : Cell) = H1
  have z1 : H1.size = H.size + 1 := by rw [← hH1, Array.size_push]
  have e1 : H1[H.size]? = some (arrV cA n.toNatClampNeg (fun _ => .null)) := by rw [← hH1, Array.getElem?_push_size, ← arrV_new]
  have o1 : ∀ q : Nat, q < H.size → H1[q]? = H[q]? := fun q hq => by rw [← hH1, Array.getElem?_push, if_neg (Nat.ne_of_lt hq)]
  have hAr : ArrOfT s cA (.array t) := fun N z => ⟨(fun k h => by cases h), kA, f2, comp, f3⟩
  have hk : ∀ (k : Nat) (x : Nat × va_E), ws[k]? = some x → H1[x.1]? = H[x.1]? := fun k x hx => o1 x.1 ((hP k x hx).lt)
  refine kk H.size cA H1 ⟨hK.1, fun k x hx => ?_⟩ ((hP.kept hk).app (fun k x hx => ?_)) (hD.push hP rfl (hA _ hS.1)) ⟨Nat.le_trans hS.1 (by omega), fun x h1 h2 => (o1 x (Nat.lt_of_lt_of_le h1 hS.1)).trans (hS.2.1 x h1 h2), hS.2.2⟩
  · by_cases hl : k < tys.length
    · rw [List.getElem?_append_left hl] at hx
      exact hK.2 k x hx
    · rw [List.getElem?_append_right (by omega)] at hx
      have hz : k - tys.length < 1 := (List.getElem?_eq_some_iff.mp hx).1
      rw [show k - tys.length = 0 by omega] at hx
      cases hx
      exact ⟨hAr, f1⟩
  · have hz : k < 1 := (List.getElem?_eq_some_iff.mp hx).1
    rw [show k = 0 by omega] at hx
    cases hx
    exact e1
theorem P_defs_ok {ρ : List Nat} : ∀ {fs : List Value}, (∀ j, j < fs.length → P_v [] (fs.getD j .null) (fs.getD j .null)) → P_vs ρ fs fs
  | [], _ => trivial
  | v :: fs, h => by
    refine ⟨(h 0 (by simp)).mono (fun i q hq => by simp at hq), P_defs_ok fun j hj => ?_⟩
    have := h (j + 1) (by simpa using hj)
    simpa using this
set_option maxHeartbeats 4000000 in
theorem P_new_ok (hC : P_Cx Tb own ini cc nL p s m args meth c) (hW : P_Wd cl aty nro stat D A s H locs ro ws tys h.1) (hcl : P_clok cl Z Tb) (hat : P_atok cl aty) {i : Instr} (hi : (∃ idx, i = .new idx) ∨ (∃ t, i = .newarray t) ∨ ∃ idx, i = .anewarray idx) (hok : P_iok cl aty Z Tb stat own ini i r1 r2) (hdg : decode cc pc = .ok (i, P_len i)) (hst : P_vs (P_rho ro ws) st st') (hh : P_hp Z nro i r1 r2 st h = some (st1, h1)) (hrc : cells + h1.2.1 ≤ R.cells + h.2.1) (hrs : slots + h1.2.2 ≤ R.slots + h.2.2)
    (k : ∀ (H1 : Heap) (ws1 : va_W) (tys1 : List (ClassId × FieldType)) (ws' : List Value) (cells1 slots1 : Nat), P_sub (P_rho ro ws) (P_rho ro ws1) → P_Wd cl aty nro stat D A s H1 locs ro ws1 tys1 h1.1 → cells1 + h.2.1 = cells + h1.2.1 → slots1 + h.2.2 = slots + h1.2.2 → P_vs (P_rho ro ws1) st1 ws' → W p l e R s m args below meth c H1 locs cells1 slots1 Q (F0 m (pc + P_len i) ls ws')) : W p l e R s m args below meth c H locs cells slots Q (F0 m pc ls st') := by
  obtain ⟨hx, hb, -, hown, hts, -, -⟩ := hC
  obtain ⟨a0, a1, a2, a3, -, a4⟩ := hat
  rcases hi with ⟨idx, rfl⟩ | ⟨t, rfl⟩ | ⟨idx, rfl⟩
  · simp only [P_hp] at hh
    split at hh
    · next hlt =>
      cases hh
      obtain ⟨C, T, N, g1, g2, g3, g4⟩ := hok hlt
      obtain ⟨c1, c2, c3, c4, c5⟩ := hcl _ C T N g1
      simp only [P_add] at hrc hrs
      refine va_new (D := D) (cl := cl) (fs := Z.1 r2) hx hb hts c1 (Z.2.2 r2) c2 hown (hts _ g2) (hts _ g3) (hts _ g4) hW.2.1 hW.1 hW.2.2.1 hW.2.2.2.1 hW.2.2.2.2.1 g1 (fun j hj => (c5 j hj).1) (by omega) (by rw [← c4]; omega) hdg (fun q H1 hP hD hS => ?_)
      have hW1 := hW.push (tys1 := []) (c := .inr (r2, Z.1 r2)) (by rw [List.append_nil]; exact hW.2.1) hP hD hS ⟨_, rfl, P_defs_ok fun j hj => (c5 j (by rw [← c4]; exact hj)).2⟩
      exact k H1 _ _ _ _ _ (P_sub_push ro ws _) hW1 (by simp only [P_add]; omega) (by simp only [P_add]; omega) ⟨hW.new_v q _, hst.mono (P_sub_push ro ws _)⟩
    · cases hh
  · simp only [P_hp] at hh
    split at hh
    · next n r =>
      split at hh
      · next hlt =>
        simp only [P_new] at hh
        split at hh
        · cases hh
        · next hn =>
          cases hh
          obtain ⟨w0, ws0, rfl, h0, h0'⟩ := P_vs_cons hst
          cases h0
          obtain ⟨g1, g2⟩ := hok
          simp only [P_add] at hrc hrs
          have hn0 : ¬ n < 0 := fun q => hn (Or.inl q)
          have hn1 : n.toNatClampNeg ≤ 65536 := Nat.le_of_not_lt fun q => hn (Or.inr q)
          have kk : ∀ (g : (Nat → Int32) ⊕ (Nat → Int64) ⊕ (Nat → UInt32) ⊕ (Nat → UInt64) ⊕ (Nat → Option Nat)), (∀ cA : ClassId, P_c aty (tys ++ [(cA, aty r2)]) (P_rho ro ws) (P_row r2 n.toNatClampNeg) (.inl (cA, n.toNatClampNeg, g))) → ∀ (q : Nat) (cA : ClassId) (H1 : Heap), va_K D cl (tys ++ [(cA, aty r2)]) s → va_P D cl (ws ++ [(q, .inl (cA, n.toNatClampNeg, g))]) H1 → va_D A (ws ++ [(q, .inl (cA, n.toNatClampNeg, g))]) → va_S A s.heap H1 locs → W p l e R s m args below meth c H1 locs (cells + 1) (slots + n.toNatClampNeg) Q (F0 m (pc + 2) ls (.ref q :: ws0)) := by
            intro g hg q cA H1 hK hP hD hS
            have hW1 := hW.push (c := P_row r2 n.toNatClampNeg) hK hP hD hS (hg cA)
            exact k H1 _ _ _ _ _ (P_sub_push ro ws _) hW1 (by simp only [P_add]; omega) (by simp only [P_add]; omega) ⟨hW.new_v q _, h0'.mono (P_sub_push ro ws _)⟩
          have hcb : componentBytes (aty r2) ≤ 8 := by
            rcases (by omega : r2 = 0 ∨ r2 = 1 ∨ r2 = 2 ∨ r2 = 3) with e | e | e | e <;> rw [e] <;> first | (rw [a0]; decide) | (rw [a1]; decide) | (rw [a2]; decide) | (rw [a3]; decide)
          have hby : n.toNatClampNeg * componentBytes (aty r2) ≤ 536870912 := Nat.le_trans (Nat.mul_le_mul hn1 hcb) (by decide)
          rcases (by omega : r2 = 0 ∨ r2 = 1 ∨ r2 = 2 ∨ r2 = 3) with e | e | e | e
          · subst e
            exact va_newa (atype := t) (D := D) (cl := cl) (a0 := (n.toNatClampNeg, .inl (fun _ => 0))) hx hb (by rw [g1]; exact hts _ g2) g1 hW.2.1 hW.1 hW.2.2.1 hW.2.2.2.1 hW.2.2.2.2.1 (fun cA => by rw [a0]; rfl) hn0 rfl hby (by omega) (by omega) hdg (fun q cA H1 => kk _ (fun cA => ⟨cA, tys.length, _, by simp, rfl, rfl⟩) q cA H1)
          · subst e
            exact va_newa (atype := t) (D := D) (cl := cl) (a0 := (n.toNatClampNeg, .inr (.inl (fun _ => 0)))) hx hb (by rw [g1]; exact hts _ g2) g1 hW.2.1 hW.1 hW.2.2.1 hW.2.2.2.1 hW.2.2.2.2.1 (fun cA => by rw [a1]; rfl) hn0 rfl hby (by omega) (by omega) hdg (fun q cA H1 => kk _ (fun cA => ⟨cA, tys.length, _, by simp, rfl, rfl⟩) q cA H1)
          · subst e
            exact va_newa (atype := t) (D := D) (cl := cl) (a0 := (n.toNatClampNeg, .inr (.inr (.inr (.inl (fun _ => 0)))))) hx hb (by rw [g1]; exact hts _ g2) g1 hW.2.1 hW.1 hW.2.2.1 hW.2.2.2.1 hW.2.2.2.2.1 (fun cA => by rw [a2]; rfl) hn0 rfl hby (by omega) (by omega) hdg (fun q cA H1 => kk _ (fun cA => ⟨cA, tys.length, _, by simp, rfl, rfl⟩) q cA H1)
          · subst e
            exact va_newa (atype := t) (D := D) (cl := cl) (a0 := (n.toNatClampNeg, .inl (fun _ => 0))) hx hb (by rw [g1]; exact hts _ g2) g1 hW.2.1 hW.1 hW.2.2.1 hW.2.2.2.1 hW.2.2.2.2.1 (fun cA => by rw [a3]; rfl) hn0 rfl hby (by omega) (by omega) hdg (fun q cA H1 => kk _ (fun cA => ⟨cA, tys.length, _, by simp, rfl, rfl⟩) q cA H1)
      · cases hh
    · cases hh
  · simp only [P_hp] at hh
    split at hh
    · next n r =>
      split at hh
      · next hlt =>
        simp only [P_new] at hh
        split at hh
        · cases hh
        · next hn =>
          cases hh
          obtain ⟨w0, ws0, rfl, h0, h0'⟩ := P_vs_cons hst
          cases h0
          simp only [P_add] at hrc hrs
          have hn0 : ¬ n < 0 := fun q => hn (Or.inl q)
          have hn1 : n.toNatClampNeg ≤ 65536 := Nat.le_of_not_lt fun q => hn (Or.inr q)
          have hby : n.toNatClampNeg * 4 ≤ 536870912 := Nat.le_trans (Nat.mul_le_mul_right 4 hn1) (by decide)
          have hrow : P_row r2 n.toNatClampNeg = .inl (r2, n.toNatClampNeg, .inr (.inr (.inr (.inr (fun _ => none))))) := by
            obtain ⟨j, rfl⟩ : ∃ j, r2 = j + 4 := ⟨r2 - 4, by omega⟩
            rfl
          have kk : ∀ (q : Nat) (cA : ClassId) (H1 : Heap), va_K D cl (tys ++ [(cA, aty r2)]) s → va_P D cl (ws ++ [(q, .inl (cA, n.toNatClampNeg, .inr (.inr (.inr (.inr (fun _ => none))))))]) H1 → va_D A (ws ++ [(q, .inl (cA, n.toNatClampNeg, .inr (.inr (.inr (.inr (fun _ => none))))))]) → va_S A s.heap H1 locs → W p l e R s m args below meth c H1 locs (cells + 1) (slots + n.toNatClampNeg) Q (F0 m (pc + 3) ls (.ref q :: ws0)) := by
            intro q cA H1 hK hP hD hS
            have hW1 := hW.push (c := P_row r2 n.toNatClampNeg) hK hP hD hS (by rw [hrow]; exact ⟨cA, tys.length, _, by simp, rfl, _, rfl, fun j => Or.inl ⟨rfl, rfl⟩⟩)
            exact k H1 _ _ _ _ _ (P_sub_push ro ws _) hW1 (by simp only [P_add]; omega) (by simp only [P_add]; omega) ⟨hW.new_v q _, h0'.mono (P_sub_push ro ws _)⟩
          rcases hok with ⟨C, g1, g2, g3⟩ | ⟨t, g1, g2, g3⟩
          · exact va_newq (D := D) (cl := cl) hx hb hown (hts _ g2) (va_AO.of (hts _ g3)) hW.2.1 hW.1 hW.2.2.1 hW.2.2.2.1 hW.2.2.2.2.1 hn0 rfl hby (by omega) (by omega) hdg (fun q cA H1 hK => kk q cA H1 (by rw [g1]; exact hK))
          · exact P_newr (D := D) (cl := cl) hx hb hown (hts _ g2) (hts _ g3) hW.2.1 hW.1 hW.2.2.1 hW.2.2.2.1 hW.2.2.2.2.1 hn0 rfl hby (by omega) (by omega) hdg (fun q cA H1 hK => kk q cA H1 (by rw [g1]; exact hK))
      · cases hh
    · cases hh
end NW
end
section
/-! THE TIE, 8: entries, the JDK's own, ends -/
theorem P_cs_ok {ρ : List Nat} : ∀ {vs ws : List Value}, P_vs ρ vs ws → (ws.map fun v => v.category).sum = P_cs vs
  | [], [], _ => rfl
  | v :: vs, w :: ws, h => by
    rw [List.map_cons, List.sum_cons, P_cs_ok h.2, h.1.cat]
    cases v <;> simp only [P_cs, Value.category] <;> omega
  | [], _ :: _, h => h.elim
  | _ :: _, [], h => h.elim
theorem P_vs.take {ρ : List Nat} : ∀ {n : Nat} {vs ws : List Value}, P_vs ρ vs ws → P_vs ρ (vs.take n) (ws.take n)
  | 0, _, _, _ => trivial
  | _ + 1, [], [], _ => trivial
  | n + 1, _ :: _, _ :: _, h => ⟨h.1, P_vs.take (n := n) h.2⟩
  | _ + 1, [], _ :: _, h => h.elim
  | _ + 1, _ :: _, [], h => h.elim
theorem P_vs.dropn {ρ : List Nat} : ∀ {n : Nat} {vs ws : List Value}, P_vs ρ vs ws → P_vs ρ (vs.drop n) (ws.drop n)
  | 0, _, _, h => h
  | _ + 1, [], [], _ => trivial
  | n + 1, _ :: _, _ :: _, h => P_vs.dropn (n := n) h.2
  | _ + 1, [], _ :: _, h => h.elim
  | _ + 1, _ :: _, [], h => h.elim
theorem P_vs.app {ρ : List Nat} : ∀ {v1 w1 v2 w2 : List Value}, P_vs ρ v1 w1 → P_vs ρ v2 w2 → P_vs ρ (v1 ++ v2) (w1 ++ w2)
  | [], [], _, _, _, h => h
  | _ :: _, _ :: _, _, _, h, h2 => ⟨h.1, P_vs.app h.2 h2⟩
  | [], _ :: _, _, _, h, _ => h.elim
  | _ :: _, [], _, _, h, _ => h.elim
theorem P_vs.rev {ρ : List Nat} : ∀ {v1 w1 : List Value}, P_vs ρ v1 w1 → P_vs ρ v1.reverse w1.reverse
  | [], [], _ => trivial
  | v :: vs, w :: ws, h => by
    rw [List.reverse_cons, List.reverse_cons]
    exact (P_vs.rev h.2).app ⟨h.1, trivial⟩
  | [], _ :: _, h => h.elim
  | _ :: _, [], h => h.elim
/-- how the arguments lie in the locals -/
theorem P_args_at {ρ : List Nat} : ∀ {as as' : List Value} (_ : P_vs ρ as as') (b k : Nat) (v : Value), (P_args as)[k]? = some v → v = P_un ∨ ∃ v', (b + k, v') ∈ lv_args b as' ∧ P_v ρ v v'
  | [], [], _, b, k, v, h => by simp [P_args] at h
  | a :: as, w :: ws, hv, b, k, v, h => by
    by_cases h2 : a.category = 2
    · have e : P_args (a :: as) = a :: P_un :: P_args as := by cases a <;> simp [Value.category] at h2 <;> rfl
      have e2 : lv_args b (w :: ws) = (b, w) :: lv_args (b + 2) ws := by
        have hc := hv.1.cat
        rw [h2] at hc
        simp [lv_args, hc]
      rw [e] at h
      rw [e2]
      match k with
      | 0 => cases h; exact Or.inr ⟨w, List.mem_cons_self, hv.1⟩
      | 1 => cases h; exact Or.inl rfl
      | k + 2 =>
        rcases P_args_at hv.2 (b + 2) k v (by simpa using h) with q | ⟨v', h3, h4⟩
        · exact Or.inl q
        · exact Or.inr ⟨v', List.mem_cons_of_mem _ (by rwa [show b + (k + 2) = b + 2 + k by omega]), h4⟩
    · have h1 : a.category = 1 := by rcases lv_cat a with q | q; exact q; exact absurd q h2
      have e : P_args (a :: as) = a :: P_args as := by cases a <;> simp [Value.category] at h2 <;> rfl
      have e2 : lv_args b (w :: ws) = (b, w) :: lv_args (b + 1) ws := by
        have hc := hv.1.cat
        rw [h1] at hc
        simp [lv_args, hc]
      rw [e] at h
      rw [e2]
      match k with
      | 0 => cases h; exact Or.inr ⟨w, List.mem_cons_self, hv.1⟩
      | k + 1 =>
        rcases P_args_at hv.2 (b + 1) k v (by simpa using h) with q | ⟨v', h3, h4⟩
        · exact Or.inl q
        · exact Or.inr ⟨v', List.mem_cons_of_mem _ (by rwa [show b + (k + 1) = b + 1 + k by omega]), h4⟩
  | [], _ :: _, hv, _, _, _, _ => hv.elim
  | _ :: _, [], hv, _, _, _, _ => hv.elim
theorem P_fit_len : ∀ (n : Nat) (L : List Value), (P_fit n L).length = n
  | 0, _ => rfl
  | n + 1, [] => congrArg (· + 1) (P_fit_len n [])
  | n + 1, _ :: vs => congrArg (· + 1) (P_fit_len n vs)
theorem P_fit_at : ∀ (n : Nat) (L : List Value) (k : Nat) (v : Value), (P_fit n L)[k]? = some v → v = P_un ∨ L[k]? = some v
  | 0, _, k, v, h => by simp [P_fit] at h
  | n + 1, [], 0, v, h => by cases h; exact Or.inl rfl
  | n + 1, [], k + 1, v, h => P_fit_at n [] k v (by simpa [P_fit] using h)
  | n + 1, x :: vs, 0, v, h => by cases h; exact Or.inr rfl
  | n + 1, x :: vs, k + 1, v, h => by simpa using P_fit_at n vs k v (by simpa [P_fit] using h)
theorem P_args_len {ρ : List Nat} : ∀ {as as' : List Value}, P_vs ρ as as' → (lg_sl as').length = (P_args as).length
  | [], [], _ => rfl
  | a :: as, w :: ws, hv => by
    have ih := P_args_len hv.2
    have hc := hv.1.cat
    by_cases h2 : a.category = 2
    · have e : P_args (a :: as) = a :: P_un :: P_args as := by cases a <;> simp [Value.category] at h2 <;> rfl
      rw [h2] at hc
      rw [e]
      simp only [lg_sl, List.flatMap_cons, hc, if_true, List.length_append, List.length_cons, List.length_nil]
      have : (List.flatMap (fun v : Value => if v.category = 2 then [Slot.val v, Slot.second] else [Slot.val v]) ws).length = (P_args as).length := ih
      omega
    · have e : P_args (a :: as) = a :: P_args as := by cases a <;> simp [Value.category] at h2 <;> rfl
      have h2' : ¬ w.category = 2 := by rw [hc]; exact h2
      rw [e]
      simp only [lg_sl, List.flatMap_cons, if_neg h2', List.length_append, List.length_cons, List.length_nil]
      have : (List.flatMap (fun v : Value => if v.category = 2 then [Slot.val v, Slot.second] else [Slot.val v]) ws).length = (P_args as).length := ih
      omega
  | [], _ :: _, hv => hv.elim
  | _ :: _, [], hv => hv.elim
theorem P_entry {ρ : List Nat} {as as' : List Value} {n : Nat} (hv : P_vs ρ as as') (hn : (P_args as).length ≤ n) : P_L ρ (P_fit n (P_args as)) ((lg_sl as' ++ List.replicate (n - (lg_sl as').length) Slot.unset).toArray) n := by
  refine ⟨P_fit_len _ _, lv_args 0 as', lv_entry as' (by rw [P_args_len hv]; exact hn), fun k v hk => ?_⟩
  rcases P_fit_at _ _ _ _ hk with q | q
  · exact Or.inl q
  · rcases P_args_at hv 0 k v q with q2 | ⟨v', h1, h2⟩
    · exact Or.inl q2
    · exact Or.inr ⟨v', by rwa [Nat.zero_add] at h1, h2⟩
section EN
variable {p : Program} {l : Launch} {e : Env} {R : Room} {s : State} {m : MethodId} {args : Array Value} {below : List Frame} {meth : Method} {c : Code} {H : Heap} {locs : List Loc} {cells slots : Nat} {Q : State → Prop} {cc : ByteArray} {pc nL : Nat} {ls : Array Slot} {rest : List Value} {L L1 st st1 st' : List Value} {ρ : List Nat}
variable {Tb : List Jvm.Cond} {own : String} {ini : Bool} {r1 : Int} {r2 : Nat}
/-- what the tables say of the calls of 9000, 9001, 9002 -/
def P_jok (Tb : List Jvm.Cond) (own : String) (i : Instr) (r2 : Nat) : Prop := match i with
  | .invokespecial idx => r2 = 9000 → Jvm.Cond.methodLink own idx Lib.objectInit ∈ Tb ∧ Jvm.Cond.instanceMethod Lib.objectInit ∈ Tb ∧ Jvm.Cond.code Lib.objectInit ⟨#[0xb1]⟩ 1 none ∈ Tb
  | .invokestatic idx => (r2 = 9001 → Jvm.Cond.methodLink own idx Lib.Math.max.name ∈ Tb ∧ Jvm.Cond.static Lib.Math.max.name ∈ Tb ∧ Jvm.Cond.initialized "java/lang/Math" ∈ Tb ∧ Jvm.Cond.code Lib.Math.max.name Lib.Math.max.code 2 (some .int) ∈ Tb) ∧ (r2 = 9002 → Jvm.Cond.methodLink own idx Lib.Math.min.name ∈ Tb ∧ Jvm.Cond.static Lib.Math.min.name ∈ Tb ∧ Jvm.Cond.initialized "java/lang/Math" ∈ Tb ∧ Jvm.Cond.code Lib.Math.min.name Lib.Math.min.code 2 (some .int) ∈ Tb)
  | _ => True
set_option maxHeartbeats 400000 in
theorem P_jdk_ok (hC : P_Cx Tb own ini cc nL p s m args meth c) (hL : P_L ρ L ls nL) {i : Instr} (hok : P_jok Tb own i r2) (hdg : decode cc pc = .ok (i, 3)) (hst : P_vs ρ st st') (hh : P_jdk i r2 st = some st1) (hf : 1 ≤ R.frames) (hl : 100 ≤ R.locals) (hrc : cells ≤ R.cells) (hrs : slots ≤ R.slots)
    (k : ∀ ws' : List Value, P_vs ρ st1 ws' → W p l e R s m args below meth c H locs cells slots Q (F0 m (pc + 3) ls ws')) : W p l e R s m args below meth c H locs cells slots Q (F0 m pc ls st') := by
  obtain ⟨hx, hb, hml, hown, hts, -, -⟩ := hC
  have hsz : ls.size = c.maxLocals := by
    obtain ⟨-, l0, h1, -⟩ := hL
    rw [hml]; exact h1.1
  unfold P_jdk at hh
  split at hh
  · next idx =>
    split at hh
    · next hr =>
      split at hh
      · next a r =>
        split at hh
        · next hcs =>
          cases hh
          obtain ⟨w, ws, rfl, ⟨q, h2, rfl⟩, h3⟩ := P_vs_cons hst
          obtain ⟨g1, g2, g3⟩ := hok hr
          have hcat := P_cs_ok h3
          exact W.objInit (g := F0 m pc ls (.ref q :: ws)) (a := q) (rest := ws) (idx := idx) hx hb hown (hts _ g1) (hts _ g2) (hts _ g3) rfl hsz rfl hdg hf (by show 2 * 0 + (ws.map fun v => v.category).sum + 12 ≤ R.locals; omega) (k _ h3)
        · cases hh
      · cases hh
    · cases hh
  · next idx =>
    split at hh
    · next y x r =>
      split at hh
      · next hcs =>
        obtain ⟨w, ws, rfl, h2, h3⟩ := P_vs_cons hst
        obtain ⟨w2, ws2, rfl, h4, h5⟩ := P_vs_cons h3
        cases h2; cases h4
        have hcat := P_cs_ok h5
        split at hh
        · next hr =>
          cases hh
          obtain ⟨g1, g2, g3, g4⟩ := hok.1 hr
          exact va_mmax hx hb hsz.symm hown (hts _ g1) (hts _ g2) (hts _ g3) (hts _ g4) hf (by omega) hrc hrs hdg (k _ ⟨rfl, h5⟩)
        · split at hh
          · next hr =>
            cases hh
            obtain ⟨g1, g2, g3, g4⟩ := hok.2 hr
            exact va_mmin hx hb hsz.symm hown (hts _ g1) (hts _ g2) (hts _ g3) (hts _ g4) hf (by omega) hrc hrs hdg (k _ ⟨rfl, h5⟩)
          · cases hh
      · cases hh
    · cases hh
  · cases hh
/-- a pure result and the machine's -/
def P_vo (ρ : List Nat) (v v' : Option Value) : Prop := match v, v' with
  | none, none => True
  | some a, some b => P_v ρ a b
  | _, _ => False
set_option maxHeartbeats 4000000 in
theorem P_ret_ok {Qc : Array Value → State → Outcome → State → Prop} {free : Addr → Prop} (hx : p.tables.exec = Jvm.exec) (hb : c.code = cc) {rt : Option FieldType} (hr : meth.sig.returnType = rt) (hlocks : meth.locks = false) {i : Instr} {v : Option Value} (hdg : decode cc pc = .ok (i, 1)) (hst : P_vs ρ st st') (hh : P_ret rt i st = some v)
    (hq : ∀ (v' : Option Value) (t : State), P_vo ρ v v' → t.heap = H → s.WarmedH t.vm → Qc args s (.returned v') t) (hf : ∀ q ∈ locs, free q.base) : W p l e R s m args below meth c H locs cells slots (MQ below Qc args s cells slots free) (F0 m pc ls st') := by
  unfold P_ret at hh
  split at hh
  · split at hh
    · cases hh
      rw [P_vs_nil hst]
      exact W.vret hx hb hr (fun t h1 h2 => hq none t trivial h1 h2) hf hdg
    · cases hh
  · next t =>
    split at hh
    · next x =>
      split at hh
      · next hfit =>
        cases hh
        obtain ⟨w, ws, rfl, h2, h3⟩ := P_vs_cons hst
        cases P_vs_nil h3
        cases h2
        exact W.zret hx hb hr (P_fits_ok (ρ := ρ) hfit rfl).1 (fun t h1 h2 => hq (some (.int x)) t rfl h1 h2) hf hdg
      · cases hh
    · cases hh
  · split at hh
    · next x =>
      cases hh
      obtain ⟨w, ws, rfl, h2, h3⟩ := P_vs_cons hst
      cases P_vs_nil h3
      cases h2
      exact W.lret hx hb hr (fun t h1 h2 => hq (some (.long x)) t rfl h1 h2) hf hdg
    · cases hh
  · split at hh
    · next x =>
      cases hh
      obtain ⟨w, ws, rfl, h2, h3⟩ := P_vs_cons hst
      cases P_vs_nil h3
      cases h2
      exact W.dret hx hb hr (fun t h1 h2 => hq (some (.double x)) t rfl h1 h2) hf hdg
    · cases hh
  · next t =>
    have hrt : ∀ v : Value, P_fits t v = true → (v = .null ∨ ∃ a, v = .ref a) → (∃ n, t = .object n) ∨ ∃ t', t = .array t' := by
      intro v h1 h2
      cases t <;> first | (exact Or.inl ⟨_, rfl⟩) | (exact Or.inr ⟨_, rfl⟩) | (rcases h2 with rfl | ⟨a, rfl⟩ <;> simp [P_fits, fits] at h1)
    split at hh
    · next x =>
      split at hh
      · next hfit =>
        cases hh
        obtain ⟨w, ws, rfl, h2, h3⟩ := P_vs_cons hst
        cases P_vs_nil h3
        have h4 : P_v ρ (.ref x) w := h2
        obtain ⟨q, hq2, rfl⟩ := h2
        exact W.aret hx hb hr (hrt _ hfit (Or.inr ⟨_, rfl⟩)) (Or.inr ⟨_, rfl⟩) (fun t h1 h2 => hq (some (.ref q)) t h4 h1 h2) hf hdg
      · cases hh
    · split at hh
      · next hfit =>
        cases hh
        obtain ⟨w, ws, rfl, h2, h3⟩ := P_vs_cons hst
        cases P_vs_nil h3
        cases h2
        exact W.aret hx hb hr (hrt _ hfit (Or.inl rfl)) (Or.inl rfl) (fun t h1 h2 => hq (some .null) t rfl h1 h2) hf hdg
      · cases hh
    · cases hh
  · cases hh
end EN
end
