/-! THE LITTLE MACHINE: the bytecode of class, reference and law over a heap of plain numbers; what it does, the machine does (06, 07) -/
/-- its heap: the next address; slots made; kind and size of each cell (0 none, 1 to 7 an array, 8 the script, 20 + c an object of class c, 200 + i the bytes of text i; address 0 keeps the texts' addresses); ints; longs; references -/
abbrev jH : Type := Nat × Nat × (Nat → Nat × Nat) × (Nat → Nat → Int32) × (Nat → Nat → Int64) × (Nat → Nat → Option Nat)
def jnx (h : jH) : Nat := h.1
def jsl (h : jH) : Nat := h.2.1
def jK (h : jH) : Nat → Nat × Nat := h.2.2.1
def jI (h : jH) : Nat → Nat → Int32 := h.2.2.2.1
def jJ (h : jH) : Nat → Nat → Int64 := h.2.2.2.2.1
def jR (h : jH) : Nat → Nat → Option Nat := h.2.2.2.2.2
def jup {α : Type} (f : Nat → Nat → α) (a k : Nat) (v : α) : Nat → Nat → α := fun b j => if b = a then (if j = k then v else f b j) else f b j
def jur {α : Type} (f : Nat → α) (a : Nat) (v : α) : Nat → α := fun b => if b = a then v else f b
def jwI (h : jH) (a k : Nat) (v : Int32) : jH := (jnx h, jsl h, jK h, jup (jI h) a k v, jJ h, jR h)
def jwJ (h : jH) (a k : Nat) (v : Int64) : jH := (jnx h, jsl h, jK h, jI h, jup (jJ h) a k v, jR h)
def jwR (h : jH) (a k : Nat) (v : Option Nat) : jH := (jnx h, jsl h, jK h, jI h, jJ h, jup (jR h) a k v)
/-- a whole row of ints -/
def jwr (h : jH) (a : Nat) (f : Nat → Int32) : jH := (jnx h, jsl h, jK h, jur (jI h) a f, jJ h, jR h)
/-- a new cell -/
def jnew (h : jH) (kd n : Nat) : jH := (jnx h + 1, jsl h + n, jur (jK h) (jnx h) (kd, n), jur (jI h) (jnx h) (fun _ => 0), jur (jJ h) (jnx h) (fun _ => 0), jur (jR h) (jnx h) (fun _ => none))
def jN (ci : Nat) : Nat := match vwCl[ci]? with
  | some r => r.2.2
  | none => 0
/-- which map a field's type reads: 0 ints, 1 longs, 2 references, 3 none -/
def jfk (t : FieldType) : Nat := match t with
  | .int => 0
  | .boolean => 0
  | .byte => 0
  | .long => 1
  | .object _ => 2
  | .array _ => 2
  | _ => 3
def jfv (ci k : Nat) (h : jH) (a : Nat) : Value := match jfk (jty ci k) with
  | 0 => .int (jI h a k)
  | 1 => .long (jJ h a k)
  | _ => va_rf (jR h a k)
def jfs (ci : Nat) (h : jH) (a : Nat) : List Value := (List.range (jN ci)).map (fun k => jfv ci k h a)
/-! what an instruction does: to the stack alone -/
def jcmp (c : Jvm.ClassFile.Cond) (x y : Int32) : Bool := match c with
  | .eq => decide (x = y)
  | .ne => decide (¬ x = y)
  | .lt => decide (x < y)
  | .ge => decide (y ≤ x)
  | .gt => decide (y < x)
  | .le => decide (x ≤ y)
def jcat (st : List Value) : Nat := (st.map fun v => v.category).sum
def jalu (i : Jvm.ClassFile.Instr) (st : List Value) : Option (List Value) := match i, st with
  | .iconst n, r => some (.int (Int32.ofInt n) :: r)
  | .bipush n, r => some (.int (Int8.ofInt n).toInt32 :: r)
  | .sipush n, r => some (.int (Int16.ofInt n).toInt32 :: r)
  | .lconst n, r => some (.long (Int64.ofNat (n : Nat)) :: r)
  | .aconst_null, r => some (.null :: r)
  | .iadd, .int y :: .int x :: r => some (.int (x + y) :: r)
  | .isub, .int y :: .int x :: r => some (.int (x - y) :: r)
  | .imul, .int y :: .int x :: r => some (.int (x * y) :: r)
  | .iand, .int y :: .int x :: r => some (.int (x &&& y) :: r)
  | .ior, .int y :: .int x :: r => some (.int (x ||| y) :: r)
  | .ixor, .int y :: .int x :: r => some (.int (x ^^^ y) :: r)
  | .ishl, .int y :: .int x :: r => some (.int (x <<< (y &&& 31)) :: r)
  | .ishr, .int y :: .int x :: r => some (.int (x >>> (y &&& 31)) :: r)
  | .iushr, .int y :: .int x :: r => some (.int (x.toUInt32 >>> (y.toUInt32 &&& Int32.toUInt32 31)).toInt32 :: r)
  | .idiv, .int y :: .int x :: r => if y = 0 then none else some (.int (x / y) :: r)
  | .irem, .int y :: .int x :: r => if y = 0 then none else some (.int (x - x / y * y) :: r)
  | .ladd, .long y :: .long x :: r => some (.long (x + y) :: r)
  | .lsub, .long y :: .long x :: r => some (.long (x - y) :: r)
  | .lmul, .long y :: .long x :: r => some (.long (x * y) :: r)
  | .land, .long y :: .long x :: r => some (.long (x &&& y) :: r)
  | .lor, .long y :: .long x :: r => some (.long (x ||| y) :: r)
  | .ldiv, .long y :: .long x :: r => if y = 0 then none else some (.long (x / y) :: r)
  | .lrem, .long y :: .long x :: r => if y = 0 then none else some (.long (x - x / y * y) :: r)
  | .lshl, .int y :: .long x :: r => some (.long (x <<< (y.toInt64 &&& 63)) :: r)
  | .lcmp, .long y :: .long x :: r => some (.int (lg_cmp x y) :: r)
  | .i2l, .int x :: r => some (.long x.toInt64 :: r)
  | .l2i, .long x :: r => some (.int x.toInt32 :: r)
  | .i2c, .int x :: r => some (.int (x.toUInt32 % 65536).toInt32 :: r)
  | .i2b, .int x :: r => some (.int x.toInt8.toInt32 :: r)
  | .dup, v :: r => if v.category = 1 then some (v :: v :: r) else none
  | .pop, v :: r => if v.category = 1 then some r else none
  | .dup2, v :: w :: r => if v.category = 1 ∧ w.category = 1 then some (v :: w :: v :: w :: r) else none
  | _, _ => none
def jalen (i : Jvm.ClassFile.Instr) : Nat := match i with
  | .bipush _ => 2
  | .sipush _ => 3
  | _ => 1
/-- constants of the pool -/
def jldc (o : Nat) (i : Jvm.ClassFile.Instr) (len : Nat) : Option Value := match i, len with
  | .ldc x, 2 => (jKI.find? (fun q => q.1 == o && q.2.1 == x)).map (fun q => .int q.2.2.1)
  | .ldc_w x, 3 => (jKI.find? (fun q => q.1 == o && q.2.1 == x)).map (fun q => .int q.2.2.1)
  | .ldc2_w x, 3 => (jKJ.find? (fun q => q.1 == o && q.2.1 == x)).map (fun q => .long q.2.2.1)
  | _, _ => none
/-- locals: what is read -/
def jlod (i : Jvm.ClassFile.Instr) (len : Nat) (lv : List (Option Value)) : Option Value := match i, len with
  | .iload x, 2 => match lv.getD x none with
    | some (.int v) => some (.int v)
    | _ => none
  | .iload_n x, 1 => match lv.getD (x : Nat) none with
    | some (.int v) => some (.int v)
    | _ => none
  | .lload x, 2 => match lv.getD x none with
    | some (.long v) => some (.long v)
    | _ => none
  | .lload_n x, 1 => match lv.getD (x : Nat) none with
    | some (.long v) => some (.long v)
    | _ => none
  | .aload x, 2 => match lv.getD x none with
    | some (.ref v) => some (.ref v)
    | some .null => some .null
    | _ => none
  | .aload_n x, 1 => match lv.getD (x : Nat) none with
    | some (.ref v) => some (.ref v)
    | some .null => some .null
    | _ => none
  | _, _ => none
/-- a long in the place before is spoilt by a store -/
def jcl1 (o : Option Value) : Option Value := match o with
  | some (.long _) => none
  | some (.double _) => none
  | x => x
def jclr (lv : List (Option Value)) (i : Nat) : List (Option Value) := match i with
  | 0 => lv
  | j + 1 => lv.set j (jcl1 (lv.getD j none))
def jst1 (lv : List (Option Value)) (i : Nat) (v : Value) : Option (List (Option Value)) := if i < lv.length then some ((jclr lv i).set i (some v)) else none
def jst2 (lv : List (Option Value)) (i : Nat) (v : Value) : Option (List (Option Value)) := if i + 1 < lv.length then some (((jclr lv i).set i (some v)).set (i + 1) none) else none
/-- locals: what is stored -/
def jsto (i : Jvm.ClassFile.Instr) (len : Nat) (lv : List (Option Value)) (st : List Value) : Option (List (Option Value) × List Value) := match i, len, st with
  | .istore x, 2, .int v :: r => (jst1 lv x (.int v)).map (fun q => (q, r))
  | .istore_n x, 1, .int v :: r => (jst1 lv (x : Nat) (.int v)).map (fun q => (q, r))
  | .lstore x, 2, .long v :: r => (jst2 lv x (.long v)).map (fun q => (q, r))
  | .lstore_n x, 1, .long v :: r => (jst2 lv (x : Nat) (.long v)).map (fun q => (q, r))
  | .astore x, 2, .ref v :: r => (jst1 lv x (.ref v)).map (fun q => (q, r))
  | .astore_n x, 1, .ref v :: r => (jst1 lv (x : Nat) (.ref v)).map (fun q => (q, r))
  | .astore x, 2, .null :: r => (jst1 lv x .null).map (fun q => (q, r))
  | .astore_n x, 1, .null :: r => (jst1 lv (x : Nat) .null).map (fun q => (q, r))
  | .iinc x n, 3, r => match lv.getD x none with
    | some (.int v) => (jst1 lv x (.int (v + Int32.ofInt n))).map (fun q => (q, r))
    | _ => none
  | _, _, _ => none
/-- branches: where to -/
def jtg (pc : Nat) (off : Int) : Option Nat := if 0 ≤ (pc : Int) + off then some ((pc : Int) + off).toNat else none
def jbr (pc : Nat) (i : Jvm.ClassFile.Instr) (len : Nat) (st : List Value) : Option (Nat × List Value) := match i, st with
  | .goto off, r => if len = 3 then (jtg pc off).map (fun t => (t, r)) else none
  | .ifCond c off, .int x :: r => if len = 3 then (jtg pc off).map (fun t => (if jcmp c x 0 = true then t else pc + 3, r)) else none
  | .if_icmp c off, .int y :: .int x :: r => if len = 3 then (jtg pc off).map (fun t => (if jcmp c x y = true then t else pc + 3, r)) else none
  | .ifnull off, .null :: r => if len = 3 then (jtg pc off).map (fun t => (t, r)) else none
  | .ifnull _, .ref _ :: r => if len = 3 then some (pc + 3, r) else none
  | .ifnonnull _, .null :: r => if len = 3 then some (pc + 3, r) else none
  | .ifnonnull off, .ref _ :: r => if len = 3 then (jtg pc off).map (fun t => (t, r)) else none
  | .tableswitch dflt lo hi offs, .int x :: r => if x.toInt < lo ∨ hi < x.toInt then (jtg pc dflt).map (fun t => (t, r)) else match offs[(x.toInt - lo).toNat]? with
    | some off => (jtg pc off).map (fun t => (t, r))
    | none => none
  | .lookupswitch dflt ps, .int x :: r => if (ps.toList.zip (ps.toList.drop 1)).all (fun (a, next) => a.1 < next.1) = true then (jtg pc (Op.lookupswitch.offset ps.toList dflt x.toInt)).map (fun t => (t, r)) else none
  | _, _ => none
/-- which text it is -/
def jtxt (h : jH) (a : Nat) : Option Nat := (List.range 6).find? (fun i => jR h 0 i == some a)
/-- what is read of the heap -/
def jinb (i : Int32) (n : Nat) : Bool := decide (¬ i < 0) && decide (i.toNatClampNeg < n)
def jrd (k : Nat) (i : Jvm.ClassFile.Instr) (st : List Value) (h : jH) : Option (List Value) := match i, st with
  | .getfield x, .ref a :: r => match jFL.find? (fun q => q.1 == jow k && q.2.1 == x) with
    | some q => if (jK h a).1 = 20 + q.2.2.1 then some (jfv q.2.2.1 q.2.2.2.1 h a :: r) else none
    | none => match jTL.find? (fun q => q.1 == jow k && q.2.1 == x) with
      | some q => match jtxt h a with
        | some i => (match q.2.2.1 with
          | 0 => match jR h 0 (10 + i) with
            | some v => some (.ref v :: r)
            | none => none
          | _ => some (.int 0 :: r))
        | none => none
      | none => none
  | .ldc x, r => match jSL.find? (fun q => q.1 == jow k && q.2.1 == x) with
    | some q => match jR h 0 q.2.2 with
      | some a => some (.ref a :: r)
      | none => none
    | none => none
  | .getstatic x, r => match jGL.find? (fun q => q.1 == jow k && q.2.1 == x) with
    | some q => (match q.2.2.1 with
      | 0 => some (.int 1 :: r)
      | _ => some (va_rf (jR h 0 6) :: r))
    | none => none
  | .iaload, .int j :: .ref a :: r => if ((jK h a).1 = 1 ∨ ((jK h a).1 = 8 ∧ k = jlaw)) ∧ jinb j (jK h a).2 = true then some (.int (jI h a j.toNatClampNeg) :: r) else none
  | .baload, .int j :: .ref a :: r => if ((jK h a).1 = 2 ∨ (jK h a).1 = 3 ∨ (200 ≤ (jK h a).1 ∧ (jK h a).1 < 206)) ∧ jinb j (jK h a).2 = true then some (.int (jI h a j.toNatClampNeg) :: r) else none
  | .laload, .int j :: .ref a :: r => if (jK h a).1 = 4 ∧ jinb j (jK h a).2 = true then some (.long (jJ h a j.toNatClampNeg) :: r) else none
  | .aaload, .int j :: .ref a :: r => if (5 ≤ (jK h a).1 ∧ (jK h a).1 ≤ 7) ∧ jinb j (jK h a).2 = true then some (va_rf (jR h a j.toNatClampNeg) :: r) else none
  | .arraylength, .ref a :: r => if (1 ≤ (jK h a).1 ∧ (jK h a).1 ≤ 7) ∨ ((jK h a).1 = 8 ∧ k = jlaw) ∨ (200 ≤ (jK h a).1 ∧ (jK h a).1 < 206) then some (.int (Int32.ofNat (jK h a).2) :: r) else none
  | .checkcast x, .ref a :: r => if (jXL.any (fun q => q.1 == jow k && q.2.1 == x)) = true ∧ (jK h a).1 = 1 then some (.ref a :: r) else none
  | _, _ => none
def jrln (i : Jvm.ClassFile.Instr) : Nat := match i with
  | .getfield _ => 3
  | .getstatic _ => 3
  | .ldc _ => 2
  | .checkcast _ => 3
  | _ => 1
/-- what is written -/
def jpf (ci k : Nat) (h : jH) (a : Nat) (v : Value) : Option jH := match jty ci k, v with
  | .int, .int x => some (jwI h a k x)
  | .boolean, .int x => if x = 0 ∨ x = 1 then some (jwI h a k x) else none
  | .long, .long x => some (jwJ h a k x)
  | .object _, .ref b => some (jwR h a k (some b))
  | .object _, .null => some (jwR h a k none)
  | .array _, .ref b => some (jwR h a k (some b))
  | .array _, .null => some (jwR h a k none)
  | _, _ => none
def jfin (ci k : Nat) : Bool := match vwCl[ci]? with
  | some r => (r.2.1 k).2.2.2
  | none => true
def jnat (t : Jvm.ClassFile.ArrayType) : Nat := match t with
  | .int => 1
  | .boolean => 2
  | .byte => 3
  | .long => 4
  | _ => 0
def jwt (k : Nat) (i : Jvm.ClassFile.Instr) (st : List Value) (h : jH) : Option (List Value × jH) := match i, st with
  | .putfield x, v :: .ref a :: r => match jFL.find? (fun q => q.1 == jow k && q.2.1 == x) with
    | some q => if (jK h a).1 = 20 + q.2.2.1 ∧ (jfin q.2.2.1 q.2.2.2.1 = false ∨ ((jyn k).name = "<init>" ∧ jow k = q.2.2.1 ∧ q.2.2.2.2.1 = 0)) then (jpf q.2.2.1 q.2.2.2.1 h a v).map (fun h' => (r, h')) else none
    | none => none
  | .iastore, .int x :: .int j :: .ref a :: r => if (jK h a).1 = 1 ∧ jinb j (jK h a).2 = true then some (r, jwI h a j.toNatClampNeg x) else none
  | .bastore, .int x :: .int j :: .ref a :: r => if (jK h a).1 = 2 ∧ jinb j (jK h a).2 = true then some (r, jwI h a j.toNatClampNeg (vp_nar .boolean x)) else if (jK h a).1 = 3 ∧ jinb j (jK h a).2 = true then some (r, jwI h a j.toNatClampNeg (vp_nar .byte x)) else none
  | .lastore, .long x :: .int j :: .ref a :: r => if (jK h a).1 = 4 ∧ jinb j (jK h a).2 = true then some (r, jwJ h a j.toNatClampNeg x) else none
  | .aastore, .ref b :: .int j :: .ref a :: r => if ((5 ≤ (jK h a).1 ∧ (jK h a).1 ≤ 7) ∧ (jK h b).1 = 20 + jarC (jK h a).1) ∧ jinb j (jK h a).2 = true then some (r, jwR h a j.toNatClampNeg (some b)) else none
  | .new x, r => match jNL.find? (fun q => q.1 == jow k && q.2.1 == x) with
    | some q => some (.ref (jnx h) :: r, jnew h (20 + q.2.2.1) (jN q.2.2.1))
    | none => none
  | .newarray t, .int n :: r => if jnat t ≠ 0 ∧ ¬ n < 0 ∧ n.toNatClampNeg ≤ 65536 then some (.ref (jnx h) :: r, jnew h (jnat t) n.toNatClampNeg) else none
  | .anewarray x, .int n :: r => match jAL.find? (fun q => q.1 == jow k && q.2.1 == x) with
    | some q => if ¬ n < 0 ∧ n.toNatClampNeg ≤ 65536 then some (.ref (jnx h) :: r, jnew h q.2.2.1 n.toNatClampNeg) else none
    | none => none
  | _, _ => none
def jwln (i : Jvm.ClassFile.Instr) : Nat := match i with
  | .putfield _ => 3
  | .new _ => 3
  | .anewarray _ => 3
  | .newarray _ => 2
  | _ => 1
/-- what the machine has of itself -/
def jown (k : Nat) (i : Jvm.ClassFile.Instr) (st : List Value) (h : jH) : Option (List Value × jH) := match i, st with
  | .invokespecial x, .ref _ :: r => if (jOL.any (fun q => q.1 == jow k && (q.2.1 == x && q.2.2.1 == 0))) = true ∧ jcat r ≤ 8 then some (r, h) else none
  | .invokestatic x, .int n :: .int dp :: .ref b :: .int sp :: .ref a :: r => if ((jOL.any (fun q => q.1 == jow k && (q.2.1 == x && q.2.2.1 == 1))) = true ∧ jcat r ≤ 8) ∧ (((jK h a).1 = 1 ∧ (jK h b).1 = 1) ∧ ((¬ sp < 0 ∧ ¬ dp < 0 ∧ ¬ n < 0) ∧ (sp.toNatClampNeg + n.toNatClampNeg ≤ (jK h a).2 ∧ dp.toNatClampNeg + n.toNatClampNeg ≤ (jK h b).2))) then some (r, jwr h b (va_cpy (jI h a) (jI h b) sp.toNatClampNeg dp.toNatClampNeg n.toNatClampNeg)) else none
  | .invokestatic x, .int w :: .int v :: r => if (jOL.any (fun q => q.1 == jow k && (q.2.1 == x && q.2.2.1 == 5))) = true ∧ jcat r ≤ 8 then some (.int (if v < w then w else v) :: r, h) else if (jOL.any (fun q => q.1 == jow k && (q.2.1 == x && q.2.2.1 == 6))) = true ∧ jcat r ≤ 8 then some (.int (if w < v then w else v) :: r, h) else none
  | .invokevirtual x, .ref a :: r => if ((jOL.any (fun q => q.1 == jow k && (q.2.1 == x && q.2.2.1 == 2))) = true ∧ jcat r ≤ 8) ∧ (jK h a).1 = 1 then some (.ref (jnx h) :: r, jwr (jnew h 1 (jK h a).2) (jnx h) (jI h a)) else none
  | _, _ => none
/-- one instruction that is no call and no return -/
abbrev jS : Type := Nat × List (Option Value) × List Value × jH
def jstp (k pc : Nat) (i : Jvm.ClassFile.Instr) (len : Nat) (lv : List (Option Value)) (st : List Value) (h : jH) : Option jS :=
  match (if len = jalen i then jalu i st else none) with
  | some st' => some (pc + len, lv, st', h)
  | none => match jldc (jow k) i len with
    | some v => some (pc + len, lv, v :: st, h)
    | none => match jlod i len lv with
      | some v => some (pc + len, lv, v :: st, h)
      | none => match jsto i len lv st with
        | some q => some (pc + len, q.1, q.2, h)
        | none => match jbr pc i len st with
          | some q => some (q.1, lv, q.2, h)
          | none => match (if len = jrln i then jrd k i st h else none) with
            | some st' => some (pc + len, lv, st', h)
            | none => match (if len = jwln i then jwt k i st h else none) with
              | some q => some (pc + len, lv, q.1, q.2)
              | none => match (if len = 3 then jown k i st h else none) with
                | some q => some (pc + 3, lv, q.1, q.2)
                | none => none
/-- a return -/
def jret (k : Nat) (i : Jvm.ClassFile.Instr) (len : Nat) (st : List Value) : Option (Option Value) := match i, len, st, jrt k with
  | .ireturn, 1, [.int v], some .int => some (some (.int v))
  | .ireturn, 1, [.int v], some .boolean => if v = 0 ∨ v = 1 then some (some (.int v)) else none
  | .ireturn, 1, [.int v], some .byte => if v.toInt8.toInt32 = v then some (some (.int v)) else none
  | .ireturn, 1, [.int v], some .char => if v.toUInt32.toUInt16.toUInt32.toInt32 = v then some (some (.int v)) else none
  | .lreturn, 1, [.long v], some .long => some (some (.long v))
  | .areturn, 1, [.ref a], some (.object _) => some (some (.ref a))
  | .areturn, 1, [.null], some (.object _) => some (some .null)
  | .areturn, 1, [.ref a], some (.array _) => some (some (.ref a))
  | .return_, 1, [], none => some none
  | _, _, _, _ => none
/-- a call: the method, its arguments, what stays on the stack -/
def jcal (k : Nat) (i : Jvm.ClassFile.Instr) (len : Nat) (st : List Value) (h : jH) : Option (Nat × List Value × List Value) :=
  if len = 3 then match i with
    | .invokestatic x => match jCL.find? (fun q => q.1 == jow k && (q.2.1 == x && q.2.2.1 == 1)) with
      | some q => match jna q.2.2.2.1 with
        | some n => if n ≤ st.length ∧ jcat (st.drop n) ≤ 8 then some (q.2.2.2.1, (st.take n).reverse, st.drop n) else none
        | none => none
      | none => none
    | .invokevirtual x => match jCL.find? (fun q => q.1 == jow k && (q.2.1 == x && q.2.2.1 == 0)) with
      | some q => match jna q.2.2.2.1 with
        | some n => match st.drop n with
          | .ref b :: r => if ((jow q.2.2.2.1 < 13 ∧ (jK h b).1 = 20 + jow q.2.2.2.1) ∨ (jow q.2.2.2.1 = 17 ∧ (jtxt h b).isSome = true)) ∧ jcat r ≤ 8 then some (q.2.2.2.1, .ref b :: (st.take n).reverse, r) else none
          | _ => none
        | none => none
      | none => none
    | .invokespecial x => match jCL.find? (fun q => q.1 == jow k && (q.2.1 == x && (q.2.2.1 == 2 || q.2.2.1 == 3))) with
      | some q => match jna q.2.2.2.1 with
        | some n => match st.drop n with
          | .ref b :: r => if jcat r ≤ 8 then some (q.2.2.2.1, .ref b :: (st.take n).reverse, r) else none
          | _ => none
        | none => none
      | none => none
    | _ => none
  else none
/-- the locals with which a method begins -/
def jsp (vs : List Value) : List (Option Value) := match vs with
  | [] => []
  | v :: r => if v.category = 2 then some v :: none :: jsp r else some v :: jsp r
def jent (n : Nat) (vs : List Value) : List (Option Value) := jsp vs ++ List.replicate (n - (jsp vs).length) none
abbrev jO : Type := Option (Option Value × jH)
def jgo (call : Nat → List Value → jH → jO) (k : Nat) : Nat → Nat → List (Option Value) → List Value → jH → jO
  | 0, _, _, _, _ => none
  | n + 1, pc, lv, st, h => match decode (jby k) pc with
    | .ok q => match jstp k pc q.1 q.2 lv st h with
      | some t => jgo call k n t.1 t.2.1 t.2.2.1 t.2.2.2
      | none => match jret k q.1 q.2 st with
        | some r => some (r, h)
        | none => match jcal k q.1 q.2 st h with
          | some t => match call t.1 t.2.1 h with
            | some z => jgo call k n (pc + 3) lv (z.1.toList ++ t.2.2) z.2
            | none => none
          | none => none
    | .error _ => none
def jrun : Nat → Nat → Nat → List Value → jH → jO
  | 0, _, _, _, _ => none
  | d + 1, n, k, as, h => if (jsp as).length ≤ jmx k ∧ k < jlaw then jgo (jrun d n) k n 0 (jent (jmx k) as) [] h else none
