/-! AN ABSTRACT MACHINE over cells with numbers: what a method's bytes do, as a function; behind it: what it says holds of the machine -/
abbrev XI : Type := Nat × Instr × Nat × Nat × Int
abbrev XB : Type := List (Nat × List XI × Nat)
abbrev XRow : Type := MethodName × ByteArray × Nat × Option FieldType × Bool × XB
/-- ints, longs, references by cell and place; a cell's kind and length; how many cells; how many slots -/
abbrev XM : Type := (Nat → Nat → Int32) × (Nat → Nat → Int64) × (Nat → Nat → Option Nat) × (Nat → Nat × Nat) × Nat × Nat
def xu {α : Type} (f : Nat → Nat → α) (k j : Nat) (v : α) : Nat → Nat → α := fun a b => if a = k then (if b = j then v else f a b) else f a b
abbrev xn (m : XM) : Nat := m.2.2.2.2.1
abbrev xw (m : XM) : Nat := m.2.2.2.2.2
abbrev xsh (m : XM) : Nat → Nat × Nat := m.2.2.2.1
def xwI (m : XM) (k j : Nat) (v : Int32) : XM := (xu m.1 k j v, m.2)
def xwL (m : XM) (k j : Nat) (v : Int64) : XM := (m.1, xu m.2.1 k j v, m.2.2)
def xwR (m : XM) (k j : Nat) (v : Option Nat) : XM := (m.1, m.2.1, xu m.2.2.1 k j v, m.2.2.2)
def xz {α : Type} (f : Nat → Nat → α) (k : Nat) (v : α) : Nat → Nat → α := fun a b => if a = k then v else f a b
/-- a new cell: its kind, its length -/
def xnew (m : XM) (t len : Nat) : XM := (xz m.1 (xn m) 0, xz m.2.1 (xn m) 0, xz m.2.2.1 (xn m) none, (fun a => if a = xn m then (t, len) else xsh m a), xn m + 1, xw m + len)
/-- the first number of a cell that can be written -/
def x0 : Nat := 40
def xlk : List (Nat × Value) → Nat → Option Value
  | [], _ => none
  | q :: r, i => if q.1 = i then some q.2 else xlk r i
def xst1 (lv : List (Nat × Value)) (i : Nat) (v : Value) : List (Nat × Value) := (i, v) :: lv.filter (fun q => !(q.1 == i) && !(q.1 + 1 == i && q.2.category == 2))
def xst2 (lv : List (Nat × Value)) (i : Nat) (v : Value) : List (Nat × Value) := (i, v) :: lv.filter (fun q => !(q.1 == i) && (!(q.1 == i + 1) && !(q.1 + 1 == i && q.2.category == 2)))
def xin (i : Int32) (n : Nat) : Bool := !(decide (i < 0)) && Nat.blt i.toNatClampNeg n
def xcats (st : List Value) : Nat := (st.map fun v => v.category).sum
/-- loads and reckoning -/
def xs1 (i : Instr) (lv : List (Nat × Value)) (st : List Value) : Option (List Value) :=
  match i with
  | .iconst n => some (.int (Int32.ofInt n) :: st)
  | .bipush n => some (.int (Int8.ofInt n).toInt32 :: st)
  | .sipush n => some (.int (Int16.ofInt n).toInt32 :: st)
  | .lconst n => some (.long (Int64.ofNat n.val) :: st)
  | .iload_n k => match xlk lv k.val with | some (.int v) => some (.int v :: st) | _ => none
  | .iload k => match xlk lv k with | some (.int v) => some (.int v :: st) | _ => none
  | .lload_n k => match xlk lv k.val with | some (.long v) => some (.long v :: st) | _ => none
  | .lload k => match xlk lv k with | some (.long v) => some (.long v :: st) | _ => none
  | .aload_n k => match xlk lv k.val with | some (.ref v) => some (.ref v :: st) | _ => none
  | .aload k => match xlk lv k with | some (.ref v) => some (.ref v :: st) | _ => none
  | _ => none
def xs2 (i : Instr) (st : List Value) : Option (List Value) :=
  match i with
  | .iadd => match st with | .int y :: .int x :: r => some (.int (x + y) :: r) | _ => none
  | .isub => match st with | .int y :: .int x :: r => some (.int (x - y) :: r) | _ => none
  | .imul => match st with | .int y :: .int x :: r => some (.int (x * y) :: r) | _ => none
  | .iand => match st with | .int y :: .int x :: r => some (.int (x &&& y) :: r) | _ => none
  | .ior => match st with | .int y :: .int x :: r => some (.int (x ||| y) :: r) | _ => none
  | .ixor => match st with | .int y :: .int x :: r => some (.int (x ^^^ y) :: r) | _ => none
  | .idiv => match st with | .int y :: .int x :: r => if y = 0 then none else some (.int (x / y) :: r) | _ => none
  | .irem => match st with | .int y :: .int x :: r => if y = 0 then none else some (.int (x - x / y * y) :: r) | _ => none
  | .ineg => match st with | .int x :: r => some (.int (-x) :: r) | _ => none
  | .ishl => match st with | .int y :: .int x :: r => some (.int (x <<< (y &&& 31)) :: r) | _ => none
  | .ishr => match st with | .int y :: .int x :: r => some (.int (x >>> (y &&& 31)) :: r) | _ => none
  | .iushr => match st with | .int y :: .int x :: r => some (.int (x.toUInt32 >>> (y.toUInt32 &&& Int32.toUInt32 31)).toInt32 :: r) | _ => none
  | _ => none
def xs3 (i : Instr) (st : List Value) : Option (List Value) :=
  match i with
  | .ladd => match st with | .long y :: .long x :: r => some (.long (x + y) :: r) | _ => none
  | .lsub => match st with | .long y :: .long x :: r => some (.long (x - y) :: r) | _ => none
  | .lmul => match st with | .long y :: .long x :: r => some (.long (x * y) :: r) | _ => none
  | .land => match st with | .long y :: .long x :: r => some (.long (x &&& y) :: r) | _ => none
  | .lor => match st with | .long y :: .long x :: r => some (.long (x ||| y) :: r) | _ => none
  | .ldiv => match st with | .long y :: .long x :: r => if y = 0 then none else some (.long (x / y) :: r) | _ => none
  | .lrem => match st with | .long y :: .long x :: r => if y = 0 then none else some (.long (x - x / y * y) :: r) | _ => none
  | .lneg => match st with | .long x :: r => some (.long (-x) :: r) | _ => none
  | .lshl => match st with | .int y :: .long x :: r => some (.long (x <<< (y.toInt64 &&& 63)) :: r) | _ => none
  | .lshr => match st with | .int y :: .long x :: r => some (.long (x >>> (y.toInt64 &&& 63)) :: r) | _ => none
  | .lushr => match st with | .int y :: .long x :: r => some (.long (x.toUInt64 >>> (y.toInt64.toUInt64 &&& Int64.toUInt64 63)).toInt64 :: r) | _ => none
  | .lcmp => match st with | .long y :: .long x :: r => some (.int (lg_cmp x y) :: r) | _ => none
  | .i2l => match st with | .int x :: r => some (.long x.toInt64 :: r) | _ => none
  | .l2i => match st with | .long x :: r => some (.int x.toInt32 :: r) | _ => none
  | .i2b => match st with | .int x :: r => some (.int x.toInt8.toInt32 :: r) | _ => none
  | .i2c => match st with | .int x :: r => some (.int (x.toUInt32 % 65536).toInt32 :: r) | _ => none
  | _ => none
def xs4 (i : Instr) (st : List Value) : Option (List Value) :=
  match i with
  | .dup => match st with | v :: r => if v.category = 1 then some (v :: v :: r) else none | _ => none
  | .pop => match st with | v :: r => if v.category = 1 then some r else none | _ => none
  | .pop2 => match st with | v :: r => if v.category = 2 then some r else none | _ => none
  | .dup2 => match st with
    | v :: u :: r => if v.category = 2 then some (v :: v :: u :: r) else if u.category = 1 then some (v :: u :: v :: u :: r) else none
    | _ => none
  | _ => none
/-- stores into locals -/
def xs5 (nL : Nat) (i : Instr) (lv : List (Nat × Value)) (st : List Value) : Option (List (Nat × Value) × List Value) :=
  match i with
  | .istore_n k => match st with | .int v :: r => if k.val < nL then some (xst1 lv k.val (.int v), r) else none | _ => none
  | .istore k => match st with | .int v :: r => if k < nL then some (xst1 lv k (.int v), r) else none | _ => none
  | .lstore_n k => match st with | .long v :: r => if k.val + 1 < nL then some (xst2 lv k.val (.long v), r) else none | _ => none
  | .lstore k => match st with | .long v :: r => if k + 1 < nL then some (xst2 lv k (.long v), r) else none | _ => none
  | .astore_n k => match st with | .ref v :: r => if k.val < nL then some (xst1 lv k.val (.ref v), r) else none | _ => none
  | .astore k => match st with | .ref v :: r => if k < nL then some (xst1 lv k (.ref v), r) else none | _ => none
  | .iinc k n => match xlk lv k with | some (.int v) => if k < nL then some (xst1 lv k (.int (v + Int32.ofInt n)), st) else none | _ => none
  | _ => none
/-- jumps: 'some (some t)' to t, 'some none' goes on -/
def xif (b : Bool) (t : Nat) : Option Nat := match b with | true => some t | false => none
def xcond (c : ClassFile.Cond) (x y : Int32) : Bool :=
  match c with
  | .eq => decide (x = y)
  | .ne => !(decide (x = y))
  | .lt => decide (x < y)
  | .ge => decide (y ≤ x)
  | .gt => decide (y < x)
  | .le => decide (x ≤ y)
def xbr (pc : Nat) (i : Instr) (st : List Value) : Option (Option Nat × List Value) :=
  match i with
  | .goto o => some (some ((pc : Int) + o).toNat, st)
  | .ifCond c o => match st with | .int x :: r => some (xif (xcond c x 0) ((pc : Int) + o).toNat, r) | _ => none
  | .if_icmp c o => match st with | .int y :: .int x :: r => some (xif (xcond c x y) ((pc : Int) + o).toNat, r) | _ => none
  | .ifnull o => match st with | .ref _ :: r => some (none, r) | .null :: r => some (some ((pc : Int) + o).toNat, r) | _ => none
  | .ifnonnull o => match st with | .ref _ :: r => some (some ((pc : Int) + o).toNat, r) | .null :: r => some (none, r) | _ => none
  | .tableswitch d lo hi os => match st with
    | .int x :: r => if x.toInt < lo ∨ hi < x.toInt then (if 0 < (pc : Int) + d then some (some ((pc : Int) + d).toNat, r) else none) else
      match os[(x.toInt - lo).toNat]? with | some o => if 0 < (pc : Int) + o then some (some ((pc : Int) + o).toNat, r) else none | none => none
    | _ => none
  | .lookupswitch d ps => match st with | .int x :: r => if 0 < (pc : Int) + Op.lookupswitch.offset ps.toList d x.toInt then some (some ((pc : Int) + Op.lookupswitch.offset ps.toList d x.toInt).toNat, r) else none | _ => none
  | _ => none
/-- a jump's places, and a switch's order -/
def xjok (pc : Nat) (i : Instr) : Bool :=
  match i with
  | .goto o | .ifCond _ o | .if_icmp _ o | .ifnull o | .ifnonnull o => decide (0 < (pc : Int) + o)
  | .lookupswitch _ ps => (ps.toList.zip (ps.toList.drop 1)).all (fun (a, next) => a.1 < next.1)
  | _ => true
def xisw : Instr → Bool
  | .tableswitch .. | .lookupswitch .. => true
  | _ => false
