/-! AN ABSTRACT MACHINE over cells with numbers: what a method's bytes do, as a function; behind it: what it says holds of the machine -/
abbrev XI : Type := Nat × Instr × Nat × Nat × Int
abbrev XB : Type := List (Nat × List XI × Nat)
/-- own class, name, bytes, places for locals, what it returns, its stretches -/
abbrev XRow : Type := Nat × MethodName × ByteArray × Nat × Option FieldType × XB
/-- ints, longs, references by cell and place; a cell's kind and length; how many cells; how many slots -/
abbrev XM : Type := (Nat → Nat → Int32) × (Nat → Nat → Int64) × (Nat → Nat → Option Nat) × (Nat → Nat × Nat) × Nat × Nat
def xu {α : Type} (f : Nat → Nat → α) (k j : Nat) (v : α) : Nat → Nat → α := fun a b => if a = k then (if b = j then v else f a b) else f a b
abbrev xn (m : XM) : Nat := m.2.2.2.2.1
abbrev xw (m : XM) : Nat := m.2.2.2.2.2
abbrev xsh (m : XM) : Nat → Nat × Nat := m.2.2.2.1
def xwI (m : XM) (k j : Nat) (v : Int32) : XM := (xu m.1 k j v, m.2)
def xwL (m : XM) (k j : Nat) (v : Int64) : XM := (m.1, xu m.2.1 k j v, m.2.2)
def xwR (m : XM) (k j : Nat) (v : Option Nat) : XM := (m.1, m.2.1, xu m.2.2.1 k j v, m.2.2.2)
def xz {α : Type} (f : Nat → Nat → α) (k : Nat) (v : α) : Nat → Nat → α := fun a b => if a = k then v else f a b
/-- a new cell: its kind, its length -/
def xnew (m : XM) (t len : Nat) : XM := (xz m.1 (xn m) 0, xz m.2.1 (xn m) 0, xz m.2.2.1 (xn m) none, (fun a => if a = xn m then (t, len) else xsh m a), xn m + 1, xw m + len)
/-- the first number of a cell that can be written -/
def x0 : Nat := 40
def xlk : List (Nat × Value) → Nat → Option Value
  | [], _ => none
  | q :: r, i => if q.1 = i then some q.2 else xlk r i
def xst1 (lv : List (Nat × Value)) (i : Nat) (v : Value) : List (Nat × Value) := (i, v) :: lv.filter (fun q => !(q.1 == i) && !(q.1 + 1 == i && q.2.category == 2))
def xst2 (lv : List (Nat × Value)) (i : Nat) (v : Value) : List (Nat × Value) := (i, v) :: lv.filter (fun q => !(q.1 == i) && (!(q.1 == i + 1) && !(q.1 + 1 == i && q.2.category == 2)))
def xin (i : Int32) (n : Nat) : Bool := !(decide (i < 0)) && Nat.blt i.toNatClampNeg n
def xcats (st : List Value) : Nat := (st.map fun v => v.category).sum
/-- loads and reckoning -/
def xs1 (i : Instr) (lv : List (Nat × Value)) (st : List Value) : Option (List Value) :=
  match i with
  | .iconst n => some (.int (Int32.ofInt n) :: st)
  | .bipush n => some (.int (Int8.ofInt n).toInt32 :: st)
  | .sipush n => some (.int (Int16.ofInt n).toInt32 :: st)
  | .lconst n => some (.long (Int64.ofNat n.val) :: st)
  | .iload_n k => match xlk lv k.val with | some (.int v) => some (.int v :: st) | _ => none
  | .iload k => match xlk lv k with | some (.int v) => some (.int v :: st) | _ => none
  | .lload_n k => match xlk lv k.val with | some (.long v) => some (.long v :: st) | _ => none
  | .lload k => match xlk lv k with | some (.long v) => some (.long v :: st) | _ => none
  | .aload_n k => match xlk lv k.val with | some (.ref v) => some (.ref v :: st) | _ => none
  | .aload k => match xlk lv k with | some (.ref v) => some (.ref v :: st) | _ => none
  | _ => none
def xs2 (i : Instr) (st : List Value) : Option (List Value) :=
  match i with
  | .iadd => match st with | .int y :: .int x :: r => some (.int (x + y) :: r) | _ => none
  | .isub => match st with | .int y :: .int x :: r => some (.int (x - y) :: r) | _ => none
  | .imul => match st with | .int y :: .int x :: r => some (.int (x * y) :: r) | _ => none
  | .iand => match st with | .int y :: .int x :: r => some (.int (x &&& y) :: r) | _ => none
  | .ior => match st with | .int y :: .int x :: r => some (.int (x ||| y) :: r) | _ => none
  | .ixor => match st with | .int y :: .int x :: r => some (.int (x ^^^ y) :: r) | _ => none
  | .idiv => match st with | .int y :: .int x :: r => if y = 0 then none else some (.int (x / y) :: r) | _ => none
  | .irem => match st with | .int y :: .int x :: r => if y = 0 then none else some (.int (x - x / y * y) :: r) | _ => none
  | .ineg => match st with | .int x :: r => some (.int (-x) :: r) | _ => none
  | .ishl => match st with | .int y :: .int x :: r => some (.int (x <<< (y &&& 31)) :: r) | _ => none
  | .ishr => match st with | .int y :: .int x :: r => some (.int (x >>> (y &&& 31)) :: r) | _ => none
  | .iushr => match st with | .int y :: .int x :: r => some (.int (x.toUInt32 >>> (y.toUInt32 &&& Int32.toUInt32 31)).toInt32 :: r) | _ => none
  | _ => none
def xs3 (i : Instr) (st : List Value) : Option (List Value) :=
  match i with
  | .ladd => match st with | .long y :: .long x :: r => some (.long (x + y) :: r) | _ => none
  | .lsub => match st with | .long y :: .long x :: r => some (.long (x - y) :: r) | _ => none
  | .lmul => match st with | .long y :: .long x :: r => some (.long (x * y) :: r) | _ => none
  | .land => match st with | .long y :: .long x :: r => some (.long (x &&& y) :: r) | _ => none
  | .lor => match st with | .long y :: .long x :: r => some (.long (x ||| y) :: r) | _ => none
  | .ldiv => match st with | .long y :: .long x :: r => if y = 0 then none else some (.long (x / y) :: r) | _ => none
  | .lrem => match st with | .long y :: .long x :: r => if y = 0 then none else some (.long (x - x / y * y) :: r) | _ => none
  | .lneg => match st with | .long x :: r => some (.long (-x) :: r) | _ => none
  | .lshl => match st with | .int y :: .long x :: r => some (.long (x <<< (y.toInt64 &&& 63)) :: r) | _ => none
  | .lshr => match st with | .int y :: .long x :: r => some (.long (x >>> (y.toInt64 &&& 63)) :: r) | _ => none
  | .lushr => match st with | .int y :: .long x :: r => some (.long (x.toUInt64 >>> (y.toInt64.toUInt64 &&& Int64.toUInt64 63)).toInt64 :: r) | _ => none
  | .lcmp => match st with | .long y :: .long x :: r => some (.int (lg_cmp x y) :: r) | _ => none
  | .i2l => match st with | .int x :: r => some (.long x.toInt64 :: r) | _ => none
  | .l2i => match st with | .long x :: r => some (.int x.toInt32 :: r) | _ => none
  | .i2b => match st with | .int x :: r => some (.int x.toInt8.toInt32 :: r) | _ => none
  | .i2c => match st with | .int x :: r => some (.int (x.toUInt32 % 65536).toInt32 :: r) | _ => none
  | _ => none
def xs4 (i : Instr) (st : List Value) : Option (List Value) :=
  match i with
  | .dup => match st with | v :: r => if v.category = 1 then some (v :: v :: r) else none | _ => none
  | .pop => match st with | v :: r => if v.category = 1 then some r else none | _ => none
  | .pop2 => match st with | v :: r => if v.category = 2 then some r else none | _ => none
  | .dup2 => match st with
    | v :: u :: r => if v.category = 2 then some (v :: v :: u :: r) else if u.category = 1 then some (v :: u :: v :: u :: r) else none
    | _ => none
  | _ => none
/-- stores into locals -/
def xs5 (nL : Nat) (i : Instr) (lv : List (Nat × Value)) (st : List Value) : Option (List (Nat × Value) × List Value) :=
  match i with
  | .istore_n k => match st with | .int v :: r => if k.val < nL then some (xst1 lv k.val (.int v), r) else none | _ => none
  | .istore k => match st with | .int v :: r => if k < nL then some (xst1 lv k (.int v), r) else none | _ => none
  | .lstore_n k => match st with | .long v :: r => if k.val + 1 < nL then some (xst2 lv k.val (.long v), r) else none | _ => none
  | .lstore k => match st with | .long v :: r => if k + 1 < nL then some (xst2 lv k (.long v), r) else none | _ => none
  | .astore_n k => match st with | .ref v :: r => if k.val < nL then some (xst1 lv k.val (.ref v), r) else none | _ => none
  | .astore k => match st with | .ref v :: r => if k < nL then some (xst1 lv k (.ref v), r) else none | _ => none
  | .iinc k n => match xlk lv k with | some (.int v) => if k < nL then some (xst1 lv k (.int (v + Int32.ofInt n)), st) else none | _ => none
  | _ => none
/-- jumps: 'some (some t)' to t, 'some none' goes on -/
def xif (b : Bool) (t : Nat) : Option Nat := match b with | true => some t | false => none
def xcond (c : ClassFile.Cond) (x y : Int32) : Bool :=
  match c with
  | .eq => decide (x = y)
  | .ne => !(decide (x = y))
  | .lt => decide (x < y)
  | .ge => decide (y ≤ x)
  | .gt => decide (y < x)
  | .le => decide (x ≤ y)
def xbr (pc : Nat) (i : Instr) (st : List Value) : Option (Option Nat × List Value) :=
  match i with
  | .goto o => some (some ((pc : Int) + o).toNat, st)
  | .ifCond c o => match st with | .int x :: r => some (xif (xcond c x 0) ((pc : Int) + o).toNat, r) | _ => none
  | .if_icmp c o => match st with | .int y :: .int x :: r => some (xif (xcond c x y) ((pc : Int) + o).toNat, r) | _ => none
  | .ifnull o => match st with | .ref _ :: r => some (none, r) | .null :: r => some (some ((pc : Int) + o).toNat, r) | _ => none
  | .ifnonnull o => match st with | .ref _ :: r => some (some ((pc : Int) + o).toNat, r) | .null :: r => some (none, r) | _ => none
  | .tableswitch d lo hi os => match st with
    | .int x :: r => if x.toInt < lo ∨ hi < x.toInt then (if 0 ≤ (pc : Int) + d then some (some ((pc : Int) + d).toNat, r) else none) else
      match os[(x.toInt - lo).toNat]? with | some o => if 0 ≤ (pc : Int) + o then some (some ((pc : Int) + o).toNat, r) else none | none => none
    | _ => none
  | .lookupswitch d ps => match st with | .int x :: r => if 0 ≤ (pc : Int) + Op.lookupswitch.offset ps.toList d x.toInt then some (some ((pc : Int) + Op.lookupswitch.offset ps.toList d x.toInt).toNat, r) else none | _ => none
  | _ => none
/-- a jump's places, and a switch's order -/
def xjok (pc : Nat) (i : Instr) : Bool :=
  match i with
  | .goto o | .ifCond _ o | .if_icmp _ o | .ifnull o | .ifnonnull o => decide (0 ≤ (pc : Int) + o)
  | .lookupswitch _ ps => (ps.toList.zip (ps.toList.drop 1)).all (fun (a, next) => a.1 < next.1)
  | _ => true
def xisw : Instr → Bool
  | .tableswitch .. | .lookupswitch .. => true
  | _ => false
def xval (m : XM) (kd k j : Nat) : Value := match kd with | 1 => .long (m.2.1 k j) | 2 => va_rf (m.2.2.1 k j) | _ => .int (m.1 k j)
/-- a field is written: its kind 0 an int, 1 a long, 2 a reference, 3 a truth value -/
def xput (m : XM) (kd k j : Nat) (v : Value) : Option XM :=
  match kd with
  | 0 => match v with | .int x => some (xwI m k j x) | _ => none
  | 1 => match v with | .long x => some (xwL m k j x) | _ => none
  | 2 => match v with | .ref q => some (xwR m k j (some q)) | .null => some (xwR m k j none) | _ => none
  | 3 => match v with | .int x => if x &&& 1 = x then some (xwI m k j x) else none | _ => none
  | _ => none
/-- fields and arrays: a, b of getfield and putfield: the class, 8 times the field and its kind -/
def xs6 (i : Instr) (a b : Nat) (st : List Value) (m : XM) : Option (List Value × XM) :=
  match i with
  | .getfield _ => match st with
    | .ref k :: r => if x0 ≤ k ∧ k < xn m ∧ (xsh m k).1 = a then some (xval m (b % 8) k (b / 8) :: r, m) else none
    | _ => none
  | .putfield _ => match st with
    | v :: .ref k :: r => if x0 ≤ k ∧ k < xn m ∧ (xsh m k).1 = a then (match xput m (b % 8) k (b / 8) v with | some m' => some (r, m') | none => none) else none
    | _ => none
  | .iaload => match st with
    | .int j :: .ref k :: r => if k < xn m ∧ (xsh m k).1 = 100 ∧ xin j (xsh m k).2 = true then some (.int (m.1 k j.toNatClampNeg) :: r, m) else none
    | _ => none
  | .laload => match st with
    | .int j :: .ref k :: r => if k < xn m ∧ (xsh m k).1 = 101 ∧ xin j (xsh m k).2 = true then some (.long (m.2.1 k j.toNatClampNeg) :: r, m) else none
    | _ => none
  | .baload => match st with
    | .int j :: .ref k :: r => if k < xn m ∧ ((xsh m k).1 = 102 ∨ (xsh m k).1 = 103) ∧ xin j (xsh m k).2 = true then some (.int (m.1 k j.toNatClampNeg) :: r, m) else none
    | _ => none
  | .caload => match st with
    | .int j :: .ref k :: r => if k < xn m ∧ (xsh m k).1 = 104 ∧ xin j (xsh m k).2 = true then some (.int (m.1 k j.toNatClampNeg) :: r, m) else none
    | _ => none
  | .aaload => match st with
    | .int j :: .ref k :: r => if k < xn m ∧ 110 ≤ (xsh m k).1 ∧ xin j (xsh m k).2 = true then some (va_rf (m.2.2.1 k j.toNatClampNeg) :: r, m) else none
    | _ => none
  | .arraylength => match st with
    | .ref k :: r => if k < xn m ∧ 100 ≤ (xsh m k).1 then some (.int (Int32.ofNat (xsh m k).2) :: r, m) else none
    | _ => none
  | _ => none
def xs7 (i : Instr) (st : List Value) (m : XM) : Option (List Value × XM) :=
  match i with
  | .iastore => match st with
    | .int v :: .int j :: .ref k :: r => if x0 ≤ k ∧ k < xn m ∧ (xsh m k).1 = 100 ∧ xin j (xsh m k).2 = true then some (r, xwI m k j.toNatClampNeg v) else none
    | _ => none
  | .lastore => match st with
    | .long v :: .int j :: .ref k :: r => if x0 ≤ k ∧ k < xn m ∧ (xsh m k).1 = 101 ∧ xin j (xsh m k).2 = true then some (r, xwL m k j.toNatClampNeg v) else none
    | _ => none
  | .bastore => match st with
    | .int v :: .int j :: .ref k :: r => if x0 ≤ k ∧ k < xn m ∧ xin j (xsh m k).2 = true then (if (xsh m k).1 = 102 then some (r, xwI m k j.toNatClampNeg v.toInt8.toInt32) else if (xsh m k).1 = 103 then some (r, xwI m k j.toNatClampNeg (v &&& 1)) else none) else none
    | _ => none
  | .castore => match st with
    | .int v :: .int j :: .ref k :: r => if x0 ≤ k ∧ k < xn m ∧ (xsh m k).1 = 104 ∧ xin j (xsh m k).2 = true then some (r, xwI m k j.toNatClampNeg v.toUInt32.toUInt16.toUInt32.toInt32) else none
    | _ => none
  | .aastore => match st with
    | .ref q :: .int j :: .ref k :: r => if x0 ≤ k ∧ k < xn m ∧ x0 ≤ q ∧ q < xn m ∧ (xsh m q).1 < 100 ∧ (xsh m k).1 = 110 + (xsh m q).1 ∧ xin j (xsh m k).2 = true then some (r, xwR m k j.toNatClampNeg (some q)) else none
    | _ => none
  | _ => none
/-- new cells; a: the kind; b: how many fields -/
def xs8 (i : Instr) (a b : Nat) (st : List Value) (m : XM) : Option (List Value × XM) :=
  match i with
  | .newarray _ => match st with
    | .int n :: r => if n < 0 then none else if Nat.blt n.toNatClampNeg 1000000 = true then some (.ref (xn m) :: r, xnew m a n.toNatClampNeg) else none
    | _ => none
  | .anewarray _ => match st with
    | .int n :: r => if n < 0 then none else if Nat.blt n.toNatClampNeg 1000000 = true then some (.ref (xn m) :: r, xnew m a n.toNatClampNeg) else none
    | _ => none
  | .new _ => some (.ref (xn m) :: st, xnew m a b)
  | .invokespecial _ => match st with
    | .ref _ :: r => if a = 999 ∧ Nat.blt 8 (xcats r) = false then some (r, m) else none
    | _ => none
  | _ => none
/-- constants -/
def xs9 (i : Instr) (a : Nat) (c : Int) (st : List Value) : Option (List Value) :=
  match i with
  | .ldc _ => if a = 0 then some (.int (Int32.ofInt c) :: st) else none
  | .ldc_w _ => if a = 0 then some (.int (Int32.ofInt c) :: st) else none
  | .ldc2_w _ => if a = 0 then some (.long (Int64.ofInt c) :: st) else none
  | _ => none
