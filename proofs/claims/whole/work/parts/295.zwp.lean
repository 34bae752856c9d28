/-! WEAKEST PRECONDITIONS over whole numbers: what is to be shown of a method, as a proposition that unfolds instruction by instruction; behind it: it holds of the abstract machine's run -/
abbrev ZV : Type := Int ⊕ (Int ⊕ Option Nat)
abbrev zvi (z : Int) : ZV := Sum.inl z
abbrev zvl (z : Int) : ZV := Sum.inr (Sum.inl z)
abbrev zvr (k : Nat) : ZV := Sum.inr (Sum.inr (some k))
abbrev zvo (o : Option Nat) : ZV := Sum.inr (Sum.inr o)
abbrev ZI : Type := Nat → Nat → Int
abbrev ZR : Type := Nat → Nat → Option Nat
abbrev ZS : Type := (Nat → Nat × Nat) × Nat × Nat
abbrev ZL : Type := List (Option ZV)
abbrev ZQ : Type := Option ZV → ZI → ZI → ZR → ZS → Prop
abbrev ZK : Type := Nat → ZL → List ZV → ZI → ZI → ZR → ZS → Prop
abbrev ZT : Type := List ZV → ZI → ZI → ZR → ZS → ZQ → Prop
abbrev ZH : Type := List XI → Nat → ZL → List ZV → ZI → ZI → ZR → ZS → Prop
def zden (v : ZV) : Value := match v with
  | .inl z => .int (Int32.ofInt z)
  | .inr (.inl z) => .long (Int64.ofInt z)
  | .inr (.inr (some k)) => .ref k
  | .inr (.inr none) => .null
def zmem (I L : ZI) (R : ZR) (S : ZS) : XM := (fun k j => Int32.ofInt (I k j), fun k j => Int64.ofInt (L k j), R, S)
abbrev r32 (z : Int) : Prop := -2147483648 ≤ z ∧ z ≤ 2147483647
abbrev r64 (z : Int) : Prop := -9223372036854775808 ≤ z ∧ z ≤ 9223372036854775807
def zok (I L : ZI) : Prop := (∀ k j, r32 (I k j)) ∧ ∀ k j, r64 (L k j)
def zget : ZL → Nat → Option ZV
  | [], _ => none
  | v :: r, i => match i with
    | 0 => v
    | i + 1 => zget r i
def zset : ZL → Nat → Option ZV → ZL
  | [], _, _ => []
  | v :: r, i, x => match i with
    | 0 => x :: r
    | i + 1 => v :: zset r i x
def zkill (ls : ZL) (i : Nat) : ZL := match i with
  | 0 => ls
  | i + 1 => match zget ls i with
    | some (.inr (.inl _)) => zset ls i none
    | _ => ls
def zst1 (ls : ZL) (i : Nat) (v : ZV) : ZL := zset (zkill ls i) i (some v)
def zst2 (ls : ZL) (i : Nat) (v : ZV) : ZL := zset (zset (zkill ls i) i (some v)) (i + 1) none
def zcat (v : ZV) : Nat := match v with
  | .inr (.inl _) => 2
  | _ => 1
def zcats (st : List ZV) : Nat := (st.map zcat).sum
/-- the locals of a method that begins -/
def zargs : List ZV → ZL
  | [] => []
  | v :: r => match zcat v with
    | 2 => some v :: none :: zargs r
    | _ => some v :: zargs r
def znone : Nat → ZL
  | 0 => []
  | n + 1 => none :: znone n
def zlay (n : Nat) (args : List ZV) : ZL := zargs args ++ znone (n - (zargs args).length)
/-- bits, as the machine has them -/
def zand (x y : Int) : Int := (Int32.ofInt x &&& Int32.ofInt y).toInt
def zor (x y : Int) : Int := (Int32.ofInt x ||| Int32.ofInt y).toInt
def zxor (x y : Int) : Int := (Int32.ofInt x ^^^ Int32.ofInt y).toInt
def zshl (x y : Int) : Int := (Int32.ofInt x <<< (Int32.ofInt y &&& 31)).toInt
def zshr (x y : Int) : Int := (Int32.ofInt x >>> (Int32.ofInt y &&& 31)).toInt
def zushr (x y : Int) : Int := ((Int32.ofInt x).toUInt32 >>> ((Int32.ofInt y).toUInt32 &&& Int32.toUInt32 31)).toInt32.toInt
def zland (x y : Int) : Int := (Int64.ofInt x &&& Int64.ofInt y).toInt
def zlor (x y : Int) : Int := (Int64.ofInt x ||| Int64.ofInt y).toInt
def zlshl (x y : Int) : Int := (Int64.ofInt x <<< ((Int32.ofInt y).toInt64 &&& 63)).toInt
def zlshr (x y : Int) : Int := (Int64.ofInt x >>> ((Int32.ofInt y).toInt64 &&& 63)).toInt
def zlushr (x y : Int) : Int := ((Int64.ofInt x).toUInt64 >>> ((Int32.ofInt y).toInt64.toUInt64 &&& Int64.toUInt64 63)).toInt64.toInt
def zi2b (x : Int) : Int := (Int32.ofInt x).toInt8.toInt32.toInt
def zi2c (x : Int) : Int := ((Int32.ofInt x).toUInt32 % 65536).toInt32.toInt
def zs1 (i : Instr) (ls : ZL) (st : List ZV) : Option (List ZV) :=
  match i with
  | .iconst n => some (zvi n :: st)
  | .bipush n => match decide (-128 ≤ n) && decide (n < 128) with
    | true => some (zvi n :: st)
    | false => none
  | .sipush n => match decide (-32768 ≤ n) && decide (n < 32768) with
    | true => some (zvi n :: st)
    | false => none
  | .lconst n => some (zvl (Int.ofNat n.val) :: st)
  | .iload_n k => match zget ls k.val with
    | some (.inl z) => some (zvi z :: st)
    | _ => none
  | .iload k => match zget ls k with
    | some (.inl z) => some (zvi z :: st)
    | _ => none
  | .lload_n k => match zget ls k.val with
    | some (.inr (.inl z)) => some (zvl z :: st)
    | _ => none
  | .lload k => match zget ls k with
    | some (.inr (.inl z)) => some (zvl z :: st)
    | _ => none
  | .aload_n k => match zget ls k.val with
    | some (.inr (.inr (some q))) => some (zvr q :: st)
    | _ => none
  | .aload k => match zget ls k with
    | some (.inr (.inr (some q))) => some (zvr q :: st)
    | _ => none
  | _ => none
def zs2 (i : Instr) (st : List ZV) : Option (List ZV) :=
  match i with
  | .iadd => match st with | .inl y :: .inl x :: r => some (zvi (x + y) :: r) | _ => none
  | .isub => match st with | .inl y :: .inl x :: r => some (zvi (x - y) :: r) | _ => none
  | .imul => match st with | .inl y :: .inl x :: r => some (zvi (x * y) :: r) | _ => none
  | .iand => match st with | .inl y :: .inl x :: r => some (zvi (zand x y) :: r) | _ => none
  | .ior => match st with | .inl y :: .inl x :: r => some (zvi (zor x y) :: r) | _ => none
  | .ixor => match st with | .inl y :: .inl x :: r => some (zvi (zxor x y) :: r) | _ => none
  | .ineg => match st with | .inl x :: r => some (zvi (-x) :: r) | _ => none
  | .ishl => match st with | .inl y :: .inl x :: r => some (zvi (zshl x y) :: r) | _ => none
  | .ishr => match st with | .inl y :: .inl x :: r => some (zvi (zshr x y) :: r) | _ => none
  | .iushr => match st with | .inl y :: .inl x :: r => some (zvi (zushr x y) :: r) | _ => none
  | _ => none
def zs3 (i : Instr) (st : List ZV) : Option (List ZV) :=
  match i with
  | .ladd => match st with | .inr (.inl y) :: .inr (.inl x) :: r => some (zvl (x + y) :: r) | _ => none
  | .lsub => match st with | .inr (.inl y) :: .inr (.inl x) :: r => some (zvl (x - y) :: r) | _ => none
  | .lmul => match st with | .inr (.inl y) :: .inr (.inl x) :: r => some (zvl (x * y) :: r) | _ => none
  | .land => match st with | .inr (.inl y) :: .inr (.inl x) :: r => some (zvl (zland x y) :: r) | _ => none
  | .lor => match st with | .inr (.inl y) :: .inr (.inl x) :: r => some (zvl (zlor x y) :: r) | _ => none
  | .lneg => match st with | .inr (.inl x) :: r => some (zvl (-x) :: r) | _ => none
  | .lshl => match st with | .inl y :: .inr (.inl x) :: r => some (zvl (zlshl x y) :: r) | _ => none
  | .lshr => match st with | .inl y :: .inr (.inl x) :: r => some (zvl (zlshr x y) :: r) | _ => none
  | .lushr => match st with | .inl y :: .inr (.inl x) :: r => some (zvl (zlushr x y) :: r) | _ => none
  | .l2i => match st with | .inr (.inl x) :: r => some (zvi x :: r) | _ => none
  | .i2b => match st with | .inl x :: r => some (zvi (zi2b x) :: r) | _ => none
  | .i2c => match st with | .inl x :: r => some (zvi (zi2c x) :: r) | _ => none
  | _ => none
def zs4 (i : Instr) (st : List ZV) : Option (List ZV) :=
  match i with
  | .dup => match st with | v :: r => (match zcat v with | 1 => some (v :: v :: r) | _ => none) | _ => none
  | .pop => match st with | v :: r => (match zcat v with | 1 => some r | _ => none) | _ => none
  | .pop2 => match st with | v :: r => (match zcat v with | 2 => some r | _ => none) | _ => none
  | .dup2 => match st with
    | v :: u :: r => (match zcat v with | 2 => some (v :: v :: u :: r) | _ => (match zcat u with | 1 => some (v :: u :: v :: u :: r) | _ => none))
    | _ => none
  | _ => none
def zs5 (nL : Nat) (i : Instr) (ls : ZL) (st : List ZV) : Option (ZL × List ZV) :=
  match i with
  | .istore_n k => match st with | .inl v :: r => (match Nat.blt k.val nL with | true => some (zst1 ls k.val (zvi v), r) | false => none) | _ => none
  | .istore k => match st with | .inl v :: r => (match Nat.blt k nL with | true => some (zst1 ls k (zvi v), r) | false => none) | _ => none
  | .lstore_n k => match st with | .inr (.inl v) :: r => (match Nat.blt (k.val + 1) nL with | true => some (zst2 ls k.val (zvl v), r) | false => none) | _ => none
  | .lstore k => match st with | .inr (.inl v) :: r => (match Nat.blt (k + 1) nL with | true => some (zst2 ls k (zvl v), r) | false => none) | _ => none
  | .astore_n k => match st with | .inr (.inr (some v)) :: r => (match Nat.blt k.val nL with | true => some (zst1 ls k.val (zvr v), r) | false => none) | _ => none
  | .astore k => match st with | .inr (.inr (some v)) :: r => (match Nat.blt k nL with | true => some (zst1 ls k (zvr v), r) | false => none) | _ => none
  | .iinc k n => match zget ls k with | some (.inl v) => (match Nat.blt k nL with | true => some (zst1 ls k (zvi (v + n)), st) | false => none) | _ => none
  | _ => none
def zs9 (i : Instr) (a : Nat) (c : Int) (st : List ZV) : Option (List ZV) :=
  match i with
  | .ldc _ => (match a with | 0 => some (zvi c :: st) | _ => none)
  | .ldc_w _ => (match a with | 0 => some (zvi c :: st) | _ => none)
  | .ldc2_w _ => (match a with | 0 => some (zvl c :: st) | _ => none)
  | .getstatic _ => (match Nat.ble 1 a && Nat.ble a 5 with | true => some (zvr a :: st) | false => none)
  | _ => none
/-- plain instructions -/
def zps (nL : Nat) (x : XI) (ls : ZL) (st : List ZV) : Option (ZL × List ZV) :=
  match zs1 x.2.1 ls st with
  | some q => some (ls, q)
  | none => match zs2 x.2.1 st with
    | some q => some (ls, q)
    | none => match zs5 nL x.2.1 ls st with
      | some q => some q
      | none => match zs4 x.2.1 st with
        | some q => some (ls, q)
        | none => match zs3 x.2.1 st with
          | some q => some (ls, q)
          | none => match zs9 x.2.1 x.2.2.1 x.2.2.2.2 st with
            | some q => some (ls, q)
            | none => none
/-- a method's contract, as what it asks ahead of a use -/
def zpost (Q : ZQ) : Option Value → XM → Prop := fun v m => ∃ r I L R S, v = Option.map zden r ∧ m = zmem I L R S ∧ zok I L ∧ Q r I L R S
def ZSnd (h c i : Nat) (T : ZT) : Prop := ∀ d, h ≤ d → ∀ args I L R S Q, zok I L → T args I L R S Q → Nat.ble (xcats (args.map zden)) (xP c i).2.2.2.1 = true ∧ Xr xP d (xP c i) (xfind (xP c i).2.2.2.2.2 0).1 (xfind (xP c i).2.2.2.2.2 0).2 (lv_args 0 (args.map zden)) [] (zmem I L R S) (zpost Q)
def zbr (c : ClassFile.Cond) (x y : Int) (A B : Prop) : Prop := match c with
  | .eq => (x = y → A) ∧ (x ≠ y → B)
  | .ne => (x ≠ y → A) ∧ (x = y → B)
  | .lt => (x < y → A) ∧ (y ≤ x → B)
  | .ge => (y ≤ x → A) ∧ (x < y → B)
  | .gt => (y < x → A) ∧ (x ≤ y → B)
  | .le => (x ≤ y → A) ∧ (y < x → B)
def zhas (l : List Nat) (t : Nat) : Bool := match l with
  | [] => false
  | a :: r => match Nat.beq a t with
    | true => true
    | false => zhas r t
def zgo (bl : XB) (cuts : List Nat) (K : ZK) (ih : ZH) (t : Nat) (ls : ZL) (st : List ZV) (I L : ZI) (R : ZR) (S : ZS) : Prop := match zhas cuts t with
  | true => K t ls st I L R S
  | false => ih (xfind bl t).1 (xfind bl t).2 ls st I L R S
/-- a table of places to go to -/
def zwt (pc : Nat) (x : Int) (G : Nat → Prop) : Int → List Int → Prop
  | _, [] => True
  | v, o :: r => (0 ≤ (pc : Int) + o ∧ (x = v → G ((pc : Int) + o).toNat)) ∧ zwt pc x G (v + 1) r
def zlks (pc : Nat) (x d : Int) (G : Nat → Prop) : List (Int × Int) → Prop
  | [] => G ((pc : Int) + d).toNat
  | q :: r => (x = q.1 → G ((pc : Int) + q.2).toNat) ∧ (x ≠ q.1 → zlks pc x d G r)
/-- a place of an array -/
def zpl (S : ZS) (k t : Nat) (j : Int) : Prop := k < S.2.1 ∧ (S.1 k).1 = t ∧ 0 ≤ j ∧ j < (S.1 k).2 ∧ j ≤ 2147483647
def zz {α : Type} (f : Nat → Nat → α) (k : Nat) (v : α) : Nat → Nat → α := fun a b => if a = k then v else f a b
def znS (S : ZS) (t len : Nat) : ZS := (fun a => if a = S.2.1 then (t, len) else S.1 a, S.2.1 + 1, S.2.2 + len)
def zcall (h : Nat) (a b : Nat) (av rest : List ZV) (ih : ZH) (r : List XI) (fall : Nat) (ls : ZL) (I L : ZI) (R : ZR) (S : ZS) : Prop :=
  match Nat.blt 8 (zcats rest) with
  | true => False
  | false => match Nat.blt a 22 with
    | true => ∃ T : ZT, ZSnd h a (b / 64) T ∧ T av I L R S (fun v I L R S => ih r fall ls (v.toList ++ rest) I L R S)
    | false => False
def zrest (h nL : Nat) (ret : Option FieldType) (bl : XB) (cuts : List Nat) (K : ZK) (Q : ZQ) (ih : ZH) (pc : Nat) (i : Instr) (a b : Nat) (r : List XI) (fall : Nat) (ls : ZL) (st : List ZV) (I L : ZI) (R : ZR) (S : ZS) : Prop :=
  match i with
  | .idiv => match st with
    | .inl y :: .inl x :: st => (r32 x ∧ r32 y ∧ y ≠ 0) ∧ ∀ q, q = x.tdiv y → (0 ≤ x → q = x / y) → ih r fall ls (zvi q :: st) I L R S
    | _ => False
  | .irem => match st with
    | .inl y :: .inl x :: st => (r32 x ∧ r32 y ∧ y ≠ 0) ∧ ∀ q, q = x.tmod y → (0 ≤ x → q = x % y) → ih r fall ls (zvi q :: st) I L R S
    | _ => False
  | .ldiv => match st with
    | .inr (.inl y) :: .inr (.inl x) :: st => (r64 x ∧ r64 y ∧ y ≠ 0) ∧ ∀ q, q = x.tdiv y → (0 ≤ x → q = x / y) → ih r fall ls (zvl q :: st) I L R S
    | _ => False
  | .lrem => match st with
    | .inr (.inl y) :: .inr (.inl x) :: st => (r64 x ∧ r64 y ∧ y ≠ 0) ∧ ∀ q, q = x.tmod y → (0 ≤ x → q = x % y) → ih r fall ls (zvl q :: st) I L R S
    | _ => False
  | .i2l => match st with
    | .inl x :: st => r32 x ∧ ih r fall ls (zvl x :: st) I L R S
    | _ => False
  | .lcmp => match st with
    | .inr (.inl y) :: .inr (.inl x) :: st => (r64 x ∧ r64 y) ∧ (match r with
      | (pc2, .ifCond c o, _) :: r2 => zbr c x y (zgo bl cuts K ih ((pc2 : Int) + o).toNat ls st I L R S) (ih r2 fall ls st I L R S)
      | _ => False)
    | _ => False
  | .goto o => zgo bl cuts K ih ((pc : Int) + o).toNat ls st I L R S
  | .ifCond c o => match st with
    | .inl x :: st => r32 x ∧ zbr c x 0 (zgo bl cuts K ih ((pc : Int) + o).toNat ls st I L R S) (ih r fall ls st I L R S)
    | _ => False
  | .if_icmp c o => match st with
    | .inl y :: .inl x :: st => (r32 x ∧ r32 y) ∧ zbr c x y (zgo bl cuts K ih ((pc : Int) + o).toNat ls st I L R S) (ih r fall ls st I L R S)
    | _ => False
  | .ifnull o => match st with
    | .inr (.inr (some _)) :: st => ih r fall ls st I L R S
    | .inr (.inr none) :: st => zgo bl cuts K ih ((pc : Int) + o).toNat ls st I L R S
    | _ => False
  | .ifnonnull o => match st with
    | .inr (.inr none) :: st => ih r fall ls st I L R S
    | .inr (.inr (some _)) :: st => zgo bl cuts K ih ((pc : Int) + o).toNat ls st I L R S
    | _ => False
  | .tableswitch d lo hi os => match st with
    | .inl x :: st => (r32 x ∧ hi = lo + os.size - 1) ∧ zwt pc x (fun t => zgo bl cuts K ih t ls st I L R S) lo os.toList ∧ (0 ≤ (pc : Int) + d ∧ (x < lo ∨ hi < x → zgo bl cuts K ih ((pc : Int) + d).toNat ls st I L R S))
    | _ => False
  | .lookupswitch d ps => match st with
    | .inl x :: st => r32 x ∧ 0 ≤ (pc : Int) + d ∧ (ps.toList.all fun q => decide (0 ≤ (pc : Int) + q.2)) = true ∧ zlks pc x d (fun t => zgo bl cuts K ih t ls st I L R S) ps.toList
    | _ => False
  | .getfield _ => match st with
    | .inr (.inr (some k)) :: st => xat S k a ∧ (match b % 8 with
      | 1 => ∀ v, v = L k (b / 8) → r64 v → ih r fall ls (zvl v :: st) I L R S
      | 2 => ∀ o, o = R k (b / 8) → ih r fall ls (zvo o :: st) I L R S
      | _ => ∀ v, v = I k (b / 8) → r32 v → ih r fall ls (zvi v :: st) I L R S)
    | _ => False
  | .putfield _ => match b % 8 with
    | 0 => match st with
      | .inl z :: .inr (.inr (some k)) :: st => (xat S k a ∧ r32 z) ∧ ih r fall ls st (xu I k (b / 8) z) L R S
      | _ => False
    | 1 => match st with
      | .inr (.inl z) :: .inr (.inr (some k)) :: st => (xat S k a ∧ r64 z) ∧ ih r fall ls st I (xu L k (b / 8) z) R S
      | _ => False
    | 2 => match st with
      | .inr (.inr o) :: .inr (.inr (some k)) :: st => xat S k a ∧ ih r fall ls st I L (xu R k (b / 8) o) S
      | _ => False
    | 3 => match st with
      | .inl z :: .inr (.inr (some k)) :: st => (xat S k a ∧ (z = 0 ∨ z = 1)) ∧ ih r fall ls st (xu I k (b / 8) z) L R S
      | _ => False
    | _ => False
  | .iaload => match st with
    | .inl j :: .inr (.inr (some k)) :: st => zpl S k 100 j ∧ ∀ v, v = I k j.toNat → r32 v → ih r fall ls (zvi v :: st) I L R S
    | _ => False
  | .laload => match st with
    | .inl j :: .inr (.inr (some k)) :: st => zpl S k 101 j ∧ ∀ v, v = L k j.toNat → r64 v → ih r fall ls (zvl v :: st) I L R S
    | _ => False
  | .baload => match st with
    | .inl j :: .inr (.inr (some k)) :: st => (zpl S k 102 j ∨ zpl S k 103 j) ∧ ∀ v, v = I k j.toNat → r32 v → ih r fall ls (zvi v :: st) I L R S
    | _ => False
  | .caload => match st with
    | .inl j :: .inr (.inr (some k)) :: st => zpl S k 104 j ∧ ∀ v, v = I k j.toNat → r32 v → ih r fall ls (zvi v :: st) I L R S
    | _ => False
  | .aaload => match st with
    | .inl j :: .inr (.inr (some k)) :: st => zpl S k 130 j ∧ ∀ o, o = R k j.toNat → ih r fall ls (zvo o :: st) I L R S
    | _ => False
  | .arraylength => match st with
    | .inr (.inr (some k)) :: st => (k < S.2.1 ∧ 100 ≤ (S.1 k).1) ∧ ∀ v : Int, v = (S.1 k).2 → ih r fall ls (zvi v :: st) I L R S
    | _ => False
  | .iastore => match st with
    | .inl z :: .inl j :: .inr (.inr (some k)) :: st => (x0 ≤ k ∧ zpl S k 100 j ∧ r32 z) ∧ ih r fall ls st (xu I k j.toNat z) L R S
    | _ => False
  | .lastore => match st with
    | .inr (.inl z) :: .inl j :: .inr (.inr (some k)) :: st => (x0 ≤ k ∧ zpl S k 101 j ∧ r64 z) ∧ ih r fall ls st I (xu L k j.toNat z) R S
    | _ => False
  | .bastore => match st with
    | .inl z :: .inl j :: .inr (.inr (some k)) :: st => (x0 ≤ k ∧ ((zpl S k 102 j ∧ -128 ≤ z ∧ z < 128) ∨ (zpl S k 103 j ∧ (z = 0 ∨ z = 1)))) ∧ ih r fall ls st (xu I k j.toNat z) L R S
    | _ => False
  | .castore => match st with
    | .inl z :: .inl j :: .inr (.inr (some k)) :: st => (x0 ≤ k ∧ zpl S k 104 j ∧ 0 ≤ z ∧ z < 65536) ∧ ih r fall ls st (xu I k j.toNat z) L R S
    | _ => False
  | .newarray _ => match st with
    | .inl n :: st => (0 ≤ n ∧ n < 1000000) ∧ ih r fall ls (zvr S.2.1 :: st) (zz I S.2.1 0) (zz L S.2.1 0) (zz R S.2.1 none) (znS S a n.toNat)
    | _ => False
  | .new _ => ih r fall ls (zvr S.2.1 :: st) (zz I S.2.1 0) (zz L S.2.1 0) (zz R S.2.1 none) (znS S a b)
  | .invokevirtual _ => match st.drop (b % 64) with
    | .inr (.inr (some k)) :: rest => xat S k a ∧ zcall h a b (zvr k :: (st.take (b % 64)).reverse) rest ih r fall ls I L R S
    | _ => False
  | .invokespecial _ => match Nat.beq a 999 with
    | true => match st with
      | .inr (.inr (some _)) :: st => (match Nat.blt 8 (zcats st) with
        | true => False
        | false => ih r fall ls st I L R S)
      | _ => False
    | false => match st.drop (b % 64) with
      | .inr (.inr (some k)) :: rest => zcall h a b (zvr k :: (st.take (b % 64)).reverse) rest ih r fall ls I L R S
      | _ => False
  | .invokestatic _ => match Nat.beq a 999 with
    | true => match b with
      | 11 => match st with
        | .inl y :: .inl x :: st => (r32 x ∧ r32 y) ∧ (match Nat.blt 8 (zcats st) with
          | true => False
          | false => ih r fall ls (zvi (max x y) :: st) I L R S)
        | _ => False
      | 12 => match st with
        | .inl y :: .inl x :: st => (r32 x ∧ r32 y) ∧ (match Nat.blt 8 (zcats st) with
          | true => False
          | false => ih r fall ls (zvi (min x y) :: st) I L R S)
        | _ => False
      | 13 => match st with
        | .inl x :: st => r32 x ∧ (match Nat.blt 8 (zcats st) with
          | true => False
          | false => ∀ v, (0 ≤ x → v = x) → (x < 0 → v = -x) → ih r fall ls (zvi v :: st) I L R S)
        | _ => False
      | 14 => match st with
        | .inr (.inl y) :: .inr (.inl x) :: st => (r64 x ∧ r64 y) ∧ (match Nat.blt 8 (zcats st) with
          | true => False
          | false => ih r fall ls (zvl (max x y) :: st) I L R S)
        | _ => False
      | 15 => match st with
        | .inr (.inl y) :: .inr (.inl x) :: st => (r64 x ∧ r64 y) ∧ (match Nat.blt 8 (zcats st) with
          | true => False
          | false => ih r fall ls (zvl (min x y) :: st) I L R S)
        | _ => False
      | 16 => match st with
        | .inr (.inl x) :: st => r64 x ∧ (match Nat.blt 8 (zcats st) with
          | true => False
          | false => ∀ v, (0 ≤ x → v = x) → (x < 0 → v = -x) → ih r fall ls (zvl v :: st) I L R S)
        | _ => False
      | _ => False
    | false => match Nat.ble (b % 64) st.length with
      | true => zcall h a b (st.take (b % 64)).reverse (st.drop (b % 64)) ih r fall ls I L R S
      | false => False
  | .return_ => match st with
    | [] => match ret with
      | none => Q none I L R S
      | _ => False
    | _ => False
  | .ireturn => match st with
    | [.inl z] => match ret with
      | some .int => Q (some (zvi z)) I L R S
      | some .boolean => (z = 0 ∨ z = 1) ∧ Q (some (zvi z)) I L R S
      | some .char => (0 ≤ z ∧ z < 65536) ∧ Q (some (zvi z)) I L R S
      | _ => False
    | _ => False
  | .lreturn => match st with
    | [.inr (.inl z)] => match ret with
      | some .long => Q (some (zvl z)) I L R S
      | _ => False
    | _ => False
  | .areturn => match st with
    | [.inr (.inr (some k))] => match ret with
      | some (.object _) => Q (some (zvr k)) I L R S
      | some (.array _) => Q (some (zvr k)) I L R S
      | _ => False
    | _ => False
  | _ => False
def zbody (h nL : Nat) (ret : Option FieldType) (bl : XB) (cuts : List Nat) (K : ZK) (Q : ZQ) (ih : ZH) : ZH := fun code fall ls st I L R S =>
  match code with
  | [] => zgo bl cuts K ih fall ls st I L R S
  | x :: r => match zps nL x ls st with
    | some q => ih r fall q.1 q.2 I L R S
    | none => zrest h nL ret bl cuts K Q ih x.1 x.2.1 x.2.2.1 x.2.2.2.1 r fall ls st I L R S
noncomputable def zwp (h nL : Nat) (ret : Option FieldType) (bl : XB) (cuts : List Nat) (K : ZK) (Q : ZQ) (f : Nat) : ZH := Nat.rec (motive := fun _ => ZH) (fun _ _ _ _ _ _ _ _ => False) (fun _ ih => zbody h nL ret bl cuts K Q ih) f
