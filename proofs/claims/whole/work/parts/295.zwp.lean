/-! WEAKEST PRECONDITIONS over whole numbers: what is to be shown of a method, as a proposition that unfolds instruction by instruction; behind it: it holds of the abstract machine's run -/
abbrev ZV : Type := Int ⊕ (Int ⊕ Option Nat)
abbrev zvi (z : Int) : ZV := Sum.inl z
abbrev zvl (z : Int) : ZV := Sum.inr (Sum.inl z)
abbrev zvr (k : Nat) : ZV := Sum.inr (Sum.inr (some k))
abbrev zvo (o : Option Nat) : ZV := Sum.inr (Sum.inr o)
abbrev ZI : Type := Nat → Nat → Int
abbrev ZR : Type := Nat → Nat → Option Nat
abbrev ZS : Type := (Nat → Nat × Nat) × Nat × Nat
abbrev ZL : Type := List (Option ZV)
abbrev ZQ : Type := Option ZV → ZI → ZI → ZR → ZS → Prop
abbrev ZC : Type := ZL → List ZV → ZI → ZI → ZR → ZS → Prop
abbrev ZK : Type := Nat → ZC
abbrev ZF : Type := ZC → ZK → ZQ → ZC
abbrev ZB : Type := List (Nat × List ZF × Nat)
abbrev ZT : Type := List ZV → ZI → ZI → ZR → ZS → ZQ → Prop
def zden (v : ZV) : Value := match v with
  | .inl z => .int (Int32.ofInt z)
  | .inr (.inl z) => .long (Int64.ofInt z)
  | .inr (.inr (some k)) => .ref k
  | .inr (.inr none) => .null
def zmem (I L : ZI) (R : ZR) (S : ZS) : XM := (fun k j => Int32.ofInt (I k j), fun k j => Int64.ofInt (L k j), R, S)
abbrev r32 (z : Int) : Prop := -2147483648 ≤ z ∧ z ≤ 2147483647
abbrev r64 (z : Int) : Prop := -9223372036854775808 ≤ z ∧ z ≤ 9223372036854775807
/-- a number that a register takes for another one -/
def zW (z z' : Int) : Prop := Int32.ofInt z' = Int32.ofInt z ∧ r32 z'
def zW6 (z z' : Int) : Prop := Int64.ofInt z' = Int64.ofInt z ∧ r64 z'
def zok (I L : ZI) : Prop := (∀ k j, r32 (I k j)) ∧ ∀ k j, r64 (L k j)
def zget : ZL → Nat → Option ZV
  | [], _ => none
  | v :: r, i => match i with
    | 0 => v
    | i + 1 => zget r i
def zset : ZL → Nat → Option ZV → ZL
  | [], _, _ => []
  | v :: r, i, x => match i with
    | 0 => x :: r
    | i + 1 => v :: zset r i x
/-- a local is written; a long in the place ahead of it is gone -/
def zput1 : ZL → Nat → Option ZV → (ZL → Prop) → Prop
  | [], _, _, k => k []
  | a :: r, i, x, k => match i with
    | 0 => k (x :: r)
    | i + 1 => zput1 r i x fun r => k (a :: r)
def zputk : ZL → Nat → Option ZV → (ZL → Prop) → Prop
  | [], _, _, k => k []
  | a :: r, i, x, k => match i with
    | 0 => k (x :: r)
    | i + 1 => match i with
      | 0 => (match a with
        | some (.inr (.inl _)) => zput1 r 0 x fun r => k (none :: r)
        | _ => zput1 r 0 x fun r => k (a :: r))
      | i + 1 => zputk r (i + 1) x fun r => k (a :: r)
def zkill (ls : ZL) (i : Nat) : ZL := match i with
  | 0 => ls
  | i + 1 => match zget ls i with
    | some (.inr (.inl _)) => zset ls i none
    | _ => ls
def zst1 (ls : ZL) (i : Nat) (v : ZV) : ZL := zset (zkill ls i) i (some v)
def zst2 (ls : ZL) (i : Nat) (v : ZV) : ZL := zset (zset (zkill ls i) i (some v)) (i + 1) none
def zcat (v : ZV) : Nat := match v with
  | .inr (.inl _) => 2
  | _ => 1
def zcats (st : List ZV) : Nat := (st.map zcat).sum
/-- the locals of a method that begins -/
def zargs : List ZV → ZL
  | [] => []
  | v :: r => match zcat v with
    | 2 => some v :: none :: zargs r
    | _ => some v :: zargs r
def znone : Nat → ZL
  | 0 => []
  | n + 1 => none :: znone n
def zlay (n : Nat) (args : List ZV) : ZL := zargs args ++ znone (n - (zargs args).length)
/-- bits, as the machine has them -/
def zand (x y : Int) : Int := (Int32.ofInt x &&& Int32.ofInt y).toInt
def zor (x y : Int) : Int := (Int32.ofInt x ||| Int32.ofInt y).toInt
def zxor (x y : Int) : Int := (Int32.ofInt x ^^^ Int32.ofInt y).toInt
def zshl (x y : Int) : Int := (Int32.ofInt x <<< (Int32.ofInt y &&& 31)).toInt
def zshr (x y : Int) : Int := (Int32.ofInt x >>> (Int32.ofInt y &&& 31)).toInt
def zushr (x y : Int) : Int := ((Int32.ofInt x).toUInt32 >>> ((Int32.ofInt y).toUInt32 &&& Int32.toUInt32 31)).toInt32.toInt
def zland (x y : Int) : Int := (Int64.ofInt x &&& Int64.ofInt y).toInt
def zlor (x y : Int) : Int := (Int64.ofInt x ||| Int64.ofInt y).toInt
def zlshl (x y : Int) : Int := (Int64.ofInt x <<< ((Int32.ofInt y).toInt64 &&& 63)).toInt
def zlshr (x y : Int) : Int := (Int64.ofInt x >>> ((Int32.ofInt y).toInt64 &&& 63)).toInt
def zlushr (x y : Int) : Int := ((Int64.ofInt x).toUInt64 >>> ((Int32.ofInt y).toInt64.toUInt64 &&& Int64.toUInt64 63)).toInt64.toInt
def zi2b (x : Int) : Int := (Int32.ofInt x).toInt8.toInt32.toInt
def zi2c (x : Int) : Int := ((Int32.ofInt x).toUInt32 % 65536).toInt32.toInt
/-- a list of locals laid out -/
def zforce : ZL → (ZL → Prop) → Prop
  | [], k => k []
  | a :: r, k => zforce r fun r' => k (a :: r')
/-- a method's contract, as what it asks ahead of a use -/
def zpost (Q : ZQ) : Option Value → XM → Prop := fun v m => ∃ r I L R S, v = Option.map zden r ∧ m = zmem I L R S ∧ zok I L ∧ Q r I L R S
def ZSnd (h c i : Nat) (T : ZT) : Prop := ∀ d, h ≤ d → ∀ args I L R S Q, zok I L → T args I L R S Q → Nat.ble (xcats (args.map zden)) (xP c i).2.2.2.1 = true ∧ Xr xP d (xP c i) (xfind (xP c i).2.2.2.2.2 0).1 (xfind (xP c i).2.2.2.2.2 0).2 (lv_args 0 (args.map zden)) [] (zmem I L R S) (zpost Q)
/-- INSTRUCTIONS, each as what it asks: k goes on, g goes to a place, Q ends -/
def zf_no : ZF := fun _ _ _ _ _ _ _ _ _ => False
def zf_ic (n : Int) : ZF := fun k _ _ ls st I L R S => k ls (zvi n :: st) I L R S
def zf_lc (n : Int) : ZF := fun k _ _ ls st I L R S => k ls (zvl n :: st) I L R S
def zf_rc (n : Nat) : ZF := fun k _ _ ls st I L R S => k ls (zvr n :: st) I L R S
def zf_ild (i : Nat) : ZF := fun k _ _ ls st I L R S => match zget ls i with
  | some (.inl z) => k ls (zvi z :: st) I L R S
  | _ => False
def zf_lld (i : Nat) : ZF := fun k _ _ ls st I L R S => match zget ls i with
  | some (.inr (.inl z)) => k ls (zvl z :: st) I L R S
  | _ => False
def zf_ald (i : Nat) : ZF := fun k _ _ ls st I L R S => match zget ls i with
  | some (.inr (.inr (some q))) => k ls (zvr q :: st) I L R S
  | _ => False
def zf_ist (i : Nat) : ZF := fun k _ _ ls st I L R S => match st with
  | .inl z :: st => zputk ls i (some (zvi z)) fun ls => k ls st I L R S
  | _ => False
def zf_lst (i : Nat) : ZF := fun k _ _ ls st I L R S => match st with
  | .inr (.inl z) :: st => zputk ls i (some (zvl z)) fun ls => zput1 ls (i + 1) none fun ls => k ls st I L R S
  | _ => False
def zf_ast (i : Nat) : ZF := fun k _ _ ls st I L R S => match st with
  | .inr (.inr (some q)) :: st => zputk ls i (some (zvr q)) fun ls => k ls st I L R S
  | _ => False
def zf_inc (i : Nat) (n : Int) : ZF := fun k _ _ ls st I L R S => match zget ls i with
  | some (.inl z) => zputk ls i (some (zvi (z + n))) fun ls => k ls st I L R S
  | _ => False
def zf_add : ZF := fun k _ _ ls st I L R S => match st with
  | .inl y :: .inl x :: st => k ls (zvi (x + y) :: st) I L R S
  | _ => False
def zf_sub : ZF := fun k _ _ ls st I L R S => match st with
  | .inl y :: .inl x :: st => k ls (zvi (x - y) :: st) I L R S
  | _ => False
def zf_mul : ZF := fun k _ _ ls st I L R S => match st with
  | .inl y :: .inl x :: st => k ls (zvi (x * y) :: st) I L R S
  | _ => False
def zf_neg : ZF := fun k _ _ ls st I L R S => match st with
  | .inl x :: st => k ls (zvi (-x) :: st) I L R S
  | _ => False
/-- bits of two ints -/
def zf_bit (f : Int → Int → Int) : ZF := fun k _ _ ls st I L R S => match st with
  | .inl y :: .inl x :: st => k ls (zvi (f x y) :: st) I L R S
  | _ => False
def zf_cv (f : Int → Int) : ZF := fun k _ _ ls st I L R S => match st with
  | .inl x :: st => k ls (zvi (f x) :: st) I L R S
  | _ => False
def zf_ladd : ZF := fun k _ _ ls st I L R S => match st with
  | .inr (.inl y) :: .inr (.inl x) :: st => k ls (zvl (x + y) :: st) I L R S
  | _ => False
def zf_lsub : ZF := fun k _ _ ls st I L R S => match st with
  | .inr (.inl y) :: .inr (.inl x) :: st => k ls (zvl (x - y) :: st) I L R S
  | _ => False
def zf_lmul : ZF := fun k _ _ ls st I L R S => match st with
  | .inr (.inl y) :: .inr (.inl x) :: st => k ls (zvl (x * y) :: st) I L R S
  | _ => False
def zf_lneg : ZF := fun k _ _ ls st I L R S => match st with
  | .inr (.inl x) :: st => k ls (zvl (-x) :: st) I L R S
  | _ => False
def zf_lbit (f : Int → Int → Int) : ZF := fun k _ _ ls st I L R S => match st with
  | .inr (.inl y) :: .inr (.inl x) :: st => k ls (zvl (f x y) :: st) I L R S
  | _ => False
def zf_lsh (f : Int → Int → Int) : ZF := fun k _ _ ls st I L R S => match st with
  | .inl y :: .inr (.inl x) :: st => k ls (zvl (f x y) :: st) I L R S
  | _ => False
def zf_l2i : ZF := fun k _ _ ls st I L R S => match st with
  | .inr (.inl x) :: st => ∃ z, zW x z ∧ k ls (zvi z :: st) I L R S
  | _ => False
def zf_i2l : ZF := fun k _ _ ls st I L R S => match st with
  | .inl x :: st => r32 x ∧ k ls (zvl x :: st) I L R S
  | _ => False
def zf_dup : ZF := fun k _ _ ls st I L R S => match st with
  | .inl x :: st => k ls (zvi x :: zvi x :: st) I L R S
  | .inr (.inr o) :: st => k ls (zvo o :: zvo o :: st) I L R S
  | _ => False
def zf_pop : ZF := fun k _ _ ls st I L R S => match st with
  | .inl _ :: st => k ls st I L R S
  | .inr (.inr _) :: st => k ls st I L R S
  | _ => False
def zf_pop2 : ZF := fun k _ _ ls st I L R S => match st with
  | .inr (.inl _) :: st => k ls st I L R S
  | _ => False
def zf_dup2 : ZF := fun k _ _ ls st I L R S => match st with
  | .inr (.inl x) :: u :: st => k ls (zvl x :: zvl x :: u :: st) I L R S
  | .inl x :: .inr (.inr o) :: st => k ls (zvi x :: zvo o :: zvi x :: zvo o :: st) I L R S
  | .inl x :: .inl y :: st => k ls (zvi x :: zvi y :: zvi x :: zvi y :: st) I L R S
  | _ => False
def zf_div : ZF := fun k _ _ ls st I L R S => match st with
  | .inl y :: .inl x :: st => (r32 x ∧ r32 y ∧ y ≠ 0) ∧ ∀ q, q = x.tdiv y → (0 ≤ x → q = x / y) → k ls (zvi q :: st) I L R S
  | _ => False
def zf_rem : ZF := fun k _ _ ls st I L R S => match st with
  | .inl y :: .inl x :: st => (r32 x ∧ r32 y ∧ y ≠ 0) ∧ ∀ q, q = x.tmod y → (0 ≤ x → q = x % y) → k ls (zvi q :: st) I L R S
  | _ => False
def zf_ldiv : ZF := fun k _ _ ls st I L R S => match st with
  | .inr (.inl y) :: .inr (.inl x) :: st => ∃ x' y', (zW6 x x' ∧ zW6 y y' ∧ y' ≠ 0) ∧ ∀ q, q = x'.tdiv y' → (0 ≤ x' → q = x' / y') → k ls (zvl q :: st) I L R S
  | _ => False
def zf_lrem : ZF := fun k _ _ ls st I L R S => match st with
  | .inr (.inl y) :: .inr (.inl x) :: st => ∃ x' y', (zW6 x x' ∧ zW6 y y' ∧ y' ≠ 0) ∧ ∀ q, q = x'.tmod y' → (0 ≤ x' → q = x' % y') → k ls (zvl q :: st) I L R S
  | _ => False
def zf_lcmp : ZF := fun k _ _ ls st I L R S => match st with
  | .inr (.inl y) :: .inr (.inl x) :: st => ∃ x' y', (zW6 x x' ∧ zW6 y y') ∧ ∀ z, ((z < 0 ↔ x' < y') ∧ (0 < z ↔ y' < x') ∧ r32 z) → k ls (zvi z :: st) I L R S
  | _ => False
def zbr (c : ClassFile.Cond) (x y : Int) (A B : Prop) : Prop := match c with
  | .eq => (x = y → A) ∧ (x ≠ y → B)
  | .ne => (x ≠ y → A) ∧ (x = y → B)
  | .lt => (x < y → A) ∧ (y ≤ x → B)
  | .ge => (y ≤ x → A) ∧ (x < y → B)
  | .gt => (y < x → A) ∧ (x ≤ y → B)
  | .le => (x ≤ y → A) ∧ (y < x → B)
def zf_go (t : Nat) : ZF := fun _ g _ ls st I L R S => g t ls st I L R S
def zf_if (c : ClassFile.Cond) (t : Nat) : ZF := fun k g _ ls st I L R S => match st with
  | .inl x :: st => r32 x ∧ zbr c x 0 (g t ls st I L R S) (k ls st I L R S)
  | _ => False
def zf_ic2 (c : ClassFile.Cond) (t : Nat) : ZF := fun k g _ ls st I L R S => match st with
  | .inl y :: .inl x :: st => (r32 x ∧ r32 y) ∧ zbr c x y (g t ls st I L R S) (k ls st I L R S)
  | _ => False
def zf_nul (t : Nat) : ZF := fun k g _ ls st I L R S => match st with
  | .inr (.inr (some _)) :: st => k ls st I L R S
  | .inr (.inr none) :: st => g t ls st I L R S
  | _ => False
def zf_nnl (t : Nat) : ZF := fun k g _ ls st I L R S => match st with
  | .inr (.inr none) :: st => k ls st I L R S
  | .inr (.inr (some _)) :: st => g t ls st I L R S
  | _ => False
/-- a table of places to go to -/
def zwt (x : Int) (G : Nat → Prop) : Int → List Nat → Prop
  | _, [] => True
  | v, t :: r => (x = v → G t) ∧ zwt x G (v + 1) r
def zf_sw (d : Nat) (lo hi : Int) (os : List Nat) : ZF := fun _ g _ ls st I L R S => match st with
  | .inl x :: st => r32 x ∧ zwt x (fun t => g t ls st I L R S) lo os ∧ (x < lo ∨ hi < x → g d ls st I L R S)
  | _ => False
def zlks (x : Int) (d : Nat) (G : Nat → Prop) : List (Int × Nat) → Prop
  | [] => G d
  | q :: r => (x = q.1 → G q.2) ∧ (x ≠ q.1 → zlks x d G r)
def zf_lk (d : Nat) (ps : List (Int × Nat)) : ZF := fun _ g _ ls st I L R S => match st with
  | .inl x :: st => r32 x ∧ zlks x d (fun t => g t ls st I L R S) ps
  | _ => False
def zf_getI (a f : Nat) : ZF := fun k _ _ ls st I L R S => match st with
  | .inr (.inr (some q)) :: st => xat S q a ∧ ∀ v, v = I q f → r32 v → k ls (zvi v :: st) I L R S
  | _ => False
def zf_getL (a f : Nat) : ZF := fun k _ _ ls st I L R S => match st with
  | .inr (.inr (some q)) :: st => xat S q a ∧ ∀ v, v = L q f → r64 v → k ls (zvl v :: st) I L R S
  | _ => False
def zf_getR (a f : Nat) : ZF := fun k _ _ ls st I L R S => match st with
  | .inr (.inr (some q)) :: st => xat S q a ∧ ∀ o, o = R q f → k ls (zvo o :: st) I L R S
  | _ => False
def zf_putI (a f : Nat) : ZF := fun k _ _ ls st I L R S => match st with
  | .inl z :: .inr (.inr (some q)) :: st => xat S q a ∧ ∃ z', zW z z' ∧ k ls st (xu I q f z') L R S
  | _ => False
def zf_putL (a f : Nat) : ZF := fun k _ _ ls st I L R S => match st with
  | .inr (.inl z) :: .inr (.inr (some q)) :: st => xat S q a ∧ ∃ z', zW6 z z' ∧ k ls st I (xu L q f z') R S
  | _ => False
def zf_putR (a f : Nat) : ZF := fun k _ _ ls st I L R S => match st with
  | .inr (.inr o) :: .inr (.inr (some q)) :: st => xat S q a ∧ k ls st I L (xu R q f o) S
  | _ => False
def zf_putZ (a f : Nat) : ZF := fun k _ _ ls st I L R S => match st with
  | .inl z :: .inr (.inr (some q)) :: st => (xat S q a ∧ (z = 0 ∨ z = 1)) ∧ k ls st (xu I q f z) L R S
  | _ => False
/-- a place of an array -/
def zpl (S : ZS) (k t : Nat) (j : Int) : Prop := k < S.2.1 ∧ (S.1 k).1 = t ∧ 0 ≤ j ∧ j < (S.1 k).2 ∧ j ≤ 2147483647
def zf_aldI (t : Nat) : ZF := fun k _ _ ls st I L R S => match st with
  | .inl j :: .inr (.inr (some q)) :: st => zpl S q t j ∧ ∀ v, v = I q j.toNat → r32 v → k ls (zvi v :: st) I L R S
  | _ => False
def zf_aldB : ZF := fun k _ _ ls st I L R S => match st with
  | .inl j :: .inr (.inr (some q)) :: st => (zpl S q 102 j ∨ zpl S q 103 j) ∧ ∀ v, v = I q j.toNat → r32 v → k ls (zvi v :: st) I L R S
  | _ => False
def zf_aldL : ZF := fun k _ _ ls st I L R S => match st with
  | .inl j :: .inr (.inr (some q)) :: st => zpl S q 101 j ∧ ∀ v, v = L q j.toNat → r64 v → k ls (zvl v :: st) I L R S
  | _ => False
def zf_aldR : ZF := fun k _ _ ls st I L R S => match st with
  | .inl j :: .inr (.inr (some q)) :: st => zpl S q 130 j ∧ ∀ o, o = R q j.toNat → k ls (zvo o :: st) I L R S
  | _ => False
def zf_len : ZF := fun k _ _ ls st I L R S => match st with
  | .inr (.inr (some q)) :: st => (q < S.2.1 ∧ 100 ≤ (S.1 q).1) ∧ ∀ v : Int, v = (S.1 q).2 → k ls (zvi v :: st) I L R S
  | _ => False
def zf_astI : ZF := fun k _ _ ls st I L R S => match st with
  | .inl z :: .inl j :: .inr (.inr (some q)) :: st => (x0 ≤ q ∧ zpl S q 100 j) ∧ ∃ z', zW z z' ∧ k ls st (xu I q j.toNat z') L R S
  | _ => False
def zf_astL : ZF := fun k _ _ ls st I L R S => match st with
  | .inr (.inl z) :: .inl j :: .inr (.inr (some q)) :: st => (x0 ≤ q ∧ zpl S q 101 j) ∧ ∃ z', zW6 z z' ∧ k ls st I (xu L q j.toNat z') R S
  | _ => False
def zf_astB : ZF := fun k _ _ ls st I L R S => match st with
  | .inl z :: .inl j :: .inr (.inr (some q)) :: st => (x0 ≤ q ∧ ((zpl S q 102 j ∧ -128 ≤ z ∧ z < 128) ∨ (zpl S q 103 j ∧ (z = 0 ∨ z = 1)))) ∧ k ls st (xu I q j.toNat z) L R S
  | _ => False
def zf_astC : ZF := fun k _ _ ls st I L R S => match st with
  | .inl z :: .inl j :: .inr (.inr (some q)) :: st => (x0 ≤ q ∧ zpl S q 104 j ∧ 0 ≤ z ∧ z < 65536) ∧ k ls st (xu I q j.toNat z) L R S
  | _ => False
def zz {α : Type} (f : Nat → Nat → α) (k : Nat) (v : α) : Nat → Nat → α := fun a b => if a = k then v else f a b
def znS (S : ZS) (t len : Nat) : ZS := (fun a => if a = S.2.1 then (t, len) else S.1 a, S.2.1 + 1, S.2.2 + len)
def zf_newA (a : Nat) : ZF := fun k _ _ ls st I L R S => match st with
  | .inl n :: st => (0 ≤ n ∧ n < 1000000) ∧ k ls (zvr S.2.1 :: st) (zz I S.2.1 0) (zz L S.2.1 0) (zz R S.2.1 none) (znS S a n.toNat)
  | _ => False
def zf_new (a b : Nat) : ZF := fun k _ _ ls st I L R S => k ls (zvr S.2.1 :: st) (zz I S.2.1 0) (zz L S.2.1 0) (zz R S.2.1 none) (znS S a b)
def zcall (h a m : Nat) (av rest : List ZV) (k : ZC) : ZC := fun ls _ I L R S => match Nat.blt 8 (zcats rest) with
  | true => False
  | false => ∃ T : ZT, ZSnd h a m T ∧ T av I L R S (fun v I L R S => k ls (v.toList ++ rest) I L R S)
def zf_inv (h a m n : Nat) : ZF := fun k _ _ ls st I L R S => match st.drop n with
  | .inr (.inr (some q)) :: rest => xat S q a ∧ zcall h a m (zvr q :: (st.take n).reverse) rest k ls st I L R S
  | _ => False
def zf_ins (h a m n : Nat) : ZF := fun k _ _ ls st I L R S => match st.drop n with
  | .inr (.inr (some q)) :: rest => zcall h a m (zvr q :: (st.take n).reverse) rest k ls st I L R S
  | _ => False
def zf_ini : ZF := fun k _ _ ls st I L R S => match st with
  | .inr (.inr (some _)) :: st => (match Nat.blt 8 (zcats st) with
    | true => False
    | false => k ls st I L R S)
  | _ => False
def zf_inst (h a m n : Nat) : ZF := fun k _ _ ls st I L R S => match Nat.ble n st.length with
  | true => zcall h a m (st.take n).reverse (st.drop n) k ls st I L R S
  | false => False
/-- java.lang.Math's -/
def zmroom (st : List ZV) (A : Prop) : Prop := match Nat.blt 8 (zcats st) with
  | true => False
  | false => A
def zf_max : ZF := fun k _ _ ls st I L R S => match st with
  | .inl y :: .inl x :: st => (r32 x ∧ r32 y) ∧ zmroom st (k ls (zvi (max x y) :: st) I L R S)
  | _ => False
def zf_min : ZF := fun k _ _ ls st I L R S => match st with
  | .inl y :: .inl x :: st => (r32 x ∧ r32 y) ∧ zmroom st (k ls (zvi (min x y) :: st) I L R S)
  | _ => False
def zf_abs : ZF := fun k _ _ ls st I L R S => match st with
  | .inl x :: st => r32 x ∧ zmroom st (∀ v, ((0 ≤ x → v = x) ∧ (x < 0 → v = -x)) → k ls (zvi v :: st) I L R S)
  | _ => False
def zf_lmax : ZF := fun k _ _ ls st I L R S => match st with
  | .inr (.inl y) :: .inr (.inl x) :: st => (r64 x ∧ r64 y) ∧ zmroom st (k ls (zvl (max x y) :: st) I L R S)
  | _ => False
def zf_lmin : ZF := fun k _ _ ls st I L R S => match st with
  | .inr (.inl y) :: .inr (.inl x) :: st => (r64 x ∧ r64 y) ∧ zmroom st (k ls (zvl (min x y) :: st) I L R S)
  | _ => False
def zf_labs : ZF := fun k _ _ ls st I L R S => match st with
  | .inr (.inl x) :: st => r64 x ∧ zmroom st (∀ v, ((0 ≤ x → v = x) ∧ (x < 0 → v = -x)) → k ls (zvl v :: st) I L R S)
  | _ => False
/-- System.arraycopy -/
def zf_copy : ZF := fun k _ _ ls st I L R S => match st with
  | .inl n :: .inl dp :: .inr (.inr (some kd)) :: .inl sp :: .inr (.inr (some ks)) :: st => ((x0 ≤ kd ∧ kd < S.2.1 ∧ ks < S.2.1 ∧ (S.1 ks).1 = (S.1 kd).1 ∧ ((S.1 kd).1 = 100 ∨ (S.1 kd).1 = 101)) ∧ (0 ≤ n ∧ 0 ≤ sp ∧ 0 ≤ dp ∧ sp + n ≤ (S.1 ks).2 ∧ dp + n ≤ (S.1 kd).2) ∧ sp + n ≤ 2147483647 ∧ dp + n ≤ 2147483647) ∧ zmroom st (((S.1 kd).1 = 100 → k ls st (xcpF I ks kd sp.toNat dp.toNat n.toNat) L R S) ∧ ((S.1 kd).1 = 101 → k ls st I (xcpF L ks kd sp.toNat dp.toNat n.toNat) R S))
  | _ => False
/-- a text's length, a character -/
def zf_slen : ZF := fun k _ _ ls st I L R S => match st with
  | .inr (.inr (some q)) :: st => (10 ≤ q ∧ q < 39) ∧ zmroom st (k ls (zvi (tsb (q - 10)).length :: st) I L R S)
  | _ => False
def zf_schar : ZF := fun k _ _ ls st I L R S => match st with
  | .inl j :: .inr (.inr (some q)) :: st => ((10 ≤ q ∧ q < 39) ∧ 0 ≤ j ∧ j < (tsb (q - 10)).length) ∧ zmroom st (k ls (zvi ((tsb (q - 10)).getD j.toNat 0 : Nat) :: st) I L R S)
  | _ => False
def zf_ret : ZF := fun _ _ Q _ st I L R S => match st with
  | [] => Q none I L R S
  | _ => False
def zf_reti : ZF := fun _ _ Q _ st I L R S => match st with
  | [.inl z] => Q (some (zvi z)) I L R S
  | _ => False
def zf_retz : ZF := fun _ _ Q _ st I L R S => match st with
  | [.inl z] => (z = 0 ∨ z = 1) ∧ Q (some (zvi z)) I L R S
  | _ => False
def zf_retc : ZF := fun _ _ Q _ st I L R S => match st with
  | [.inl z] => (0 ≤ z ∧ z < 65536) ∧ Q (some (zvi z)) I L R S
  | _ => False
def zf_retl : ZF := fun _ _ Q _ st I L R S => match st with
  | [.inr (.inl z)] => Q (some (zvl z)) I L R S
  | _ => False
def zf_reta : ZF := fun _ _ Q _ st I L R S => match st with
  | [.inr (.inr (some q))] => Q (some (zvr q)) I L R S
  | _ => False
/-- a jump's place -/
def zto (pc : Nat) (o : Int) : Nat := ((pc : Int) + o).toNat
def zck (b : Bool) (f : ZF) : ZF := match b with
  | true => f
  | false => zf_no
/-- what an instruction asks -/
def zcv (h nL : Nat) (ret : Option FieldType) (x : XI) : ZF := match x with
  | (pc, i, a, b, c) => match i with
    | .iconst n => zf_ic n
    | .bipush n => zck (decide (-128 ≤ n) && decide (n < 128)) (zf_ic n)
    | .sipush n => zck (decide (-32768 ≤ n) && decide (n < 32768)) (zf_ic n)
    | .lconst n => zf_lc (Int.ofNat n.val)
    | .iload_n k => zf_ild k.val
    | .iload k => zf_ild k
    | .lload_n k => zf_lld k.val
    | .lload k => zf_lld k
    | .aload_n k => zf_ald k.val
    | .aload k => zf_ald k
    | .istore_n k => zck (Nat.blt k.val nL) (zf_ist k.val)
    | .istore k => zck (Nat.blt k nL) (zf_ist k)
    | .lstore_n k => zck (Nat.blt (k.val + 1) nL) (zf_lst k.val)
    | .lstore k => zck (Nat.blt (k + 1) nL) (zf_lst k)
    | .astore_n k => zck (Nat.blt k.val nL) (zf_ast k.val)
    | .astore k => zck (Nat.blt k nL) (zf_ast k)
    | .iinc k n => zck (Nat.blt k nL) (zf_inc k n)
    | .ldc _ => match Nat.beq a 0 with
      | true => zf_ic c
      | false => zck (Nat.beq a 1 && (Nat.ble 10 b && Nat.blt b 39)) (zf_rc b)
    | .ldc_w _ => match Nat.beq a 0 with
      | true => zf_ic c
      | false => zck (Nat.beq a 1 && (Nat.ble 10 b && Nat.blt b 39)) (zf_rc b)
    | .ldc2_w _ => zck (Nat.beq a 0) (zf_lc c)
    | .getstatic _ => zck (Nat.ble 1 a && Nat.ble a 5) (zf_rc a)
    | .iadd => zf_add
    | .isub => zf_sub
    | .imul => zf_mul
    | .ineg => zf_neg
    | .iand => zf_bit zand
    | .ior => zf_bit zor
    | .ixor => zf_bit zxor
    | .ishl => zf_bit zshl
    | .ishr => zf_bit zshr
    | .iushr => zf_bit zushr
    | .ladd => zf_ladd
    | .lsub => zf_lsub
    | .lmul => zf_lmul
    | .lneg => zf_lneg
    | .land => zf_lbit zland
    | .lor => zf_lbit zlor
    | .lshl => zf_lsh zlshl
    | .lshr => zf_lsh zlshr
    | .lushr => zf_lsh zlushr
    | .l2i => zf_l2i
    | .i2l => zf_i2l
    | .i2b => zf_cv zi2b
    | .i2c => zf_cv zi2c
    | .dup => zf_dup
    | .pop => zf_pop
    | .pop2 => zf_pop2
    | .dup2 => zf_dup2
    | .idiv => zf_div
    | .irem => zf_rem
    | .ldiv => zf_ldiv
    | .lrem => zf_lrem
    | .lcmp => zf_lcmp
    | .goto o => zf_go (zto pc o)
    | .ifCond cc o => zf_if cc (zto pc o)
    | .if_icmp cc o => zf_ic2 cc (zto pc o)
    | .ifnull o => zf_nul (zto pc o)
    | .ifnonnull o => zf_nnl (zto pc o)
    | .tableswitch d lo hi os => zck (decide (0 ≤ (pc : Int) + d) && (decide (hi = lo + os.size - 1) && os.toList.all fun o => decide (0 ≤ (pc : Int) + o))) (zf_sw (zto pc d) lo hi (os.toList.map fun o => zto pc o))
    | .lookupswitch d ps => zck (decide (0 ≤ (pc : Int) + d) && ps.toList.all fun q => decide (0 ≤ (pc : Int) + q.2)) (zf_lk (zto pc d) (ps.toList.map fun q => (q.1, zto pc q.2)))
    | .getfield _ => match b % 8 with
      | 0 => zf_getI a (b / 8)
      | 1 => zf_getL a (b / 8)
      | 2 => zf_getR a (b / 8)
      | 3 => zf_getI a (b / 8)
      | _ => zf_no
    | .putfield _ => match b % 8 with
      | 0 => zf_putI a (b / 8)
      | 1 => zf_putL a (b / 8)
      | 2 => zf_putR a (b / 8)
      | 3 => zf_putZ a (b / 8)
      | _ => zf_no
    | .iaload => zf_aldI 100
    | .caload => zf_aldI 104
    | .baload => zf_aldB
    | .laload => zf_aldL
    | .aaload => zf_aldR
    | .arraylength => zf_len
    | .iastore => zf_astI
    | .lastore => zf_astL
    | .bastore => zf_astB
    | .castore => zf_astC
    | .newarray _ => zf_newA a
    | .new _ => zf_new a b
    | .invokevirtual _ => match Nat.beq a 999 with
      | true => match b with
        | 1 => zf_slen
        | 2 => zf_schar
        | _ => zf_no
      | false => zck (Nat.blt a 22) (zf_inv h a (b / 64) (b % 64))
    | .invokespecial _ => match Nat.beq a 999 with
      | true => zf_ini
      | false => zck (Nat.blt a 22) (zf_ins h a (b / 64) (b % 64))
    | .invokestatic _ => match Nat.beq a 999 with
      | true => match b with
        | 11 => zf_max
        | 12 => zf_min
        | 13 => zf_abs
        | 14 => zf_lmax
        | 15 => zf_lmin
        | 16 => zf_labs
        | 20 => zf_copy
        | _ => zf_no
      | false => zck (Nat.blt a 22) (zf_inst h a (b / 64) (b % 64))
    | .return_ => match ret with
      | none => zf_ret
      | _ => zf_no
    | .ireturn => match ret with
      | some .int => zf_reti
      | some .boolean => zf_retz
      | some .char => zf_retc
      | _ => zf_no
    | .lreturn => match ret with
      | some .long => zf_retl
      | _ => zf_no
    | .areturn => match ret with
      | some (.object _) => zf_reta
      | some (.array _) => zf_reta
      | _ => zf_no
    | _ => zf_no
/-- a method's table of what its stretches ask -/
def zcvT (h nL : Nat) (ret : Option FieldType) (bl : XB) : ZB := bl.map fun q => (q.1, q.2.1.map (zcv h nL ret), q.2.2)
noncomputable def zblk (g : ZK) (Q : ZQ) (l : List ZF) (k : ZC) : ZC := List.rec (motive := fun _ => ZC) k (fun f _ ih => f ih g Q) l
def zfind : ZB → Nat → List ZF × Nat
  | [], t => ([], t)
  | q :: r, t => match Nat.beq q.1 t with
    | true => q.2
    | false => zfind r t
def zhas (l : List Nat) (t : Nat) : Bool := match l with
  | [] => false
  | a :: r => match Nat.beq a t with
    | true => true
    | false => zhas r t
def zgo (cuts : List Nat) (K ih : ZK) : ZK := fun t => match zhas cuts t with
  | true => K t
  | false => ih t
noncomputable def zwp (tb : ZB) (cuts : List Nat) (K : ZK) (Q : ZQ) (f : Nat) : ZK := Nat.rec (motive := fun _ => ZK) (fun _ _ _ _ _ _ _ => False) (fun _ ih => fun t => zblk (zgo cuts K ih) Q (zfind tb t).1 (zgo cuts K ih (zfind tb t).2)) f
