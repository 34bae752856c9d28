/-! fl: SCRIPTS: the reference's reader of a script, as a machine of steps: (1 going, 0 wrong; place; orders told; codes; statements; open blocks: kind, order; orders: kind, place, given, first, second, target; functions) -/
abbrev OrT : Type := Int × Int × Int × CdL × CdL × Int
abbrev RdT : Type := Nat × Nat × Nat × Nat × Nat × List (Int × Nat) × (Nat → OrT) × (Nat → Int)
def orG (r : Nat → OrT) (i : Nat) (v : Int) : Nat → OrT := upF r i ((r i).1, (r i).2.1, (r i).2.2.1, (r i).2.2.2.1, (r i).2.2.2.2.1, v)
def rdOp (c : Nat → Int) (kd br : Int) (of a t k n : Nat) (o : List (Int × Nat)) (r : Nat → OrT) (u : Nat → Int) : RdT := if c a = br ∧ ¬ o.length = 2 then (1, a + 1, t, k, n, (kd, of) :: o, r, u) else (0, a, t, k, n, o, r, u)
def smK (u : Int) : Int := if u = 33 then 4 else if u = 94 then 12 else if u = 43 then 13 else if u = 38 then 14 else if u = 124 then 15 else if u = 60 then 16 else 0
def stO (c : Nat → Int) (p : Nat) : OrT := if 97 ≤ c p ∧ c p ≤ 122 then (1, p, c p - 97, [], (exEx c 3 (p + 2)).2.2, 0) else if 65 ≤ c p ∧ c p ≤ 90 then (18, p, c p - 65, [], [], 0) else if c p = 64 then (2, p, c ((exAt c 3 (p + 1)).2.1 + 1) - 48, (exAt c 3 (p + 1)).2.2, (exEx c 3 ((exAt c 3 (p + 1)).2.1 + 3)).2.2, 0) else if c p = 39 then (3, p, 0, (exAt c 3 (p + 1)).2.2, (exEx c 3 ((exAt c 3 (p + 1)).2.1 + 1)).2.2, 0) else (smK (c p), p, 0, [], (exEx c 3 (p + 1)).2.2, 0)
def sqN (c : Nat → Int) (p : Nat) : Nat := if 65 ≤ c p ∧ c p ≤ 90 then 0 else if c p = 64 ∨ c p = 39 then (stO c p).2.2.2.1.length + 1 + ((stO c p).2.2.2.2.1.length + 1) else (stO c p).2.2.2.2.1.length + 1
def rdBw (c : Nat → Int) (kd bk : Int) (a t k n : Nat) (o : List (Int × Nat)) (r : Nat → OrT) (u : Nat → Int) : RdT := if (exEx c 3 (a + 1)).1 = 1 then rdOp c bk 123 t (exEx c 3 (a + 1)).2.1 (t + 1) (k + ((exEx c 3 (a + 1)).2.2.length + 1)) n o (upF r t (kd, a, 0, [], (exEx c 3 (a + 1)).2.2, 0)) u else (0, (exEx c 3 (a + 1)).2.1, t, k, n, o, r, u)
def rdFn (c : Nat → Int) (a t k n : Nat) (o : List (Int × Nat)) (r : Nat → OrT) (u : Nat → Int) : RdT := if 65 ≤ c (a + 1) ∧ c (a + 1) ≤ 90 then (if o.length = 0 ∧ u (c (a + 1) - 65).toNat = -1 then rdOp c 7 123 t (a + 2) (t + 1) k n o (upF r t (17, a, 0, [], [], 0)) (upF u (c (a + 1) - 65).toNat ((t + 1 : Nat) : Int)) else (0, a, t, k, n, o, r, u)) else (0, a + 1, t, k, n, o, r, u)
/-- a statement that opens no block -/
def rdSi (c : Nat → Int) (a t k n : Nat) (o : List (Int × Nat)) (r : Nat → OrT) (u : Nat → Int) : RdT := if (stS c a).1 = 1 then (1, (stS c a).2.1, t + 1, k + sqN c a, n, o, upF r t (stO c a), u) else (0, (stS c a).2.1, t, k, n, o, r, u)
/-- a statement -/
def rdTs (c : Nat → Int) (a t k n : Nat) (o : List (Int × Nat)) (r : Nat → OrT) (u : Nat → Int) : RdT := if n = 100 then (0, a, t, k, n, o, r, u) else if c a = 63 then rdBw c 5 1 a t k (n + 1) o r u else if c a = 42 then rdBw c 6 3 a t k (n + 1) o r u else if c a = 91 then rdOp c 4 91 t a (t + 1) k (n + 1) o (upF r t (7, a, 0, [], [], 0)) u else if c a = 126 then rdOp c 5 123 t (a + 1) (t + 1) k (n + 1) o (upF r t (9, a, 0, [], [], 0)) u else if c a = 58 then rdFn c a t k (n + 1) o r u else rdSi c a t k (n + 1) o r u
/-- the end of the innermost block -/
def rdCl (c : Nat → Int) (kd : Int) (of a t k n : Nat) (o : List (Int × Nat)) (r : Nat → OrT) (u : Nat → Int) : RdT :=
  if kd = 1 then (if c (a + 1) = 123 then rdOp c 2 123 t (a + 1) (t + 1) k n o (orG (upF r t (17, (r of).2.1, 0, [], [], 0)) of ((t + 1 : Nat) : Int)) u else (1, a + 1, t, k, n, o, orG r of (t : Int), u))
  else if kd = 2 then (1, a + 1, t, k, n, o, orG r of (t : Int), u)
  else if kd = 3 then (1, a + 1, t + 1, k, n, o, orG (upF r t (17, (r of).2.1, 0, [], [], (of : Int))) of ((t + 1 : Nat) : Int), u)
  else if kd = 4 then (1, a + 1, t + 1, k, n, o, upF r t (8, (r of).2.1, 0, [], [], 0), u)
  else if kd = 5 then rdOp c 6 123 of (a + 1) (t + 1) k n o (upF (orG r of (t : Int)) t (10, (r of).2.1, 0, [], [], 0)) u
  else if kd = 6 then (1, a + 1, t + 1, k, n, o, upF r t (11, (r of).2.1, 0, [], [], 0), u)
  else (1, a + 1, t + 1, k, n, o, orG (upF r t (19, (r of).2.1, 0, [], [], 0)) of ((t + 1 : Nat) : Int), u)
def rdX (c : Nat → Int) (N a t k n : Nat) (o : List (Int × Nat)) (r : Nat → OrT) (u : Nat → Int) : RdT :=
  if c a = 10 then (1, a + 1, t, k, n, o, r, u) else match o with
    | x :: o' => if c a = (if x.1 = 4 then 93 else 125) then rdCl c x.1 x.2 a t k n o' r u else if a < N then rdTs c a t k n (x :: o') r u else (0, a, t, k, n, x :: o', r, u)
    | [] => if a < N then rdTs c a t k n [] r u else (1, a, t, k, n, [], r, u)
def rdS (c : Nat → Int) (N : Nat) (x : RdT) : RdT := if x.1 = 1 then rdX c N x.2.1 x.2.2.1 x.2.2.2.1 x.2.2.2.2.1 x.2.2.2.2.2.1 x.2.2.2.2.2.2.1 x.2.2.2.2.2.2.2 else x
/-- orders still to come of the blocks that are open -/
def pnd : List (Int × Nat) → Nat
  | [] => 0
  | x :: o => (if x.1 = 5 then 2 else if x.1 = 2 then 0 else 1) + pnd o
def opG (t : Nat) : List (Int × Nat) → Prop
  | [] => True
  | x :: o => (1 ≤ x.1 ∧ x.1 ≤ 7) ∧ x.2 < t ∧ opG t o
theorem opG_m {t t' : Nat} (h : t ≤ t') : ∀ {o : List (Int × Nat)}, opG t o → opG t' o
  | [], _ => True.intro
  | _ :: _, g => ⟨g.1, by have := g.2.1; omega, opG_m h g.2.2⟩
def rdI (N : Nat) (x : RdT) : Prop := x.1 ≤ 1 ∧ x.2.1 ≤ N ∧ (x.1 = 1 → x.2.2.2.2.1 ≤ 100 ∧ x.2.2.1 + pnd x.2.2.2.2.2.1 ≤ 3 * x.2.2.2.2.1 ∧ x.2.2.2.1 ≤ x.2.1 + 2 * x.2.2.2.2.1 ∧ x.2.2.2.2.2.1.length ≤ 2 ∧ opG x.2.2.1 x.2.2.2.2.2.1)
