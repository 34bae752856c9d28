/-! fp: SCRIPTS: a run: what both change; the reference's machine -/
def evSv (E : EvE) (i : Nat) (x : Int) : EvE := (upF E.1 i x, E.2)
def evSf (E : EvE) (j : Nat) (x : Int) : EvE := (E.1, E.2.1, upF E.2.2.1 j x, E.2.2.2)
def evSl (E : EvE) (j : Nat) (x : Int) : EvE := (E.1, E.2.1, E.2.2.1, E.2.2.2.1, upF E.2.2.2.2 j x)
def evNw (E : EvE) (x : Int) : EvE := (E.1, E.2.1 + 1, (fun j => if j = 6 * E.2.1 then x else if 6 * E.2.1 < j ∧ j < 6 * E.2.1 + 6 then 0 else E.2.2.1 j), E.2.2.2)
def evLn (E : EvE) (n : Nat) : EvE := (E.1, E.2.1, E.2.2.1, n, fun _ => 0)
def evRs (E : EvE) (n : Nat) (f : Nat → Int) : EvE := (E.1, n, f, E.2.2.2)
/-- an expression asked for each fact from o on: its fault, what is left -/
def qrL (l : CdL) : Nat → Nat → EvE → Nat × EvE
  | 0, _, E => (0, E)
  | m + 1, o, E => if evF (evSv E 25 (o : Int)) l = 0 then qrL l m (o + 1) (evSv E 25 (o : Int)) else (evF (evSv E 25 (o : Int)) l, evSv E 25 (o : Int))
/-- a handler: kind, calls, target, pending kind, place, value, facts kept -/
abbrev HdT : Type := Int × Nat × Int × Int × Int × Int × Nat × (Nat → Int)
/-- an error goes up the handlers: whether one takes it (1), who stay, what is left, calls, where it goes on -/
def raH (k p v : Int) : List HdT → EvE → Nat → Nat × List HdT × EvE × Nat × Int
  | [], E, cl => (0, [], E, cl, 0)
  | h :: hs, E, _ => if h.1 = 9 then (1, (10, h.2.1, h.2.2.1, k, p, v, h.2.2.2.2.2.2) :: hs, E, h.2.1, h.2.2.1) else raH k p v hs (if h.1 = 7 then evRs E h.2.2.2.2.2.2.1 h.2.2.2.2.2.2.2 else E) h.2.1
def zHd (i : Nat) (h : HdT) (I L : ZI) : Prop := (I 259 i = h.1 ∧ I 260 i = h.2.1 ∧ (h.1 = 9 → I 261 i = h.2.2.1) ∧ I 262 i = h.2.2.2.1) ∧ (h.2.2.2.1 ≠ 0 → I 263 i = h.2.2.2.2.1 ∧ I 264 i = h.2.2.2.2.2.1) ∧ (h.1 = 7 → (I 266 i = h.2.2.2.2.2.2.1 ∧ h.2.2.2.2.2.2.1 ≤ 12) ∧ ∀ j : Nat, j < 72 → L 265 (72 * i + j) = h.2.2.2.2.2.2.2 j) ∧ h.2.1 ≤ 2
def zHs : List HdT → ZI → ZI → Prop
  | [], _, _ => True
  | h :: hs, I, L => zHd hs.length h I L ∧ zHs hs I L
theorem zHd_fr {i : Nat} {h : HdT} {I I' L L' : ZI} (q : zHd i h I L) (hf : ∀ x : Nat, 259 ≤ x → x ≤ 266 → I' x i = I x i) (hl : ∀ j : Nat, j < 72 → L' 265 (72 * i + j) = L 265 (72 * i + j)) : zHd i h I' L' := ⟨⟨(hf 259 (by decide) (by decide)).trans q.1.1, (hf 260 (by decide) (by decide)).trans q.1.2.1, fun w => (hf 261 (by decide) (by decide)).trans (q.1.2.2.1 w), (hf 262 (by decide) (by decide)).trans q.1.2.2.2⟩, fun w => ⟨(hf 263 (by decide) (by decide)).trans (q.2.1 w).1, (hf 264 (by decide) (by decide)).trans (q.2.1 w).2⟩, fun w => ⟨⟨(hf 266 (by decide) (by decide)).trans (q.2.2.1 w).1.1, (q.2.2.1 w).1.2⟩, fun j hj => (hl j hj).trans ((q.2.2.1 w).2 j hj)⟩, q.2.2.2⟩
theorem zHs_fr {I I' L L' : ZI} : ∀ {hs : List HdT}, zHs hs I L → (∀ x i : Nat, 259 ≤ x → x ≤ 266 → i < hs.length → I' x i = I x i) → (∀ j : Nat, j < 72 * hs.length → L' 265 j = L 265 j) → zHs hs I' L'
  | [], _, _, _ => True.intro
  | h :: hs, q, hf, hl => ⟨zHd_fr q.1 (fun x h1 h2 => hf x _ h1 h2 (Nat.lt_succ_self _)) (fun j hj => hl _ (by rw [List.length_cons]; omega)), zHs_fr q.2 (fun x i h1 h2 h3 => hf x i h1 h2 (Nat.lt_succ_of_lt h3)) (fun j hj => hl j (by rw [List.length_cons]; omega))⟩
theorem raH_t {k p v : Int} {h : HdT} {hs : List HdT} {E : EvE} {cl : Nat} (e : h.1 = 9) : raH k p v (h :: hs) E cl = (1, (10, h.2.1, h.2.2.1, k, p, v, h.2.2.2.2.2.2) :: hs, E, h.2.1, h.2.2.1) := if_pos e
theorem raH_a {k p v : Int} {h : HdT} {hs : List HdT} {E : EvE} {cl : Nat} (e : h.1 = 7) : raH k p v (h :: hs) E cl = raH k p v hs (evRs E h.2.2.2.2.2.2.1 h.2.2.2.2.2.2.2) h.2.1 := (if_neg (by omega)).trans (by rw [if_pos e])
theorem raH_o {k p v : Int} {h : HdT} {hs : List HdT} {E : EvE} {cl : Nat} (e : h.1 ≠ 9) (e7 : h.1 ≠ 7) : raH k p v (h :: hs) E cl = raH k p v hs E h.2.1 := (if_neg e).trans (by rw [if_neg e7])
theorem hd_cons {hs : List HdT} (h : 1 ≤ hs.length) : ∃ x, hs = x :: hs.drop 1 := by
  cases hs with
  | nil => exact absurd h (by decide)
  | cons y o => exact ⟨y, rfl⟩
/-- what is told and demanded: outputs, rules (orders) -/
abbrev DtT : Type := EvE × (Nat × (Nat → Int)) × (Nat × (Nat → Nat))
/-- the machine: data, steps taken, (done, result), error, next, calls, whence called, handlers -/
abbrev MsT : Type := DtT × Nat × (Nat × Int) × (Int × Int × Int) × Int × Nat × (Nat → Int) × List HdT
def mRa (k p v : Int) (x : MsT) : MsT := if (raH k p v x.2.2.2.2.2.2.2 x.1.1 x.2.2.2.2.2.1).1 = 1 then (((raH k p v x.2.2.2.2.2.2.2 x.1.1 x.2.2.2.2.2.1).2.2.1, x.1.2), x.2.1, x.2.2.1, x.2.2.2.1, (raH k p v x.2.2.2.2.2.2.2 x.1.1 x.2.2.2.2.2.1).2.2.2.2, (raH k p v x.2.2.2.2.2.2.2 x.1.1 x.2.2.2.2.2.1).2.2.2.1, x.2.2.2.2.2.2.1, (raH k p v x.2.2.2.2.2.2.2 x.1.1 x.2.2.2.2.2.1).2.1)
  else (((raH k p v x.2.2.2.2.2.2.2 x.1.1 x.2.2.2.2.2.1).2.2.1, x.1.2), x.2.1, (1, 1), (k, p, v), x.2.2.2.2.1, (raH k p v x.2.2.2.2.2.2.2 x.1.1 x.2.2.2.2.2.1).2.2.2.1, x.2.2.2.2.2.2.1, [])
def mDt (x : MsT) (d : DtT) : MsT := (d, x.2)
def mNx (x : MsT) (i : Int) : MsT := (x.1, x.2.1, x.2.2.1, x.2.2.2.1, i, x.2.2.2.2.2)
def mE (x : MsT) (E : EvE) : MsT := ((E, x.1.2), x.2)
/-- orders that act (o: the order, i: its number), one step spent -/
def mAc (i : Nat) (o : OrT) (u : Nat → Int) (x : MsT) : MsT :=
  let E := x.1.1
  let f1 := evF E o.2.2.2.1
  let a := evV E o.2.2.2.1
  let f2 := evF E o.2.2.2.2.1
  let v := evV E o.2.2.2.2.1
  if o.1 = 1 then (if f2 = 0 then mE x (evSv E o.2.2.1.toNat v) else mRa f2 o.2.1 0 x)
  else if o.1 = 2 ∨ o.1 = 3 then (if f1 ≠ 0 then mRa f1 o.2.1 0 x else if ¬ (0 ≤ a ∧ a < (if o.1 = 2 then (E.2.1 : Int) else (E.2.2.2.1 : Int))) then mRa 2 o.2.1 0 x else if f2 ≠ 0 then mRa f2 o.2.1 0 x else if o.1 = 2 then mE x (evSf E (6 * a.toNat + o.2.2.1.toNat) v) else mE x (evSl E a.toNat v))
  else if o.1 = 7 then (x.1, x.2.1, x.2.2.1, x.2.2.2.1, x.2.2.2.2.1, x.2.2.2.2.2.1, x.2.2.2.2.2.2.1, (7, x.2.2.2.2.2.1, 0, 0, 0, 0, E.2.1, E.2.2.1) :: x.2.2.2.2.2.2.2)
  else if o.1 = 9 then (x.1, x.2.1, x.2.2.1, x.2.2.2.1, x.2.2.2.2.1, x.2.2.2.2.2.1, x.2.2.2.2.2.2.1, (9, x.2.2.2.2.2.1, o.2.2.2.2.2, 0, 0, 0, E.2.1, E.2.2.1) :: x.2.2.2.2.2.2.2)
  else if o.1 = 18 then (if u o.2.2.1.toNat = -1 then mRa 6 o.2.1 0 x else if x.2.2.2.2.2.1 = 2 then mRa 5 o.2.1 0 x else (x.1, x.2.1, x.2.2.1, x.2.2.2.1, u o.2.2.1.toNat, x.2.2.2.2.2.1 + 1, upF x.2.2.2.2.2.2.1 x.2.2.2.2.2.1 x.2.2.2.2.1, x.2.2.2.2.2.2.2))
  else if o.1 = 14 then (if x.1.2.2.1 < 8 then mDt x (E, x.1.2.1, (x.1.2.2.1 + 1, upF x.1.2.2.2 x.1.2.2.1 i)) else x)
  else if o.1 = 15 then (if (qrL o.2.2.2.2.1 E.2.1 0 E).1 = 0 then mE x (evSv (qrL o.2.2.2.2.1 E.2.1 0 E).2 25 (E.1 25)) else mRa (qrL o.2.2.2.2.1 E.2.1 0 E).1 o.2.1 0 (mE x (qrL o.2.2.2.2.1 E.2.1 0 E).2))
  else if f2 ≠ 0 then mRa f2 o.2.1 0 x
  else if o.1 = 4 then (if x.1.2.1.1 < 40 then mDt x (E, (x.1.2.1.1 + 1, upF x.1.2.1.2 x.1.2.1.1 (zn v)), x.1.2.2) else x)
  else if o.1 = 12 then mRa 4 o.2.1 (zn v) x
  else if o.1 = 13 then (if E.2.1 = 12 then mRa 3 o.2.1 0 x else mE x (evNw E v))
  else if o.1 = 16 then (if v < 0 ∨ 20 < v then mRa 3 o.2.1 0 x else mE x (evLn E v.toNat))
  else if v = 0 then mNx x o.2.2.2.2.2 else x
def mSt (R : Nat → OrT) (u : Nat → Int) (lim : Nat) (x : MsT) : MsT :=
  if x.2.2.1.1 = 1 then x else
  let i := x.2.2.2.2.1.toNat
  let o := R i
  let y := mNx x (x.2.2.2.2.1 + 1)
  if o.1 = 20 then (x.1, x.2.1, (1, x.2.2.1.2), y.2.2.2)
  else if o.1 = 17 then mNx x o.2.2.2.2.2
  else if o.1 = 19 then (x.1, x.2.1, x.2.2.1, x.2.2.2.1, x.2.2.2.2.2.2.1 (x.2.2.2.2.2.1 - 1), x.2.2.2.2.2.1 - 1, x.2.2.2.2.2.2)
  else if o.1 = 8 then (x.1, x.2.1, x.2.2.1, x.2.2.2.1, x.2.2.2.2.1 + 1, x.2.2.2.2.2.1, x.2.2.2.2.2.2.1, x.2.2.2.2.2.2.2.drop 1)
  else if o.1 = 10 then (x.1, x.2.1, x.2.2.1, x.2.2.2.1, x.2.2.2.2.1 + 1, x.2.2.2.2.2.1, x.2.2.2.2.2.2.1, (match x.2.2.2.2.2.2.2 with | h :: hs => (10, h.2) :: hs | [] => []))
  else if o.1 = 11 then (match x.2.2.2.2.2.2.2 with | h :: hs => if h.2.2.2.1 = 0 then (x.1, x.2.1, x.2.2.1, x.2.2.2.1, x.2.2.2.2.1 + 1, x.2.2.2.2.2.1, x.2.2.2.2.2.2.1, hs) else mRa h.2.2.2.1 h.2.2.2.2.1 h.2.2.2.2.2.1 (x.1, x.2.1, x.2.2.1, x.2.2.2.1, x.2.2.2.2.1 + 1, x.2.2.2.2.2.1, x.2.2.2.2.2.2.1, hs) | [] => y)
  else if x.2.1 = lim then (x.1, x.2.1, (1, 2), y.2.2.2)
  else mAc i o u (x.1, x.2.1 + 1, y.2.2)
