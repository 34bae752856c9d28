/-! fc: SCRIPTS: what an expression's codes tell: the first fault in their order, else a value -/
/-- variables, facts: their number and fields, the list: its length and what it holds -/
abbrev EvE : Type := (Nat → Int) × Nat × (Nat → Int) × Nat × (Nat → Int)
def evB (c a b : Int) : Int := if c = 42 then zn6 (a * b) else if c = 47 then zn6 (a.tdiv b) else if c = 37 then a.tmod b else if c = 43 then zn6 (a + b) else if c = 45 then zn6 (a - b) else if c = 60 then (if a < b then 1 else 0) else if a = b then 1 else 0
def evU (E : EvE) (c v a : Int) : Nat × Int := if c = 95 then (0, zn6 (-a)) else if c = 64 then (if 0 ≤ a ∧ a < E.2.1 then (0, E.2.2.1 (6 * a.toNat + v.toNat)) else (2, 0)) else (if 0 ≤ a ∧ a < E.2.2.2.1 then (0, E.2.2.2.2 a.toNat) else (2, 0))
def evD (c b : Int) : Nat := if b = 0 ∧ (c = 47 ∨ c = 37) then 1 else 0
def evC (E : EvE) (c v : Int) (st : List Int) : Nat × List Int :=
  if c = 48 then (0, v :: st) else if c = 97 then (0, E.1 v.toNat :: st) else if c = 35 then (0, (E.2.1 : Int) :: st)
  else if c = 95 ∨ c = 64 ∨ c = 39 then (match st with | a :: s => if (evU E c v a).1 = 0 then (0, (evU E c v a).2 :: s) else ((evU E c v a).1, []) | [] => (9, []))
  else match st with | b :: a :: s => if evD c b = 0 then (0, evB c a b :: s) else (evD c b, []) | _ => (9, [])
def evL (E : EvE) : CdL → List Int → Nat × List Int
  | [], st => (0, st)
  | x :: r, st => if (evC E x.1 x.2 st).1 = 0 then evL E r (evC E x.1 x.2 st).2 else ((evC E x.1 x.2 st).1, [])
theorem evL_app {E : EvE} : ∀ {a b : CdL} {st : List Int}, evL E (a ++ b) st = if (evL E a st).1 = 0 then evL E b (evL E a st).2 else ((evL E a st).1, [])
  | [], b, st => (if_pos rfl).symm
  | x :: r, b, st => by
    show (if (evC E x.1 x.2 st).1 = 0 then evL E (r ++ b) (evC E x.1 x.2 st).2 else ((evC E x.1 x.2 st).1, [])) = if (if (evC E x.1 x.2 st).1 = 0 then evL E r (evC E x.1 x.2 st).2 else ((evC E x.1 x.2 st).1, [])).1 = 0 then evL E b (if (evC E x.1 x.2 st).1 = 0 then evL E r (evC E x.1 x.2 st).2 else ((evC E x.1 x.2 st).1, [])).2 else ((if (evC E x.1 x.2 st).1 = 0 then evL E r (evC E x.1 x.2 st).2 else ((evC E x.1 x.2 st).1, [])).1, [])
    by_cases e : (evC E x.1 x.2 st).1 = 0
    · rw [if_pos e, if_pos e]
      exact evL_app
    · rw [if_neg e, if_neg e]
      exact (if_neg e).symm
/-- codes of one value: fault f, else v -/
def evG (E : EvE) (l : CdL) (f : Nat) (v : Int) : Prop := ∀ st, evL E l st = if f = 0 then (0, v :: st) else (f, [])
theorem evG_1 {E : EvE} {c v : Int} (h : c = 48 ∨ c = 97 ∨ c = 35) : evG E [(c, v)] 0 (if c = 48 then v else if c = 97 then E.1 v.toNat else (E.2.1 : Int)) := fun st => by
  show (if (evC E c v st).1 = 0 then evL E [] (evC E c v st).2 else ((evC E c v st).1, [])) = _
  unfold evC
  rcases h with h | h | h
  · subst h; rfl
  · subst h; rfl
  · subst h; rfl
theorem evG_u {E : EvE} {l : CdL} {f : Nat} {v c d : Int} (h : evG E l f v) (hc : c = 95 ∨ c = 64 ∨ c = 39) : evG E (l ++ [(c, d)]) (if f = 0 then (evU E c d v).1 else f) (evU E c d v).2 := fun st => by
  rw [evL_app, h st]
  by_cases e : f = 0
  · rw [if_pos e, if_pos rfl, if_pos e]
    show (if (evC E c d (v :: st)).1 = 0 then evL E [] (evC E c d (v :: st)).2 else ((evC E c d (v :: st)).1, [])) = _
    have z : evC E c d (v :: st) = if (evU E c d v).1 = 0 then (0, (evU E c d v).2 :: st) else ((evU E c d v).1, []) := by
      unfold evC
      rw [if_neg (by omega), if_neg (by omega), if_neg (by omega), if_pos hc]
    rw [z]
    by_cases e2 : (evU E c d v).1 = 0
    · rw [if_pos e2]; rfl
    · rw [if_neg e2]
      exact if_neg e2
  · rw [if_neg e, if_neg e, if_neg e]
    exact (if_neg e).symm
theorem evG_b {E : EvE} {l m : CdL} {f g : Nat} {v w c d : Int} (h : evG E l f v) (h2 : evG E m g w) (hc : c = 42 ∨ c = 47 ∨ c = 37 ∨ c = 43 ∨ c = 45 ∨ c = 60 ∨ c = 61) : evG E (l ++ m ++ [(c, d)]) (if f = 0 then (if g = 0 then evD c w else g) else f) (evB c v w) := fun st => by
  rw [evL_app, evL_app, h st]
  by_cases e : f = 0
  · rw [if_pos e, if_pos rfl, if_pos e, h2 (v :: st)]
    by_cases e3 : g = 0
    · rw [if_pos e3, if_pos rfl, if_pos e3]
      show (if (evC E c d (w :: v :: st)).1 = 0 then evL E [] (evC E c d (w :: v :: st)).2 else ((evC E c d (w :: v :: st)).1, [])) = _
      have z : evC E c d (w :: v :: st) = if evD c w = 0 then (0, evB c v w :: st) else (evD c w, []) := by
        unfold evC
        rw [if_neg (by omega), if_neg (by omega), if_neg (by omega), if_neg (by omega)]
      rw [z]
      by_cases e2 : evD c w = 0
      · rw [if_pos e2]; rfl
      · rw [if_neg e2]
        exact if_neg e2
    · rw [if_neg e3, if_neg e3, if_neg e3]
      exact (if_neg e3).symm
  · rw [if_neg e, if_neg e, if_neg e, if_neg e]
    exact (if_neg e).symm
