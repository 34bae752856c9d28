/-! fq: SCRIPTS: handlers as they lie -/
def hdH (hs : List HdT) : HdT := hs.getD 0 (0, 0, 0, 0, 0, 0, 0, fun _ => 0)
theorem hs_cons {hs : List HdT} (h : 1 ≤ hs.length) : hs = hdH hs :: hs.drop 1 := by
  cases hs with
  | nil => exact absurd h (by decide)
  | cons y o => rfl
theorem zHs_h {hs : List HdT} {I L : ZI} (h : zHs hs I L) (h1 : 1 ≤ hs.length) : zHd (hs.length - 1) (hdH hs) I L ∧ zHs (hs.drop 1) I L := by
  cases hs with
  | nil => exact absurd h1 (by decide)
  | cons y o => exact h
theorem hs_drop {hs : List HdT} : (hs.drop 1).length = hs.length - 1 := List.length_drop ..
theorem raH_1t {k p v : Int} {hs : List HdT} {E : EvE} {cl : Nat} (h1 : 1 ≤ hs.length) (e : (hdH hs).1 = 9) : raH k p v hs E cl = (1, (10, (hdH hs).2.1, (hdH hs).2.2.1, k, p, v, (hdH hs).2.2.2.2.2.2) :: hs.drop 1, E, (hdH hs).2.1, (hdH hs).2.2.1) := by
  have w := raH_t (k := k) (p := p) (v := v) (hs := hs.drop 1) (E := E) (cl := cl) e
  rw [← hs_cons h1] at w
  exact w
theorem raH_1a {k p v : Int} {hs : List HdT} {E : EvE} {cl : Nat} (h1 : 1 ≤ hs.length) (e : (hdH hs).1 = 7) : raH k p v hs E cl = raH k p v (hs.drop 1) (evRs E (hdH hs).2.2.2.2.2.2.1 (hdH hs).2.2.2.2.2.2.2) (hdH hs).2.1 := by
  have w := raH_a (k := k) (p := p) (v := v) (hs := hs.drop 1) (E := E) (cl := cl) e
  rw [← hs_cons h1] at w
  exact w
theorem raH_1o {k p v : Int} {hs : List HdT} {E : EvE} {cl : Nat} (h1 : 1 ≤ hs.length) (e : (hdH hs).1 ≠ 9) (e7 : (hdH hs).1 ≠ 7) : raH k p v hs E cl = raH k p v (hs.drop 1) E (hdH hs).2.1 := by
  have w := raH_o (k := k) (p := p) (v := v) (hs := hs.drop 1) (E := E) (cl := cl) e e7
  rw [← hs_cons h1] at w
  exact w
theorem raH_0 {k p v : Int} {hs : List HdT} {E : EvE} {cl : Nat} (h : hs.length = 0) : raH k p v hs E cl = (0, [], E, cl, 0) := by
  cases hs with
  | nil => rfl
  | cons y o => exact absurd h (by show ¬ o.length + 1 = 0; omega)
theorem hs_len {x : HdT} {hs : List HdT} : (((x :: hs.drop 1).length : Nat)) = hs.length - 1 + 1 := by
  rw [List.length_cons, List.length_drop]
def zRe (k p v : Int) (X : Nat × List HdT × EvE × Nat × Int) (I I' L' : ZI) : Prop := ((X.1 = 1 ∧ I' 234 52 = X.2.2.2.2 ∧ ∀ j : Nat, 46 ≤ j → j ≤ 50 → I' 234 j = I 234 j) ∨ (X.1 = 0 ∧ (I' 234 46 = k ∧ I' 234 47 = p ∧ I' 234 48 = v) ∧ (I' 234 50 = 1 ∧ I' 234 49 = 1) ∧ I' 234 52 = I 234 52)) ∧ zHs X.2.1 I' L' ∧ zRv X.2.2.1 I' L'
