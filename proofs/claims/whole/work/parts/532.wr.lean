/-! TEXTS THAT ARE WRITTEN -/
def wAt (w : List Int) (i : Nat) : Int := w.getD i 0
theorem wAt_l {w : List Int} {u : Int} {i : Nat} (h : i < w.length) : wAt (w ++ [u]) i = wAt w i := by
  unfold wAt
  rw [List.getD_eq_getElem?_getD, List.getD_eq_getElem?_getD, List.getElem?_append_left h]
theorem wAt_e {w : List Int} {u : Int} : wAt (w ++ [u]) w.length = u := by
  unfold wAt
  rw [List.getD_eq_getElem?_getD, List.getElem?_append_right (Nat.le_refl _), Nat.sub_self]
  rfl
theorem wLn {w : List Int} {u : Int} : (w ++ [u]).length = w.length + 1 := by rw [List.length_append]; rfl
/-- the page of the class, as far as there is room; that of the reference -/
def zPG (k : Nat) (w : List Int) (I : ZI) : Prop := I k 12 = (min w.length 26000 : Nat) ∧ ∀ i, i < min w.length 26000 → I (k + 8) i = wAt w i
def zPO (k : Nat) (w : List Int) (I : ZI) : Prop := I k 26 = w.length ∧ ∀ i, i < w.length → I (k + 12) i = wAt w i
theorem zPG_fr {k : Nat} {w : List Int} {I I' : ZI} (h : zPG k w I) (hf : ∀ x j : Nat, (x = k ∧ j = 12) ∨ x = k + 8 → I' x j = I x j) : zPG k w I' := ⟨(hf k 12 (by omega)).trans h.1, fun i hi => (hf _ _ (by omega)).trans (h.2 i hi)⟩
theorem zPO_fr {k : Nat} {w : List Int} {I I' : ZI} (h : zPO k w I) (hf : ∀ x j : Nat, (x = k ∧ j = 26) ∨ x = k + 12 → I' x j = I x j) : zPO k w I' := ⟨(hf k 26 (by omega)).trans h.1, fun i hi => (hf _ _ (by omega)).trans (h.2 i hi)⟩
theorem zPG_e {k : Nat} {w : List Int} {u : Int} {I I' : ZI} (h : zPG k w I) (hl : w.length < 26000) (h12 : I' k 12 = w.length + 1) (hu : I' (k + 8) w.length = u) (hf : ∀ j, j ≠ w.length → I' (k + 8) j = I (k + 8) j) : zPG k (w ++ [u]) I' := by
  unfold zPG
  rw [wLn]
  refine ⟨by omega, fun i hi => ?_⟩
  by_cases e : i = w.length
  · rw [e, wAt_e]
    exact hu
  · rw [wAt_l (by omega)]
    exact (hf i e).trans (h.2 i (by omega))
theorem zPG_n {k : Nat} {w : List Int} {u : Int} {I : ZI} (h : zPG k w I) (hl : 26000 ≤ w.length) : zPG k (w ++ [u]) I := by
  unfold zPG
  rw [wLn]
  have h1 := h.1
  refine ⟨by omega, fun i hi => ?_⟩
  rw [wAt_l (by omega)]
  exact h.2 i (by omega)
theorem zPO_e {k : Nat} {w : List Int} {u : Int} {I I' : ZI} (h : zPO k w I) (h12 : I' k 26 = w.length + 1) (hu : I' (k + 12) w.length = u) (hf : ∀ j, j ≠ w.length → I' (k + 12) j = I (k + 12) j) : zPO k (w ++ [u]) I' := by
  unfold zPO
  rw [wLn]
  refine ⟨by omega, fun i hi => ?_⟩
  by_cases e : i = w.length
  · rw [e, wAt_e]
    exact hu
  · rw [wAt_l (by omega)]
    exact (hf i e).trans (h.2 i (by omega))
/-- so many times a letter; the first m letters of a text; those with what is put ahead of quotes -/
def wTm (u : Int) : Nat → List Int
  | 0 => []
  | m + 1 => wTm u m ++ [u]
def wRw (g : Nat → Int) : Nat → List Int
  | 0 => []
  | m + 1 => wRw g m ++ [g m]
def wBd (g : Nat → Int) : Nat → List Int
  | 0 => []
  | m + 1 => wBd g m ++ if g m = 34 ∨ g m = 92 then [92, g m] else [g m]
def wQt (g : Nat → Int) (m : Nat) : List Int := [34] ++ wBd g m ++ [34]
/-- whole numbers up to 9999 -/
def wDg (v s : Int) : Int := v / s % 10 + 48
def wWh (v : Int) : List Int := if 1000 ≤ v then [wDg v 1000, wDg v 100, wDg v 10, wDg v 1] else if 100 ≤ v then [wDg v 100, wDg v 10, wDg v 1] else if 10 ≤ v then [wDg v 10, wDg v 1] else [wDg v 1]
/-- millionths -/
def wFd : Nat → Int → List Int
  | 0, _ => []
  | k + 1, r => if 0 < r then (r / tTn k + 48) :: wFd k (r % tTn k) else []
def wFr (r : Int) : List Int := if 0 < r then 46 :: wFd 6 r else []
/-- a length, a whole number -/
def wAb (v : Int) : Int := if v < 0 then -v else v
def wNb (v : Int) (l : Nat) : List Int := (if v < 0 then [45] else []) ++ if l = 1 then wWh (wAb v / 1000000) ++ wFr (wAb v % 1000000) else wWh (wAb v)
/-- the word of a kind; a field; the fields; an object -/
def wWd (a : Nat) : Nat → List Int := wRw (tWd a)
def wF1 (O : OoS) (j a i : Nat) : List Int := if tFc a i = 86 then [51] else if tFc a i = 84 then wQt (otc O j (oCi a 1 i)) (otl O j (oCi a 1 i)) else wNb (onm O j (tNc a i)) (tLen (tFc a i))
def wFs (O : OoS) (j a : Nat) : Nat → List Int
  | 0 => []
  | i + 1 => wFs O j a i ++ ([32] ++ wF1 O j a i)
def wOb (O : OoS) (j a : Nat) : List Int := wWd a (tsb a).length ++ wFs O j a (tFn a)
theorem wWh_4 {v : Int} (h : 1000 ≤ v) : wWh v = [wDg v 1000, wDg v 100, wDg v 10, wDg v 1] := if_pos h
theorem wWh_3 {v : Int} (h : 100 ≤ v) (h2 : v < 1000) : wWh v = [wDg v 100, wDg v 10, wDg v 1] := (if_neg (by omega)).trans (if_pos h)
theorem wWh_2 {v : Int} (h : 10 ≤ v) (h2 : v < 100) : wWh v = [wDg v 10, wDg v 1] := (if_neg (by omega)).trans ((if_neg (by omega)).trans (if_pos h))
theorem wWh_1 {v : Int} (h2 : v < 10) : wWh v = [wDg v 1] := (if_neg (by omega)).trans ((if_neg (by omega)).trans (if_neg (by omega)))
theorem wA1 {w : List Int} {a b : Int} : w ++ [a] ++ [b] = w ++ [a, b] := by rw [List.append_assoc]; rfl
theorem wA2 {w : List Int} {a b c : Int} : w ++ [a] ++ [b] ++ [c] = w ++ [a, b, c] := by rw [wA1, List.append_assoc]; rfl
theorem wA3 {w : List Int} {a b c d : Int} : w ++ [a] ++ [b] ++ [c] ++ [d] = w ++ [a, b, c, d] := by rw [wA2, List.append_assoc]; rfl
