/-! fy: how many pads of a board are a net's -/
theorem bcn_y {P : Nat → Nat → Int} {n : Int} {m : Nat} (h : P m 3 = n) : bcn P n (m + 1) = bcn P n m + 1 := by
  show bcn P n m + (if P m 3 = n then 1 else 0) = _
  rw [if_pos h]
theorem bcn_n {P : Nat → Nat → Int} {n : Int} {m : Nat} (h : ¬ P m 3 = n) : bcn P n (m + 1) = bcn P n m := by
  show bcn P n m + (if P m 3 = n then 1 else 0) = _
  rw [if_neg h]
  rfl
