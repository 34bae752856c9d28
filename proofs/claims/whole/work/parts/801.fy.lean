/-! fy: how many pads of a board are a net's -/
def pdC (s : BdS) (n : Int) : Nat → Nat
  | 0 => 0
  | m + 1 => pdC s n m + (if bP s m 3 = n then 1 else 0)
theorem pdC_y {s : BdS} {n : Int} {m : Nat} (h : bP s m 3 = n) : pdC s n (m + 1) = pdC s n m + 1 := by
  show pdC s n m + (if bP s m 3 = n then 1 else 0) = _
  rw [if_pos h]
theorem pdC_n {s : BdS} {n : Int} {m : Nat} (h : ¬ bP s m 3 = n) : pdC s n (m + 1) = pdC s n m := by
  show pdC s n m + (if bP s m 3 = n then 1 else 0) = _
  rw [if_neg h]
  rfl
theorem pdC_le {s : BdS} {n : Int} : ∀ {m : Nat}, pdC s n m ≤ m
  | 0 => Nat.le_refl 0
  | m + 1 => by
    by_cases h : bP s m 3 = n
    · rw [pdC_y h]; exact Nat.succ_le_succ pdC_le
    · rw [pdC_n h]; exact Nat.le_succ_of_le pdC_le
