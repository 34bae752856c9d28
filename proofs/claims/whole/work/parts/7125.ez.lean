/-! ez: SCRIPTS: the semicolon that is next -/
def eSm (c : Nat → Int) (n : Nat) : Nat → Nat → Nat
  | 0, p => p
  | k + 1, p => if p < n ∧ c p ≠ 59 then eSm c n k (p + 1) else p
theorem eSm_y {c : Nat → Int} {n k p : Nat} (h : p < n ∧ c p ≠ 59) : eSm c n (k + 1) p = eSm c n k (p + 1) := if_pos h
theorem eSm_n {c : Nat → Int} {n k p : Nat} (h : ¬ (p < n ∧ c p ≠ 59)) : eSm c n k p = p := by
  cases k with
  | zero => rfl
  | succ k => exact if_neg h
