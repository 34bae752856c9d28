/-! DIGITS as letters -/
theorem zi2c_d {x : Int} (h : 48 ≤ x ∧ x ≤ 57) : zi2c x = x := by
  have z : x = 48 ∨ x = 49 ∨ x = 50 ∨ x = 51 ∨ x = 52 ∨ x = 53 ∨ x = 54 ∨ x = 55 ∨ x = 56 ∨ x = 57 := by omega
  rcases z with rfl | rfl | rfl | rfl | rfl | rfl | rfl | rfl | rfl | rfl <;> decide +kernel
theorem wFd_e {k : Nat} {r d m : Int} (h : 0 < r) (hd : d = r / tTn k + 48) (hm : m = r % tTn k) : wFd (k + 1) r = d :: wFd k m := by
  rw [hd, hm]
  exact if_pos h
theorem wFd_n : ∀ {k : Nat} {r : Int}, ¬ 0 < r → wFd k r = []
  | 0, _, _ => rfl
  | _ + 1, _, h => if_neg h
theorem wFr_y {r : Int} (h : 0 < r) : wFr r = 46 :: wFd 6 r := if_pos h
theorem wFr_n {r : Int} (h : ¬ 0 < r) : wFr r = [] := if_neg h
