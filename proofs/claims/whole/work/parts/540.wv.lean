/-! THE REFERENCE writes: names -/
theorem wWd_3 : ∀ a, a < 9 → ((tsb a).length ≠ 3 ∨ (729 ≤ tCd a ∧ tCd a < 19683 ∧ wWd a (tsb a).length = [tCd a / 729 % 27 + 96, tCd a / 27 % 27 + 96, tCd a / 1 % 27 + 96])) := by decide +kernel
theorem wWd_4 : ∀ a, a < 9 → ((tsb a).length ≠ 4 ∨ (19683 ≤ tCd a ∧ tCd a < 531441 ∧ wWd a (tsb a).length = [tCd a / 19683 % 27 + 96, tCd a / 729 % 27 + 96, tCd a / 27 % 27 + 96, tCd a / 1 % 27 + 96])) := by decide +kernel
theorem wWd_5 : ∀ a, a < 9 → ((tsb a).length ≠ 5 ∨ (531441 ≤ tCd a ∧ tCd a < 14348907 ∧ wWd a (tsb a).length = [tCd a / 531441 % 27 + 96, tCd a / 19683 % 27 + 96, tCd a / 729 % 27 + 96, tCd a / 27 % 27 + 96, tCd a / 1 % 27 + 96])) := by decide +kernel
theorem wWd_6 : ∀ a, a < 9 → ((tsb a).length ≠ 6 ∨ (14348907 ≤ tCd a ∧ tCd a < 387420489 ∧ wWd a (tsb a).length = [tCd a / 14348907 % 27 + 96, tCd a / 531441 % 27 + 96, tCd a / 19683 % 27 + 96, tCd a / 729 % 27 + 96, tCd a / 27 % 27 + 96, tCd a / 1 % 27 + 96])) := by decide +kernel
theorem wWd_l : ∀ a, a < 9 → ((tsb a).length = 3 ∨ (tsb a).length = 4 ∨ (tsb a).length = 5 ∨ (tsb a).length = 6) := by decide +kernel
/-- a name by its number -/
theorem wWd_v {a : Nat} (ha : a < 9) : (729 ≤ tCd a ∧ tCd a < 19683 ∧ wWd a (tsb a).length = [tCd a / 729 % 27 + 96, tCd a / 27 % 27 + 96, tCd a / 1 % 27 + 96]) ∨ (19683 ≤ tCd a ∧ tCd a < 531441 ∧ wWd a (tsb a).length = [tCd a / 19683 % 27 + 96, tCd a / 729 % 27 + 96, tCd a / 27 % 27 + 96, tCd a / 1 % 27 + 96]) ∨ (531441 ≤ tCd a ∧ tCd a < 14348907 ∧ wWd a (tsb a).length = [tCd a / 531441 % 27 + 96, tCd a / 19683 % 27 + 96, tCd a / 729 % 27 + 96, tCd a / 27 % 27 + 96, tCd a / 1 % 27 + 96]) ∨ (14348907 ≤ tCd a ∧ tCd a < 387420489 ∧ wWd a (tsb a).length = [tCd a / 14348907 % 27 + 96, tCd a / 531441 % 27 + 96, tCd a / 19683 % 27 + 96, tCd a / 729 % 27 + 96, tCd a / 27 % 27 + 96, tCd a / 1 % 27 + 96]) := by
  rcases wWd_l a ha with h | h | h | h
  · exact Or.inl ((wWd_3 a ha).resolve_left (fun w => w h))
  · exact Or.inr (Or.inl ((wWd_4 a ha).resolve_left (fun w => w h)))
  · exact Or.inr (Or.inr (Or.inl ((wWd_5 a ha).resolve_left (fun w => w h))))
  · exact Or.inr (Or.inr (Or.inr ((wWd_6 a ha).resolve_left (fun w => w h))))
theorem wWd_b {a : Nat} (ha : a < 9) : (wWd a (tsb a).length).length ≤ 6 := by
  rcases wWd_v ha with h | h | h | h <;> rw [h.2.2] <;> simp only [List.length_cons, List.length_nil] <;> omega
theorem wWh_l {v : Int} : (wWh v).length ≤ 4 := by
  unfold wWh
  split
  · exact Nat.le_refl 4
  · split
    · exact Nat.le_succ 3
    · split
      · show 2 ≤ 4; omega
      · show 1 ≤ 4; omega
theorem wBd_l {g : Nat → Int} : ∀ {m : Nat}, (wBd g m).length ≤ 2 * m
  | 0 => Nat.le_refl 0
  | m + 1 => by
    have ih := wBd_l (g := g) (m := m)
    unfold wBd
    rw [List.length_append]
    split
    · show _ + 2 ≤ _; omega
    · show _ + 1 ≤ _; omega
theorem wTm_l {u : Int} : ∀ {m : Nat}, (wTm u m).length = m
  | 0 => rfl
  | m + 1 => by
    have ih := wTm_l (u := u) (m := m)
    unfold wTm
    rw [List.length_append, ih]
    rfl
