/-! fz: SCRIPTS: the semicolon that ends a statement -/
def smF (e : Nat → Int) : Nat → Nat → Nat
  | 0, p => p
  | m + 1, p => if e p = 59 then p else smF e m (p + 1)
theorem smF_y {e : Nat → Int} {m p : Nat} (h : e p = 59) : smF e m p = p := by
  cases m with
  | zero => rfl
  | succ m => exact if_pos h
theorem smF_n {e : Nat → Int} {m p : Nat} (h : ¬ e p = 59) : smF e (m + 1) p = smF e m (p + 1) := if_neg h
theorem smF_n' {e : Nat → Int} {n p : Nat} (hp : p < n) (h : ¬ e p = 59) : smF e (n - p) p = smF e (n - (p + 1)) (p + 1) := by
  rw [show n - p = (n - (p + 1)) + 1 by omega]
  exact smF_n h
theorem smF_b {e : Nat → Int} : ∀ {m p : Nat}, p ≤ smF e m p ∧ smF e m p ≤ p + m
  | 0, p => ⟨Nat.le_refl p, Nat.le_refl p⟩
  | m + 1, p => by
    by_cases h : e p = 59
    · rw [smF_y h]; omega
    · rw [smF_n h]
      have q := smF_b (e := e) (m := m) (p := p + 1)
      omega
/-- no semicolon on the way, and one at the end -/
theorem smF_at {e : Nat → Int} : ∀ {m p q : Nat}, p ≤ q → q < p + m → (∀ j : Nat, p ≤ j → j < q → ¬ e j = 59) → e q = 59 → smF e m p = q
  | 0, p, q, h1, h2, _, _ => by omega
  | m + 1, p, q, h1, h2, h3, h4 => by
    by_cases h : e p = 59
    · rw [smF_y h]
      apply Nat.le_antisymm h1
      apply Nat.le_of_not_lt
      intro g
      exact h3 p (Nat.le_refl p) g h
    · rw [smF_n h]
      have hne : p ≠ q := fun g => h (by rw [g]; exact h4)
      exact smF_at (by omega) (by omega) (fun j g1 g2 => h3 j (by omega) g2) h4
