/-! A HEAP: the least one first -/
def hpO (h : Nat → Int) (z : Nat) : Prop := ∀ j : Nat, 0 < j → j < z → h ((j - 1) / 2) ≤ h j
def hpAdd (h : Nat → Int) (z : Nat) (v : Int) (h' : Nat → Int) : Prop := (∀ j : Nat, j < z + 1 → h' j = v ∨ zex (fun i => i < z ∧ h i = h' j)) ∧ zex (fun j => j < z + 1 ∧ h' j = v) ∧ ∀ i : Nat, i < z → zex (fun j => j < z + 1 ∧ h' j = h i)
def hpDel (h : Nat → Int) (z : Nat) (h' : Nat → Int) : Prop := (∀ j : Nat, j < z - 1 → zex (fun i => i < z ∧ h i = h' j)) ∧ ∀ i : Nat, i < z → h i ≠ h 0 → zex (fun j => j < z - 1 ∧ h' j = h i)
theorem hpO_min {h : Nat → Int} {z : Nat} (ho : hpO h z) : ∀ j : Nat, j < z → h 0 ≤ h j := by
  intro j
  induction j using Nat.strongRecOn with
  | ind j ih =>
    intro hj
    by_cases e : j = 0
    · rw [e]; exact Int.le_refl _
    · exact Int.le_trans (ih ((j - 1) / 2) (by omega) (by omega)) (ho j (by omega) hj)
def hpI (h : Nat → Int) (z : Nat) : Prop := ∀ i j : Nat, i < z → j < z → i ≠ j → h i ≠ h j
