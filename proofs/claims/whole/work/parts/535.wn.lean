/-! NUMBERS of objects lie in their ranges -/
def oNg (O : OoS) : Prop := ∀ j a i : Nat, j < ocn O → okd O j = a → a ≤ 8 → i < tFn a → tFc a i ≠ 84 → tFc a i ≠ 86 → tLo (tFc a i) ≤ onm O j (oCi a 0 i) ∧ onm O j (oCi a 0 i) ≤ tHi (tFc a i)
theorem tLo_b : ∀ a, a < 9 → ∀ i, i < 5 → (tFn a ≤ i ∨ tFc a i = 84 ∨ tFc a i = 86 ∨ (tFc a i = 78 ∧ tLo (tFc a i) = -1000000000 ∧ tHi (tFc a i) = 1000000000) ∨ (tFc a i ≠ 78 ∧ -360 ≤ tLo (tFc a i) ∧ tHi (tFc a i) ≤ 9999)) := by decide +kernel
theorem wNb_n {v : Int} {l : Nat} (h : v < 0) : wNb v l = [45] ++ if l = 1 then wWh (-v / 1000000) ++ wFr (-v % 1000000) else wWh (-v) := by
  unfold wNb wAb
  rw [if_pos h, if_pos h]
theorem wNb_p {v : Int} {l : Nat} (h : ¬ v < 0) : wNb v l = if l = 1 then wWh (v / 1000000) ++ wFr (v % 1000000) else wWh v := by
  unfold wNb wAb
  rw [if_neg h, if_neg h]
  rfl
