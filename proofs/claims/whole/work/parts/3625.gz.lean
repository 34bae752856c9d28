/-- what holds of each board, also while it is routed -/
def bGz (s : BdS) : Prop := ((1 ≤ bW s ∧ bW s ≤ 16) ∧ (1 ≤ bH s ∧ bH s ≤ 16) ∧ (1 ≤ bD s ∧ bD s ≤ 4) ∧ bW s * bH s * bD s ≤ 1024) ∧ (bnp s ≤ 40 ∧ bnn s ≤ 12) ∧ ∀ k l, k < 3 → l < 4 → bco s k l ≤ 50
theorem bGd_z {s : BdS} (h : bGd s) : bGz s := ⟨h.1, h.2.1, h.2.2.2.2.2.1⟩
