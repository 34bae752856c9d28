/-! CUTS, the reference: kinds in their order -/
def cuKz (z : Nat) : Int := if z ≤ 3 then z else (z : Int) - 1
def cuBz (z : Nat) : Int := if z ≤ 1 then 0 else if z ≤ 4 then 1 else if z = 5 then 2 else 3
theorem cuKz_c : ∀ z : Nat, z ≤ 7 → 1 ≤ z → (z = 1 ∧ cuKz z = 1 ∧ cuBz z = 0) ∨ (z = 2 ∧ cuKz z = 2 ∧ cuBz z = 1) ∨ (z = 3 ∧ cuKz z = 3 ∧ cuBz z = 1) ∨ (z = 4 ∧ cuKz z = 3 ∧ cuBz z = 1) ∨ (z = 5 ∧ cuKz z = 4 ∧ cuBz z = 2) ∨ (z = 6 ∧ cuKz z = 5 ∧ cuBz z = 3) ∨ (z = 7 ∧ cuKz z = 6 ∧ cuBz z = 3) := fun z h g => by
  rcases (show z = 1 ∨ z = 2 ∨ z = 3 ∨ z = 4 ∨ z = 5 ∨ z = 6 ∨ z = 7 by omega) with rfl | rfl | rfl | rfl | rfl | rfl | rfl <;> decide
theorem cuNr_i {w : List CuR} {o s : Nat} {v : Int} : cuNr w o s v ↔ (v ≠ -1 ∧ cuSq w s o 0 < (cuRa (cg w s 0) + cuRa (cg w o 0) + v) * (cuRa (cg w s 0) + cuRa (cg w o 0) + v)) := by
  unfold cuNr
  rw [cuSq_s, show v + cuRa (cg w o 0) + cuRa (cg w s 0) = cuRa (cg w s 0) + cuRa (cg w o 0) + v by omega]
theorem cuV_kp {w : List CuR} {nr : Nat} {rf : Nat → Nat → Int} {o s z : Nat} (hG : cuG w) (hos : o < s) (hs : s < w.length) : cuV w nr rf z o s ↔ (((z = 0 ∧ cg w s 0 ≠ 3 ∧ cg w o 0 ≠ 3 ∧ cg w s 2 = cg w o 2 ∧ cg w s 1 ≠ cg w o 1) ∨ (z = 2 ∧ cg w s 0 = 3 ∧ cg w o 0 = 3)) ∧ cuVl rf z (cg w s 0) (cg w o 0) nr ≠ -1 ∧ cuSq w s o 0 < (cuRa (cg w s 0) + cuRa (cg w o 0) + cuVl rf z (cg w s 0) (cg w o 0) nr) * (cuRa (cg w s 0) + cuRa (cg w o 0) + cuVl rf z (cg w s 0) (cg w o 0) nr)) := by
  have gs := (hG s hs).1
  have go := (hG o (by omega)).1
  rw [← cuNr_i, cuVl_s go.1 gs.1]
  by_cases z0 : z = 0
  · subst z0
    rw [show ((0 : Nat) : Int) = 0 from rfl, cuV_k0 hos hs]
    constructor
    · rintro ⟨⟨a, b⟩, c, d, e⟩
      exact ⟨Or.inl ⟨rfl, b, a, c.symm, fun q => d q.symm⟩, e⟩
    · rintro ⟨⟨_, a, b, c, d⟩ | ⟨q, _⟩, e⟩
      · exact ⟨⟨b, a⟩, c.symm, fun q => d q.symm, e⟩
      · exact absurd q (by decide)
  · by_cases z2 : z = 2
    · subst z2
      rw [show ((2 : Nat) : Int) = 2 from rfl, cuV_k2 hos hs]
      constructor
      · rintro ⟨⟨a, b⟩, e⟩
        exact ⟨Or.inr ⟨rfl, b, a⟩, e⟩
      · rintro ⟨⟨q, _⟩ | ⟨_, a, b⟩, e⟩
        · exact absurd q (by decide)
        · exact ⟨⟨b, a⟩, e⟩
    · constructor
      · intro q
        exact absurd q (cuV_p (by omega))
      · rintro ⟨⟨q, _⟩ | ⟨q, _⟩, e⟩
        · exact absurd q z0
        · exact absurd q z2
