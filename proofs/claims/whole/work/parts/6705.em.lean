/-! CUTS, the reference: exact, step by step -/
theorem zEx_z {s : BdS} {F F0 o v : Int} (ho : (o = -1 ∧ bOpn s (bnn s) = 0) ∨ (0 ≤ o ∧ 0 < bOpn s (bnn s))) (hF : F = F0) (h : (v = 1 ∧ o = -1 ∧ (cuSc (cuS s) (bnp s) : Int) = 0 ∧ F0 = 0) ∨ (v = 0 ∧ (o ≠ -1 ∨ (cuSc (cuS s) (bnp s) : Int) ≠ 0 ∨ F0 ≠ 0))) : zEx (cuX s F 0) v := by
  subst hF
  rcases h with ⟨h1, h2, h3, h4⟩ | ⟨h1, h2⟩
  · exact Or.inl ⟨h1, ⟨by omega, by omega, h4⟩, fun j hj => absurd hj (Nat.not_lt_zero j)⟩
  · refine Or.inr ⟨h1, fun q => ?_⟩
    obtain ⟨⟨q1, q2, q3⟩, -⟩ := q
    omega
theorem zEx_s {s : BdS} {F F' v v' a : Int} {n : Nat} (h : zEx (cuX s F n) v) (hF : F' = F) (hv : (v = 0 ∧ v' = 0) ∨ (v ≠ 0 ∧ a = cuAc (cuS s) (bnp s) n ∧ ((a ≠ 0 ∧ v' = 0) ∨ (a = 0 ∧ v' = 1)))) : zEx (cuX s F' (n + 1)) v' := by
  subst hF
  rcases hv with ⟨h1, h2⟩ | ⟨h1, h2, h3⟩
  · refine Or.inr ⟨h2, fun q => ?_⟩
    rcases h with h | h
    · omega
    · exact h.2 (cuX_s.mp q).1
  · rcases h with h | h
    · rcases h3 with h3 | h3
      · exact Or.inr ⟨h3.2, fun q => by have z := (cuX_s.mp q).2; omega⟩
      · exact Or.inl ⟨h3.2, cuX_s.mpr ⟨h.2, by omega⟩⟩
    · exact absurd h.1 h1
