/-! fb: SCRIPTS: a block's end taken (class) -/
theorem zSr_z {k M : Nat} {y : StR} {I : ZI} (h : zSr k M y I) : zEr k M (y.1, y.2.1, []) I := by
  rcases h with h | h
  · exact Or.inl ⟨h.1, h.2.1.1, h.2.1.2.1⟩
  · exact Or.inr ⟨h.1, h.2.1.1, h.2.1.2.1, h.2.1.2.2⟩
theorem zSr_d {k M q : Nat} {w : Int} {c : Nat → Int} {y : StR} {I I2 I3 : ZI} (h : zSr k M y I) (h9 : y.1 = 1 → y.2.2.1 ≤ 200) (hI2 : ∀ x j : Nat, ¬ (x = k + 2 ∧ j = q) → I2 x j = I x j) (hat : I2 (k + 2) q = I k 2) (h3 : zEr k M (exT c w (y.1, y.2.1, [])) I3) (hf : ∀ x j : Nat, ¬ (x = k ∧ j = 2) → ¬ (x = k ∧ j = 3) → I3 x j = I2 x j) : zSr k M (srD c w q y) I3 := by
  have e4 : I3 k 4 = I k 4 := (hf k 4 (by omega) (by omega)).trans (hI2 k 4 (by omega))
  rcases h with ⟨h1, ⟨q2, q3, q4⟩, q5, q6⟩ | ⟨h1, ⟨q3, q2, q2'⟩, q4⟩
  · have z3 : exT c w (y.1, y.2.1, []) = if c y.2.1 = w then (1, y.2.1 + 1, []) else exF y.2.1 := if_pos h1
    have z4 : srD c w q y = if c y.2.1 = w then (1, y.2.1 + 1, y.2.2.1, upF y.2.2.2.1 q (y.2.1 : Int), y.2.2.2.2) else srF y y.2.1 := if_pos h1
    rw [z3] at h3
    rw [z4]
    by_cases e : c y.2.1 = w
    · rw [if_pos e] at h3
      rw [if_pos e]
      rcases h3 with h3 | h3
      · refine Or.inl ⟨rfl, ⟨h3.2.1, h3.2.2, e4.trans q4⟩, fun p hp => ?_, fun f hf' => (hf _ _ (by omega) (by omega)).trans ((hI2 _ _ (by omega)).trans (q6 f hf'))⟩
        refine (hf _ _ (by omega) (by omega)).trans ?_
        show I2 (k + 2) p = upF y.2.2.2.1 q (y.2.1 : Int) p
        unfold upF
        by_cases e2 : p = q
        · subst e2
          rw [if_pos rfl, hat]
          exact q2
        · rw [if_neg e2]
          exact (hI2 _ _ (by omega)).trans (q5 p hp)
      · exact absurd (show (1 : Nat) = 0 from h3.1) (by decide)
    · rw [if_neg e] at h3
      rw [if_neg e]
      rcases h3 with h3 | h3
      · exact absurd (show (0 : Nat) = 1 from h3.1) (by decide)
      · have hm : I3 k 4 = y.2.2.1 := e4.trans q4
        exact (Or.inr ⟨rfl, ⟨h3.2.1, h3.2.2.1, h3.2.2.2⟩, by omega, by have := h9 h1; omega⟩)
  · have z3 : exT c w (y.1, y.2.1, []) = (y.1, y.2.1, []) := if_neg (by show ¬ y.1 = 1; omega)
    have z4 : srD c w q y = y := if_neg (by omega)
    rw [z3] at h3
    rw [z4]
    rcases h3 with h3 | h3
    · exact absurd (show y.1 = 1 from h3.1) (by omega)
    · exact Or.inr ⟨h1, ⟨h3.2.1, h3.2.2.1, h3.2.2.2⟩, by omega⟩
