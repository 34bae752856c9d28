/-! THE NUMBERS OF A TEXT ARE IN THEIR RANGES -/
def tPub (a i j : Nat) : Bool := decide (tFn a ≤ i) || (decide (tFn a ≤ j) || (decide (i = j) || (decide (a = 0) || (decide (tFc a i = 84) || (decide (tFc a j = 84) || !decide (oCi a 0 i = oCi a 0 j))))))
theorem tPub_y : ∀ a, a < 9 → ∀ i, i < 5 → ∀ j, j < 5 → tPub a i j = true := by decide +kernel
theorem tPn_u {a i j : Nat} (ha : a < 9) (hi : i < 5) (hj : j < 5) (h1 : i < tFn a) (h2 : j < tFn a) (h0 : a ≠ 0) (h3 : tFc a i ≠ 84) (h4 : tFc a j ≠ 84) (h5 : oCi a 0 i = oCi a 0 j) : i = j := by
  have z := tPub_y a ha i hi j hj
  unfold tPub at z
  simp only [Bool.or_eq_true, decide_eq_true_eq, Bool.not_eq_true', decide_eq_false_iff_not] at z
  rcases z with z | z | z | z | z | z | z
  · omega
  · omega
  · exact z
  · exact absurd z h0
  · exact absurd z h3
  · exact absurd z h4
  · exact absurd h5 z
theorem tN0_r : ∀ a, a < 9 → ∀ i, i < 5 → (tFn a ≤ i ∨ (a ≠ 4 ∧ a ≠ 6) ∨ i + 1 < tFn a ∨ tFc a i = 84 ∨ tFc a i = 86 ∨ (tLo (tFc a i) ≤ tN0 a (oCi a 0 i) ∧ tN0 a (oCi a 0 i) ≤ tHi (tFc a i))) := by decide +kernel
theorem tFv_m {a : Nat} {x : Int} {i : Nat} (h : tFv a x ≤ i) (hi : i < tFn a) : (a = 4 ∨ a = 6) ∧ tFn a ≤ i + 1 := by
  unfold tFv at h
  by_cases e : (a = 4 ∧ x < 2) ∨ (a = 6 ∧ x < 3)
  · rw [if_pos e] at h
    exact ⟨by omega, by omega⟩
  · rw [if_neg e] at h
    omega
theorem tOn_r {c : Nat → Int} {n b : Nat} {r : Nat → Int} {a i : Nat} (ha : r 0 = a) (ha8 : a ≤ 8) (hi : i < tFn a) (h84 : tFc a i ≠ 84) (h86 : tFc a i ≠ 86) (hz : tVz c n b a (r 2).toNat (tFv a (r 5)) = -1) :
    tLo (tFc a i) ≤ tOn c n b r (oCi a 0 i) ∧ tOn c n b r (oCi a 0 i) ≤ tHi (tFc a i) := by
  have hf5 := (tFn_b a (by omega)).1
  have ea : (r 0).toNat = a := by omega
  have em : tRwm r = tFv a (r 5) := by unfold tRwm; rw [ea]
  have ha0 : a ≠ 0 := fun e => by
    subst e
    have z : tFn 0 = 1 := rfl
    have z2 : i = 0 := by omega
    subst z2
    exact h86 rfl
  unfold tOn
  rw [ea, em]
  rcases zlow_sp (tPn a (oCi a 0 i)) (tFv a (r 5)) with ⟨z, hl⟩ | ⟨i2, h1, z, h2, _⟩
  · rw [if_pos z]
    have h3 : tFv a (r 5) ≤ i := by
      by_cases q : tFv a (r 5) ≤ i
      · exact q
      · exact absurd ⟨h84, ha0, rfl⟩ (hl i (by omega))
    have h4 := tFv_m h3 hi
    have h5 := tN0_r a (by omega) i (by omega)
    omega
  · have hm := tFv_le (a := a) (x := r 5)
    rw [if_neg (by omega), z]
    have e : i2 = i := tPn_u (by omega) (by omega) (by omega) (by omega) hi ha0 h2.1 h84 h2.2.2
    subst e
    have hv := tVz_p hz i2 h1
    show tLo (tFc a i2) ≤ tNv c n (tGp c n b a (r 2).toNat i2) (tLen (tFc a i2)) ∧ tNv c n (tGp c n b a (r 2).toNat i2) (tLen (tFc a i2)) ≤ tHi (tFc a i2)
    unfold tVf at hv
    by_cases g : tGk c (tVp c n b a (r 2).toNat i2) b
    · rw [zite_t g, if_neg h84] at hv
      exact tNf_r hv
    · rw [zite_f g] at hv
      omega
theorem tOS_N {c : Nat → Int} {n b : Nat} {s : TyS} (h : tyg c n b s) : oNg (tOS c n b s) := fun j a i hj ha ha8 hi h84 h86 => by
  have r := h.2.2 j hj
  have ha' : tyr s j 0 = a := ha
  have z := r.2.2.2.2.2.2.2.1 (by omega)
  have e : (tyr s j 0).toNat = a := by omega
  rw [e] at z
  exact tOn_r ha' ha8 hi h84 h86 z
