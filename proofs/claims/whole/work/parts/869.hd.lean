
/-! letters said, whatever letter was told before -/
def zSx (a m : Int) (t : List Int) (I : ZI) : Prop := I 165 44 = m ∧ I 165 45 = t.length ∧ I 165 46 = if 0 ≤ m ∧ m < t.length then wAt t m.toNat else a
theorem zSx_fr {a m : Int} {t : List Int} {I I' : ZI} (h : zSx a m t I) (hf : ∀ c j : Nat, c = 165 ∧ (j = 44 ∨ j = 45 ∨ j = 46) → I' c j = I c j) : zSx a m t I' := ⟨(hf _ _ (by omega)).trans h.1, (hf _ _ (by omega)).trans h.2.1, (hf _ _ (by omega)).trans h.2.2⟩
theorem zSx_e {a m : Int} {t t' : List Int} {I : ZI} (h : zSx a m t I) (e : t = t') : zSx a m t' I := e ▸ h
theorem zSx_y {a m u : Int} {t : List Int} {I I' : ZI} (h : zSx a m t I) (hm : (t.length : Int) = m) (h1 : I' 165 44 = m) (h2 : I' 165 45 = t.length + 1) (h3 : I' 165 46 = u) : zSx a m (t ++ [u]) I' := by
  refine ⟨h1, by rw [wLn, h2]; rfl, ?_⟩
  rw [wLn, if_pos (by omega), show m.toNat = t.length by omega, wAt_e]
  exact h3
theorem zSx_n {a m u : Int} {t : List Int} {I I' : ZI} (h : zSx a m t I) (hm : (t.length : Int) ≠ m) (h1 : I' 165 44 = m) (h2 : I' 165 45 = t.length + 1) (h3 : I' 165 46 = I 165 46) : zSx a m (t ++ [u]) I' := by
  refine ⟨h1, by rw [wLn, h2]; rfl, ?_⟩
  rw [wLn, h3, h.2.2]
  by_cases q : 0 ≤ m ∧ m < t.length
  · rw [if_pos q, if_pos (by omega), wAt_l (by omega)]
  · rw [if_neg q, if_neg (by omega)]
