/-! CUTS, the reference: the drill text read -/
def zTd (k : Nat) (t : List Int) (I : ZI) : Prop := I k 19 = t.length ∧ ∀ i : Nat, i < t.length → I (k + 17) i = wAt t i
theorem zTd_fr {k : Nat} {t : List Int} {I I' : ZI} (h : zTd k t I) (hf : ∀ c j : Nat, (c = k ∧ j = 19) ∨ c = k + 17 → I' c j = I c j) : zTd k t I' := ⟨(hf k 19 (by omega)).trans h.1, fun i hi => (hf _ _ (by omega)).trans (h.2 i hi)⟩
theorem zTd_0 {k : Nat} {I : ZI} (h : I k 19 = 0) : zTd k [] I := ⟨h, fun i hi => absurd hi (Nat.not_lt_zero i)⟩
theorem zTd_e {k : Nat} {t : List Int} {u : Int} {I I' : ZI} (h : zTd k t I) (h1 : I' k 19 = t.length + 1) (hu : I' (k + 17) t.length = u) (hf : ∀ j, j ≠ t.length → I' (k + 17) j = I (k + 17) j) : zTd k (t ++ [u]) I' := by
  unfold zTd
  rw [wLn]
  refine ⟨by omega, fun i hi => ?_⟩
  by_cases e : i = t.length
  · rw [e, wAt_e]
    exact hu
  · rw [wAt_l (by omega)]
    exact (hf i e).trans (h.2 i (by omega))
theorem dNu_1 {v : Int} (h : 0 ≤ v ∧ v ≤ 99999) : 1 ≤ (dNu v).length ∧ (dNu v).length ≤ 5 ∧ 48 ≤ wAt (dNu v) 0 ∧ wAt (dNu v) 0 ≤ 57 := by
  obtain ⟨L, h1, h2, h3, h4, h5⟩ := dNu_at h
  have z := h5 0 (by omega)
  rw [h3, z]
  omega
theorem dAt_0 {t x : List Int} {p : Nat} (h : dAt t p x) (hx : 0 < x.length) : p < t.length ∧ wAt t p = wAt x 0 := h 0 hx
