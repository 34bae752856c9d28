/-! CUTS: a number's letters, by how long it is -/
theorem dU_v : dU 0 = 10000 ∧ dU 1 = 1000 ∧ dU 2 = 100 ∧ dU 3 = 10 ∧ dU 4 = 1 := by decide
theorem dNu_d {v : Int} {i : Nat} (hi : i ≤ 4) (hl : i = 0 ∨ v < 10 * dU i) (hg : dU i ≤ v ∨ i = 4) : dSt v i = [] ∧ ∀ j, i ≤ j → j ≤ 4 → dSt v (j + 1) = dSt v j ++ [v / dU j % 10 + 48] := ⟨dSt_w hi hl, fun j h1 h2 => dSt_y (by
  rcases hg with h | h
  · have := dU_m (i := i) (j := j) h1 h2
    omega
  · right; omega)⟩
theorem dNu_p1 {v : Int} (h : v < 10) : dNu v = [v / 1 % 10 + 48] := by
  obtain ⟨u0, u1, u2, u3, u4⟩ := dU_v
  obtain ⟨a, b⟩ := dNu_d (v := v) (i := 4) (by decide) (Or.inr (by omega)) (Or.inr rfl)
  show dSt v 5 = _
  rw [b 4 (by decide) (by decide), a, u4]
  rfl
theorem dNu_p2 {v : Int} (h : 10 ≤ v ∧ v < 100) : dNu v = [v / 10 % 10 + 48, v / 1 % 10 + 48] := by
  obtain ⟨u0, u1, u2, u3, u4⟩ := dU_v
  obtain ⟨a, b⟩ := dNu_d (v := v) (i := 3) (by decide) (Or.inr (by omega)) (Or.inl (by omega))
  show dSt v 5 = _
  rw [b 4 (by decide) (by decide), b 3 (by decide) (by decide), a, u4, u3]
  rfl
theorem dNu_p3 {v : Int} (h : 100 ≤ v ∧ v < 1000) : dNu v = [v / 100 % 10 + 48, v / 10 % 10 + 48, v / 1 % 10 + 48] := by
  obtain ⟨u0, u1, u2, u3, u4⟩ := dU_v
  obtain ⟨a, b⟩ := dNu_d (v := v) (i := 2) (by decide) (Or.inr (by omega)) (Or.inl (by omega))
  show dSt v 5 = _
  rw [b 4 (by decide) (by decide), b 3 (by decide) (by decide), b 2 (by decide) (by decide), a, u4, u3, u2]
  rfl
theorem dNu_p4 {v : Int} (h : 1000 ≤ v ∧ v < 10000) : dNu v = [v / 1000 % 10 + 48, v / 100 % 10 + 48, v / 10 % 10 + 48, v / 1 % 10 + 48] := by
  obtain ⟨u0, u1, u2, u3, u4⟩ := dU_v
  obtain ⟨a, b⟩ := dNu_d (v := v) (i := 1) (by decide) (Or.inr (by omega)) (Or.inl (by omega))
  show dSt v 5 = _
  rw [b 4 (by decide) (by decide), b 3 (by decide) (by decide), b 2 (by decide) (by decide), b 1 (by decide) (by decide), a, u4, u3, u2, u1]
  rfl
theorem dNu_p5 {v : Int} (h : 10000 ≤ v) : dNu v = [v / 10000 % 10 + 48, v / 1000 % 10 + 48, v / 100 % 10 + 48, v / 10 % 10 + 48, v / 1 % 10 + 48] := by
  obtain ⟨u0, u1, u2, u3, u4⟩ := dU_v
  obtain ⟨a, b⟩ := dNu_d (v := v) (i := 0) (by decide) (Or.inl rfl) (Or.inl (by omega))
  show dSt v 5 = _
  rw [b 4 (by decide) (by decide), b 3 (by decide) (by decide), b 2 (by decide) (by decide), b 1 (by decide) (by decide), b 0 (by decide) (by decide), a, u4, u3, u2, u1, u0]
  rfl
