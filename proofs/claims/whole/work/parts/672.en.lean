/-! CUTS: what is told of a cut, by the class as by the reference -/
noncomputable def viV (P : Nat → Prop) (F a b : Int) : Int := if 0 ≤ a ∧ a < F then cuDc (cuVx P a.toNat) b else -1
theorem zUC_v {k pc nr : Nat} {w : List CuR} {rf : Nat → Nat → Int} {bn al : Int} {I : ZI} (h : zUC k w pc nr rf bn al I) {j : Nat} (hj : (j : Int) < I k 11) : I (k + 7) j = cuVx (cuAl w nr rf) j := by
  obtain ⟨-, -, -, -, -, ⟨⟨h0, h1⟩, h2, h3⟩, -⟩ := h
  rw [cuVx_e]
  exact zFt_k h1 (fun a b q1 q2 => h2 a b q1 (by omega)) (by omega)
theorem zUC_c {k pc nr : Nat} {w : List CuR} {rf : Nat → Nat → Int} {bn al : Int} {I : ZI} (h : zUC k w pc nr rf bn al I) : I (k + 1) 2 = w.length := by
  obtain ⟨⟨-, hl, -⟩, ⟨⟨-, t2, -⟩, -⟩, -⟩ := h
  have e : min w.length 60 = w.length := by omega
  rw [e] at t2
  exact t2
/-- the number of faults -/
noncomputable def viN (P : Nat → Prop) : Int := Classical.choose (show ∃ v : Int, v = (zct P cuNN : Nat) from ⟨_, rfl⟩)
theorem viN_e (P : Nat → Prop) : viN P = (zct P cuNN : Nat) := Classical.choose_spec (show ∃ v : Int, v = (zct P cuNN : Nat) from ⟨_, rfl⟩)
theorem zUC_n {k pc nr : Nat} {w : List CuR} {rf : Nat → Nat → Int} {bn al : Int} {I : ZI} (h : zUC k w pc nr rf bn al I) : I k 11 = viN (cuAl w nr rf) := by
  obtain ⟨-, -, -, -, -, ⟨⟨h0, h1⟩, -, -⟩, -⟩ := h
  rw [viN_e, ← h1.1]
  exact (Int.toNat_of_nonneg h0).symm
theorem zFY_n {k : Nat} {w : List CuR} {P : Nat → Prop} {I : ZI} (h : zFY k w P I) : I k 19 = viN P := by
  rw [viN_e, ← h.2.2.1]
  exact (Int.toNat_of_nonneg h.1).symm
theorem viV_d {P : Nat → Prop} {F a b v : Int} (h : ((0 ≤ a ∧ a < F ∧ 0 ≤ b ∧ b ≤ 2) ∧ v = cuDc (cuVx P a.toNat) b) ∨ (¬ (0 ≤ a ∧ a < F ∧ 0 ≤ b ∧ b ≤ 2) ∧ v = -1)) : v = viV P F a b := by
  unfold viV
  rcases h with ⟨h1, h2⟩ | ⟨h1, h2⟩
  · rw [if_pos ⟨h1.1, h1.2.1⟩]
    exact h2
  · rw [h2]
    by_cases q : 0 ≤ a ∧ a < F
    · rw [if_pos q]
      unfold cuDc
      rw [if_neg (by omega), if_neg (by omega), if_neg (by omega)]
    · rw [if_neg q]
noncomputable def cuCp (w : List CuR) (a : Int) : Int := if 0 ≤ a ∧ a < cuNp w then (cuNm w a.toNat : Int) else -1
