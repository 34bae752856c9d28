/-! CUTS, the reference: the row of violations, as it is told -/
/-- the k-th violation, by choice: nothing may reckon it (the kernel would count to 20 millions) -/
noncomputable def cuVx (P : Nat → Prop) (j : Nat) : Int := Classical.choose (show ∃ v : Int, v = zkth P cuNN j from ⟨_, rfl⟩)
theorem cuVx_e (P : Nat → Prop) (j : Nat) : cuVx P j = zkth P cuNN j := Classical.choose_spec (show ∃ v : Int, v = zkth P cuNN j from ⟨_, rfl⟩)
def zFY (k : Nat) (w : List CuR) (P : Nat → Prop) (I : ZI) : Prop := 0 ≤ I k 19 ∧ I k 19 ≤ 1950 ∧ (I k 19).toNat = zct P cuNN ∧ ∀ j : Nat, j < (I k 19).toNat → cuWf w (cuVx P j) ∧ zFe (k + 14) j (cuVx P j) I
theorem zFY_fr {k : Nat} {w : List CuR} {P : Nat → Prop} {I I' : ZI} (h : zFY k w P I) (hf : ∀ c j : Nat, (c = k ∧ j = 19) ∨ c = k + 14 → I' c j = I c j) : zFY k w P I' := by
  unfold zFY
  rw [hf k 19 (by omega)]
  exact ⟨h.1, h.2.1, h.2.2.1, fun j hj => ⟨(h.2.2.2 j hj).1, zFe_fr (h.2.2.2 j hj).2 (fun i _ _ => hf _ _ (by omega))⟩⟩
theorem zFX_q {k : Nat} {w : List CuR} {P : Nat → Prop} {B : Int} {I : ZI} (h : zFX k w P B I) : (I k 17).toNat = zct P cuNN ∧ ∀ j : Nat, j < (I k 17).toNat → cuWf w (cuVx P j) ∧ zFe (k + 13) j (cuVx P j) I := by
  obtain ⟨m, h1, h2, h3, h4⟩ := zFX_k h
  rw [h1, Int.toNat_natCast]
  exact ⟨h3, fun j hj => by rw [cuVx_e]; exact h4 j hj⟩
/-- what is told of a violation: kind (the reference's), shape, other shape -/
def cuFv (x : Int) (y : Nat) : Int := if y = 0 then cuRk (x / 3660 % 5) else if y = 1 then x / 61 % 60 else x % 61 - 1
theorem cuFv_r {c j y : Nat} {x : Int} {I : ZI} (h : zFe c j x I) (hy : y ≤ 2) : I c (3 * j + y) = cuFv x y := by
  unfold cuFv
  rcases (show y = 0 ∨ y = 1 ∨ y = 2 by omega) with rfl | rfl | rfl
  · exact h.1
  · exact h.2.1
  · exact h.2.2
theorem cuFv_b {x : Int} {y : Nat} : -1 ≤ cuFv x y ∧ cuFv x y ≤ 60 := by
  unfold cuFv
  have z := cuRk_r (x / 3660 % 5)
  by_cases h : y = 0
  · rw [if_pos h]; omega
  · rw [if_neg h]
    by_cases g : y = 1
    · rw [if_pos g]; omega
    · rw [if_neg g]; omega
/-- as many as there are (hidden: omega's proofs must not see it) -/
def zMe (m : Nat) (P : Nat → Prop) : Prop := m = zct P cuNN
theorem zFX_m {k : Nat} {w : List CuR} {P : Nat → Prop} {B : Int} {I : ZI} (h : zFX k w P B I) : zMe (I k 17).toNat P := (zFX_q h).1
theorem zFY_i {k m : Nat} {w : List CuR} {P : Nat → Prop} {I : ZI} (h1 : I k 19 = m) (h2 : m ≤ 1950) (h3 : zMe m P) (h4 : ∀ j : Nat, j < m → cuWf w (cuVx P j) ∧ zFe (k + 14) j (cuVx P j) I) : zFY k w P I := by
  have e : (I k 19).toNat = m := by omega
  unfold zFY
  rw [e]
  exact ⟨by omega, by omega, h3, h4⟩
