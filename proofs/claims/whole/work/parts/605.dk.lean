/-! CUTS, the reference: one more found -/
theorem cuIn_v {h : Nat → Int} {m : Nat} {y : Int} (j : Nat) (hj : j < m + 1) : cuIn h m y j = y ∨ zex (fun i => i < m ∧ cuIn h m y j = h i) := by
  by_cases q : j < m ∧ h j < y
  · exact Or.inr (Exists.intro j ⟨q.1, cuIn_a q⟩)
  · by_cases g : j = 0 ∨ h (j - 1) < y
    · exact Or.inl (cuIn_b q g)
    · refine Or.inr (Exists.intro (j - 1) ⟨?_, cuIn_c q g⟩)
      have : j ≠ 0 := fun e => g (Or.inl e)
      omega
theorem zFX_y {k : Nat} {w : List CuR} {P Q : Nat → Prop} {B B' : Int} {m : Nat} {h : Nat → Int} {x : Int} {I' : ZI} (hm : (m : Int) ≤ B) (hF : zFt m P h ∧ cuStr m h) (hw : ∀ j : Nat, j < m → cuWf w (h j)) (hwx : cuWf w x) (hx : x < 20000000) (hn : ¬ P x.toNat) (e : ∀ y : Nat, (P y ∨ y = x.toNat) ↔ Q y) (h17 : I' k 17 = m + 1) (he : ∀ j : Nat, j < m + 1 → zFe (k + 13) j (cuIn h m x j) I') (hB : B' = B + 1) : zFX k w Q B' I' := by
  have hx0 := hwx.1
  have hx2 : ((x.toNat : Nat) : Int) = x := Int.toNat_of_nonneg hx0
  have t := cuIn_t (x := x.toNat) hF.1 hF.2 hn (by show x.toNat < 20000000; omega) e
  rw [hx2] at t
  refine ⟨m + 1, cuIn h m x, ⟨by omega, by omega⟩, ⟨t.1, t.2.1⟩, fun j hj => ?_, he⟩
  rcases cuIn_v (h := h) (y := x) j hj with z | z
  · rw [z]; exact hwx
  · obtain ⟨i, z1, z2⟩ := z
    rw [z2]
    exact hw i z1
theorem zFX_ne {P : Nat → Prop} {m : Nat} {h : Nat → Int} {x : Int} (hF : zFt m P h) (hx : 0 ≤ x) (hn : ¬ P x.toNat) : ∀ j : Nat, j < m → h j ≠ x := fun j hj q => by
  have z := (hF.2.2.1 j hj).2
  rw [q] at z
  exact hn z
theorem zFX_b {k : Nat} {w : List CuR} {P : Nat → Prop} {B : Int} {I : ZI} (h : zFX k w P B I) : 0 ≤ I k 17 ∧ I k 17 ≤ B := by
  obtain ⟨m, h0, h1, _⟩ := h
  omega
/-- sorted: each is the k-th -/
theorem zFX_k {k : Nat} {w : List CuR} {P : Nat → Prop} {B : Int} {I : ZI} (h : zFX k w P B I) : ∃ m : Nat, I k 17 = m ∧ (m : Int) ≤ B ∧ m = zct P cuNN ∧ ∀ j : Nat, j < m → cuWf w (zkth P cuNN j) ∧ zFe (k + 13) j (zkth P cuNN j) I := by
  obtain ⟨m, h0, h1, h2, h3, h4⟩ := h
  refine ⟨m, h1.1, h1.2, h2.1.1, fun j hj => ?_⟩
  have e := zFt_k h2.1 h2.2 hj
  rw [← e]
  exact ⟨h3 j hj, h4 j hj⟩
