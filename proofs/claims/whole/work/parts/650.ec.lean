/-! CUTS: what is told of a violation, by both -/
theorem cuFv_d {x : Int} {y : Nat} (hx : 0 ≤ x) (hy : y ≤ 2) : (if y = 0 ∧ 3 < cuFv x y then cuFv x y - 1 else cuFv x y) = cuDc x y := by
  have e : x / 61 / 60 % 5 = x / 3660 % 5 := by omega
  unfold cuFv cuDc
  rcases (show y = 0 ∨ y = 1 ∨ y = 2 by omega) with rfl | rfl | rfl
  · rw [if_pos rfl, if_pos (show ((0 : Nat) : Int) = 0 from rfl), e]
    have z := cuRk_c (x / 3660 % 5)
    by_cases q : 3 < cuRk (x / 3660 % 5)
    · rw [if_pos ⟨rfl, q⟩]; omega
    · rw [if_neg (fun h => q h.2)]; omega
  · rw [if_neg (fun h => absurd h.1 (by decide)), if_neg (by decide), if_pos rfl, if_neg (by decide : ¬ ((1 : Nat) : Int) = 0), if_pos (show ((1 : Nat) : Int) = 1 from rfl)]
  · rw [if_neg (fun h => absurd h.1 (by decide)), if_neg (by decide), if_neg (by decide), if_neg (by decide : ¬ ((2 : Nat) : Int) = 0), if_neg (by decide : ¬ ((2 : Nat) : Int) = 1), if_pos (show ((2 : Nat) : Int) = 2 from rfl)]
theorem zFY_w {k j : Nat} {w : List CuR} {P : Nat → Prop} {I : ZI} (h : zFY k w P I) (hj : (j : Int) < I k 19) : 0 ≤ cuVx P j := (h.2.2.2 j (by omega)).1.1
