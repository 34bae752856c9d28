/-! VALUES of an object in a text; which kind may be in which -/
def tCn (a b : Int) : Prop := (b = -1 ∧ a = 0) ∨ (0 ≤ b ∧ ((a = 1 ∧ (b = 0 ∨ b = 1)) ∨ (a = 2 ∧ b = 1) ∨ (a = 3 ∧ b = 2) ∨ (a = 4 ∧ b = 3) ∨ (a = 5 ∧ b = 3) ∨ (a = 6 ∧ (b = 1 ∨ b = 3)) ∨ (a = 7 ∧ b = 1) ∨ (a = 8 ∧ (b = 1 ∨ b = 2)) ∨ (a = 9 ∧ b ≤ 3)))
def tHo (a : Nat) : Int := ([0, 3, 2, 4, 8, 8, 10, 2, 6, 15] : List Int).getD a 0
theorem tHo_q : ∀ i, i < 10 → (xmh.1 2 i).toInt = tHo i := by decide +kernel
theorem zSt_ho {I L : ZI} (h : zSt I L) {i : Nat} (hi : i < 10) : I 2 i = tHo i := (h 2 (by decide) (by decide) i (by omega)).1.trans (tHo_q i hi)
theorem tHo_k : (∀ b : Nat, b < 10 → (¬ zand (zshr (tHo 0) (b : Int)) 1 = 0 ↔ (False))) ∧ (∀ b : Nat, b < 10 → (¬ zand (zshr (tHo 1) (b : Int)) 1 = 0 ↔ (b = 0 ∨ b = 1))) ∧ (∀ b : Nat, b < 10 → (¬ zand (zshr (tHo 2) (b : Int)) 1 = 0 ↔ (b = 1))) ∧ (∀ b : Nat, b < 10 → (¬ zand (zshr (tHo 3) (b : Int)) 1 = 0 ↔ (b = 2))) ∧ (∀ b : Nat, b < 10 → (¬ zand (zshr (tHo 4) (b : Int)) 1 = 0 ↔ (b = 3))) ∧ (∀ b : Nat, b < 10 → (¬ zand (zshr (tHo 5) (b : Int)) 1 = 0 ↔ (b = 3))) ∧ (∀ b : Nat, b < 10 → (¬ zand (zshr (tHo 6) (b : Int)) 1 = 0 ↔ (b = 1 ∨ b = 3))) ∧ (∀ b : Nat, b < 10 → (¬ zand (zshr (tHo 7) (b : Int)) 1 = 0 ↔ (b = 1))) ∧ (∀ b : Nat, b < 10 → (¬ zand (zshr (tHo 8) (b : Int)) 1 = 0 ↔ (b = 1 ∨ b = 2))) ∧ (∀ b : Nat, b < 10 → (¬ zand (zshr (tHo 9) (b : Int)) 1 = 0 ↔ (b ≤ 3))) := ⟨by decide +kernel, by decide +kernel, by decide +kernel, by decide +kernel, by decide +kernel, by decide +kernel, by decide +kernel, by decide +kernel, by decide +kernel, by decide +kernel⟩
theorem tHo_c (a : Nat) (ha : a < 10) (b : Nat) (hb : b < 10) : ¬ zand (zshr (tHo a) (b : Int)) 1 = 0 ↔ tCn a b := by
  obtain ⟨k0, k1, k2, k3, k4, k5, k6, k7, k8, k9⟩ := tHo_k
  have q : a = 0 ∨ a = 1 ∨ a = 2 ∨ a = 3 ∨ a = 4 ∨ a = 5 ∨ a = 6 ∨ a = 7 ∨ a = 8 ∨ a = 9 := by omega
  unfold tCn
  rcases q with rfl | rfl | rfl | rfl | rfl | rfl | rfl | rfl | rfl | rfl
  · exact (k0 b hb).trans ⟨fun h => False.elim h, fun h => by omega⟩
  · exact (k1 b hb).trans ⟨fun h => by omega, fun h => by omega⟩
  · exact (k2 b hb).trans ⟨fun h => by omega, fun h => by omega⟩
  · exact (k3 b hb).trans ⟨fun h => by omega, fun h => by omega⟩
  · exact (k4 b hb).trans ⟨fun h => by omega, fun h => by omega⟩
  · exact (k5 b hb).trans ⟨fun h => by omega, fun h => by omega⟩
  · exact (k6 b hb).trans ⟨fun h => by omega, fun h => by omega⟩
  · exact (k7 b hb).trans ⟨fun h => by omega, fun h => by omega⟩
  · exact (k8 b hb).trans ⟨fun h => by omega, fun h => by omega⟩
  · exact (k9 b hb).trans ⟨fun h => by omega, fun h => by omega⟩
theorem tHo_b : ∀ a : Nat, a < 10 → 0 ≤ tHo a ∧ tHo a ≤ 15 := by decide +kernel
/-- the letter of field i of a kind; how many fields; those of a version -/
def tFc (a i : Nat) : Int := ((tsb (10 + a)).getD i 0 : Nat)
def tFn (a : Nat) : Nat := if a < 9 then (tsb (10 + a)).length else 0
def tFv (a : Nat) (v : Int) : Nat := if (a = 4 ∧ v < 2) ∨ (a = 6 ∧ v < 3) then tFn a - 1 else tFn a
theorem tFv_1 {a : Nat} {v : Int} (h : (a = 4 ∧ v < 2) ∨ (a = 6 ∧ v < 3)) : tFv a v = tFn a - 1 := if_pos h
theorem tFv_0 {a : Nat} {v : Int} (h : ¬ ((a = 4 ∧ v < 2) ∨ (a = 6 ∧ v < 3))) : tFv a v = tFn a := if_neg h
theorem tFn_b : ∀ a, a < 10 → tFn a ≤ 5 ∧ (a = 4 → tFn a = 4) ∧ (a = 6 → tFn a = 4) ∧ (1 ≤ a → ∀ i, i < 6 → (oFt a i = 0 ↔ tFn a ≤ i)) := by decide +kernel
theorem tFc_o : ∀ a, a < 9 → 1 ≤ a → ∀ i, i < tFn a → (tFc a i = 84 ↔ oFt a i = 3) ∧ (tFc a i = 78 ↔ oFt a i = 1) := by decide +kernel
/-- where field i begins with its gap; where its value begins; its fault -/
noncomputable def tVe (c : Nat → Int) (n b a : Nat) (i g : Nat) : Nat := if tFc a i = 84 then tXe c g else tNe c n g (tLen (tFc a i))
noncomputable def tVp (c : Nat → Int) (n b a q : Nat) : Nat → Nat
  | 0 => q
  | i + 1 => tVe c n b a i (tGe c n (tVp c n b a q i) b)
noncomputable def tGp (c : Nat → Int) (n b a q i : Nat) : Nat := tGe c n (tVp c n b a q i) b
noncomputable def tVf (c : Nat → Int) (n b a q i : Nat) : Int := zite (tGk c (tVp c n b a q i) b) (if tFc a i = 84 then tXf c (tGp c n b a q i) else tNf c n (tGp c n b a q i) (tLen (tFc a i)) (tLo (tFc a i)) (tHi (tFc a i))) (tVp c n b a q i)
theorem tVf_g {c : Nat → Int} {n b a q i : Nat} (h : ¬ tGk c (tVp c n b a q i) b) : tVf c n b a q i = tVp c n b a q i := zite_f h
theorem tVf_t {c : Nat → Int} {n b a q i : Nat} (h : tGk c (tVp c n b a q i) b) (ht : tFc a i = 84) : tVf c n b a q i = tXf c (tGp c n b a q i) := (zite_t h).trans (if_pos ht)
theorem tVf_n {c : Nat → Int} {n b a q i : Nat} (h : tGk c (tVp c n b a q i) b) (ht : ¬ tFc a i = 84) : tVf c n b a q i = tNf c n (tGp c n b a q i) (tLen (tFc a i)) (tLo (tFc a i)) (tHi (tFc a i)) := (zite_t h).trans (if_neg ht)
theorem tVp_t {c : Nat → Int} {n b a q i : Nat} (ht : tFc a i = 84) : tVp c n b a q (i + 1) = tXe c (tGp c n b a q i) := if_pos ht
theorem tVp_n {c : Nat → Int} {n b a q i : Nat} (ht : ¬ tFc a i = 84) : tVp c n b a q (i + 1) = tNe c n (tGp c n b a q i) (tLen (tFc a i)) := if_neg ht
/-- the fault of the values of an object -/
noncomputable def tVz (c : Nat → Int) (n b a q m : Nat) : Int := zite (∃ i, i < m ∧ tVf c n b a q i ≠ -1) (tVf c n b a q (zlow (fun i => tVf c n b a q i ≠ -1) m).toNat) (-1)
theorem tVz_at {c : Nat → Int} {n b a q m i : Nat} (hi : i < m) (hl : ∀ j, j < i → tVf c n b a q j = -1) (h : tVf c n b a q i ≠ -1) : tVz c n b a q m = tVf c n b a q i := by
  have w := zlow_at (P := fun i => tVf c n b a q i ≠ -1) h (fun j hj z => z (hl j hj)) hi
  unfold tVz
  rw [zite_t ⟨i, hi, h⟩, w]
  rfl
theorem tVz_no {c : Nat → Int} {n b a q m : Nat} (hl : ∀ j, j < m → tVf c n b a q j = -1) : tVz c n b a q m = -1 := zite_f (fun ⟨i, h1, h2⟩ => h2 (hl i h1))
/-- what a new object holds -/
def tN0 (a w : Nat) : Int := if a = 6 ∧ w = 2 then 1270000 else 0
def tN1 (a w : Nat) : Int := if a = 6 ∧ w = 2 then 1270000 else if a = 3 ∧ w = 0 then 1 else 0
def tRl (a : Nat) : Int := if a = 3 then 1 else if a = 5 then -360 else 0
def tRh (a : Nat) : Int := if a = 4 then 9 else if a = 5 then 360 else 9999
theorem V_lst_f : ∀ a : Nat, a < 9 → ∀ i : Nat, i < 5 → (a = 0 ∨ tFn a ≤ i ∨ tFc a i = 84 ∨ tFc a i = 78 ∨ tLo (tFc a i) = tRl a) := by decide +kernel
theorem V_mst_f : ∀ a : Nat, a < 9 → ∀ i : Nat, i < 5 → (a = 0 ∨ tFn a ≤ i ∨ tFc a i = 84 ∨ tFc a i = 78 ∨ tHi (tFc a i) = tRh a) := by decide +kernel
