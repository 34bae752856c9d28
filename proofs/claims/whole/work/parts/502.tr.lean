/-! VALUES of an object, as they are stored by the class -/
def tNc (a i : Nat) : Nat := if a = 0 then i else oCi a 0 i
theorem tNc_s : ∀ a, a < 9 → ∀ i, i < 5 → (tFn a ≤ i ∨ (tFc a i = 84 ∧ oCi a 1 (i + 1) = oCi a 1 i + 1 ∧ tNc a (i + 1) = tNc a i ∧ oCi a 1 i ≤ 1 ∧ tNc a i ≤ 4) ∨ (tFc a i ≠ 84 ∧ tNc a (i + 1) = tNc a i + 1 ∧ oCi a 1 (i + 1) = oCi a 1 i ∧ oCi a 1 i ≤ 2 ∧ tNc a i ≤ 4)) := by decide +kernel
theorem tNc_m1 : ∀ a, a < 9 → ∀ m, m < 6 → ∀ i, i < m → (tFn a < m ∨ tFc a i ≠ 84 ∨ oCi a 1 i < oCi a 1 m) := by decide +kernel
theorem tNc_m0 : ∀ a, a < 9 → ∀ m, m < 6 → ∀ i, i < m → (tFn a < m ∨ tFc a i = 84 ∨ tNc a i < tNc a m) := by decide +kernel
theorem tNc_b : ∀ a, a < 9 → ∀ m, m < 6 → (tFn a < m ∨ (oCi a 1 m ≤ 2 ∧ tNc a m ≤ 5)) := by decide +kernel
theorem tFc_86 : ∀ a, a < 9 → ∀ i, i < 5 → (tFn a ≤ i ∨ ((tFc a i = 86 ↔ a = 0) ∧ 0 ≤ tFc a i ∧ tFc a i ≤ 126 ∧ (a = 0 → i = 0 ∧ tFn a = 1))) := by decide +kernel
/-- the version behind the first i values -/
noncomputable def tXx (c : Nat → Int) (n b a q i : Nat) (x : Int) : Int := if a = 0 ∧ 0 < i then tNv c n (tGp c n b a q 0) 0 else x
theorem tXx_t {c : Nat → Int} {n b a q i : Nat} {x : Int} (h : a = 0 ∧ 0 < i) : tXx c n b a q i x = tNv c n (tGp c n b a q 0) 0 := if_pos h
theorem tXx_f {c : Nat → Int} {n b a q i : Nat} {x : Int} (h : ¬ (a = 0 ∧ 0 < i)) : tXx c n b a q i x = x := if_neg h
/-- the first m values, as the class's object at k holds them for its row r -/
def tKs (c : Nat → Int) (n b a q m k r c0 c1 : Nat) (I L : ZI) : Prop := ∀ i, i < m → (tFc a i = 84 → I (k + 6) (2 * r + oCi a 1 i) = tXl c (tGp c n b a q i) ∧ c0 ≤ I (k + 5) (2 * r + oCi a 1 i) ∧ I (k + 5) (2 * r + oCi a 1 i) + tXl c (tGp c n b a q i) ≤ c1 ∧ ∀ t, t < tXl c (tGp c n b a q i) → I (k + 7) ((I (k + 5) (2 * r + oCi a 1 i)).toNat + t) = tLt c (tGp c n b a q i) t) ∧ (tFc a i ≠ 84 → a ≠ 0 → L (k + 4) (5 * r + tNc a i) = tNv c n (tGp c n b a q i) (tLen (tFc a i)))
theorem tKs_0 {c : Nat → Int} {n b a q k r c0 c1 : Nat} {I L : ZI} : tKs c n b a q 0 k r c0 c1 I L := fun i h => absurd h (Nat.not_lt_zero i)
theorem tKs_n {c : Nat → Int} {n b a q m k r c0 c1 : Nat} {I L I' L' : ZI} (ha8 : a ≤ 8) (hm : m < tFn a) (hm5 : m ≤ 4) (h : tKs c n b a q m k r c0 c1 I L)
    (hf5 : ∀ j, I' (k + 5) j = I (k + 5) j) (hf6 : ∀ j, I' (k + 6) j = I (k + 6) j) (hf7 : ∀ j, I' (k + 7) j = I (k + 7) j) (hfL : ∀ j, j ≠ 5 * r + tNc a m → L' (k + 4) j = L (k + 4) j)
    (ht : tFc a m ≠ 84) (hn : a ≠ 0 → L' (k + 4) (5 * r + tNc a m) = tNv c n (tGp c n b a q m) (tLen (tFc a m))) : tKs c n b a q (m + 1) k r c0 c1 I' L' := fun i hi => by
  by_cases e : i = m
  · rw [e]
    exact ⟨fun w => absurd w ht, fun _ => hn⟩
  · have w := h i (by omega)
    have m0 := tNc_m0 a (by omega) m (by omega) i (by omega)
    refine ⟨fun t => ?_, fun t t2 => (hfL _ (by omega)).trans (w.2 t t2)⟩
    have w1 := w.1 t
    rw [hf5, hf6]
    exact ⟨w1.1, w1.2.1, w1.2.2.1, fun t ht => (hf7 _).trans (w1.2.2.2 t ht)⟩
theorem tKs_t {c : Nat → Int} {n b a q m k r c0 c1 c2 : Nat} {I L I' L' : ZI} (ha8 : a ≤ 8) (hm : m < tFn a) (hm5 : m ≤ 4) (h : tKs c n b a q m k r c0 c1 I L) (h01 : c0 ≤ c1) (h12 : c2 = c1 + tXl c (tGp c n b a q m))
    (hf5 : ∀ j, j ≠ 2 * r + oCi a 1 m → I' (k + 5) j = I (k + 5) j) (hf6 : ∀ j, j ≠ 2 * r + oCi a 1 m → I' (k + 6) j = I (k + 6) j) (hf7 : ∀ j, j < c1 → I' (k + 7) j = I (k + 7) j) (hfL : ∀ j, L' (k + 4) j = L (k + 4) j)
    (ht : tFc a m = 84) (ht6 : I' (k + 6) (2 * r + oCi a 1 m) = tXl c (tGp c n b a q m)) (ht5 : I' (k + 5) (2 * r + oCi a 1 m) = c1) (ht7 : ∀ t, t < tXl c (tGp c n b a q m) → I' (k + 7) (c1 + t) = tLt c (tGp c n b a q m) t) : tKs c n b a q (m + 1) k r c0 c2 I' L' := fun i hi => by
  by_cases e : i = m
  · rw [e]
    refine ⟨fun _ => ⟨ht6, by omega, by omega, fun t h => ?_⟩, fun w => absurd ht w⟩
    rw [ht5]
    exact ht7 t h
  · have w := h i (by omega)
    have m1 := tNc_m1 a (by omega) m (by omega) i (by omega)
    refine ⟨fun t => ?_, fun t t2 => (hfL _).trans (w.2 t t2)⟩
    have w1 := w.1 t
    rw [hf5 _ (by omega), hf6 _ (by omega)]
    exact ⟨w1.1, w1.2.1, by omega, fun t ht => (hf7 _ (by omega)).trans (w1.2.2.2 t ht)⟩
theorem tGe_gt {c : Nat → Int} {n p b : Nat} (hc : tOk c n) : p < tGe c n p b := by
  by_cases e : b = 1
  · rw [tGe_1 e]
    have w := tSk_b (P := tBk) (p := p + 1) hc tBk_no
    omega
  · rw [tGe_0 e]
    omega
theorem tXe_l {c : Nat → Int} {n p : Nat} (hc : tOk c n) (h : tXf c p = -1) : p + tXl c p ≤ tXe c p := by
  have w := tXf_g hc h
  omega
theorem tNs_le {c : Nat → Int} {p : Nat} : p ≤ tNs c p ∧ tNs c p ≤ p + 1 := by
  unfold tNs
  split <;> omega
