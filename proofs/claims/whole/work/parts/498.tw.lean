/-! VALUES of an object, as they are stored -/
theorem tNe_le {c : Nat → Int} {n p len : Nat} {lo hi : Int} (hc : tOk c n) (h : tNf c n p len lo hi = -1) : p < tNe c n p len ∧ tNe c n p len ≤ n := by
  have h1 : ¬ tBd c (tNs c p) (tNq c n p) := fun w => by
    unfold tNf at h
    rw [zite_t w] at h
    omega
  have h2 : ¬ (tFr c (tNq c n p) len ∧ tBd c (tNq c n p + 1) (tNr c n p)) := fun w => by
    unfold tNf at h
    rw [zite_f h1, zite_t w] at h
    omega
  have w := tDe_sp (p := tNs c p) (m := 4) hc
  have w1 : tNs c p ≤ tNq c n p := w.1
  have w2 : tNq c n p ≤ n ∨ tNq c n p = tNs c p := w.2.2.2
  have h3 : tNq c n p ≠ tNs c p := fun z => h1 (Or.inl z)
  have h4 : p ≤ tNs c p := by
    unfold tNs
    split <;> omega
  have v := tDe_sp (p := tNq c n p + 1) (m := 6) hc
  have v1 : tNq c n p + 1 ≤ tNr c n p := v.1
  have v2 : tNr c n p ≤ n ∨ tNr c n p = tNq c n p + 1 := v.2.2.2
  by_cases z : tFr c (tNq c n p) len
  · have h5 : tNr c n p ≠ tNq c n p + 1 := fun y => h2 ⟨z, Or.inl y⟩
    have e : tNe c n p len = tNr c n p := zite_t z
    rw [e]
    omega
  · have e : tNe c n p len = tNq c n p := zite_f z
    rw [e]
    omega
theorem tGe_le {c : Nat → Int} {n p b : Nat} (hc : tOk c n) (h : tGk c p b) : p < tGe c n p b ∧ tGe c n p b ≤ n := by
  have hp : p < n := by
    rcases Nat.lt_or_ge p n with q | q
    · exact q
    · have z := hc.2.2 p q
      unfold tGk at h
      omega
  by_cases e : b = 1
  · rw [tGe_1 e]
    have w := tSk_b (P := tBk) (p := p + 1) hc tBk_no
    omega
  · rw [tGe_0 e]
    omega
theorem tVf_w {c : Nat → Int} {n b a q i : Nat} (hc : tOk c n) (h : tVf c n b a q i = -1) : tGk c (tVp c n b a q i) b ∧ tGp c n b a q i ≤ n ∧ tVp c n b a q i < tVp c n b a q (i + 1) ∧ tVp c n b a q (i + 1) ≤ n := by
  by_cases g : tGk c (tVp c n b a q i) b
  · have w := tGe_le hc g
    by_cases t : tFc a i = 84
    · rw [tVf_t g t] at h
      have x := tXf_g hc h
      rw [tVp_t t]
      have w1 : tVp c n b a q i < tGp c n b a q i := w.1
      exact ⟨g, w.2, by omega, x.2.2.2.1⟩
    · rw [tVf_n g t] at h
      have x := tNe_le hc h
      rw [tVp_n t]
      have w1 : tVp c n b a q i < tGp c n b a q i := w.1
      exact ⟨g, w.2, by omega, x.2⟩
  · rw [tVf_g g] at h
    omega
theorem tVp_le {c : Nat → Int} {n b a q : Nat} (hc : tOk c n) (hq : q ≤ n) : ∀ {i : Nat}, (∀ j, j < i → tVf c n b a q j = -1) → tVp c n b a q i ≤ n ∧ q ≤ tVp c n b a q i
  | 0, _ => ⟨hq, Nat.le_refl q⟩
  | i + 1, h => by
    have ih := tVp_le hc hq (i := i) (fun j hj => h j (by omega))
    have w := tVf_w hc (h i (by omega))
    omega
theorem oCi_s : ∀ a, a < 9 → ∀ i, i < 5 → (a = 0 ∨ tFn a ≤ i ∨ (tFc a i = 84 ∧ oCi a 1 (i + 1) = oCi a 1 i + 1 ∧ oCi a 0 (i + 1) = oCi a 0 i ∧ oCi a 1 i ≤ 1 ∧ oCi a 0 i ≤ 4) ∨ (tFc a i ≠ 84 ∧ oCi a 0 (i + 1) = oCi a 0 i + 1 ∧ oCi a 1 (i + 1) = oCi a 1 i ∧ oCi a 1 i ≤ 1 ∧ oCi a 0 i ≤ 4)) := by decide +kernel
theorem oCi_m1 : ∀ a, a < 9 → ∀ m, m < 6 → ∀ i, i < m → (a = 0 ∨ tFn a < m ∨ tFc a i ≠ 84 ∨ oCi a 1 i < oCi a 1 m) := by decide +kernel
theorem oCi_m0 : ∀ a, a < 9 → ∀ m, m < 6 → ∀ i, i < m → (a = 0 ∨ tFn a < m ∨ tFc a i = 84 ∨ oCi a 0 i < oCi a 0 m) := by decide +kernel
/-- the first m values, as the reference's reader at k holds them for its object fd -/
def tVs (c : Nat → Int) (n b a q m k fd : Nat) (I L : ZI) : Prop := ∀ i, i < m → (tFc a i = 84 → I (k + 5) (2 * fd + oCi a 1 i) = tXl c (tGp c n b a q i) ∧ ∀ j, j < tXl c (tGp c n b a q i) → I (k + 6) (80 * fd + 40 * oCi a 1 i + j) = tLt c (tGp c n b a q i) j) ∧ (tFc a i ≠ 84 → L (k + 4) (5 * fd + oCi a 0 i) = tNv c n (tGp c n b a q i) (tLen (tFc a i)))
theorem tVs_0 {c : Nat → Int} {n b a q k fd : Nat} {I L : ZI} : tVs c n b a q 0 k fd I L := fun i h => absurd h (Nat.not_lt_zero i)
theorem tVs_up {c : Nat → Int} {n b a q m k fd : Nat} {I L I' L' : ZI} (hc : tOk c n) (ha : 1 ≤ a) (ha8 : a ≤ 8) (hm : m < tFn a) (hm5 : m ≤ 4) (h : tVs c n b a q m k fd I L) (hx : ∀ i, i < m → tVf c n b a q i = -1)
    (hf5 : ∀ j, j ≠ 2 * fd + oCi a 1 m → I' (k + 5) j = I (k + 5) j) (hf6 : ∀ j, ¬ (80 * fd + 40 * oCi a 1 m ≤ j ∧ j < 80 * fd + 40 * oCi a 1 m + 40) → I' (k + 6) j = I (k + 6) j) (hfL : ∀ j, j ≠ 5 * fd + oCi a 0 m → L' (k + 4) j = L (k + 4) j)
    (ht : tFc a m = 84 → I' (k + 5) (2 * fd + oCi a 1 m) = tXl c (tGp c n b a q m) ∧ ∀ j, j < tXl c (tGp c n b a q m) → I' (k + 6) (80 * fd + 40 * oCi a 1 m + j) = tLt c (tGp c n b a q m) j)
    (hn : tFc a m ≠ 84 → L' (k + 4) (5 * fd + oCi a 0 m) = tNv c n (tGp c n b a q m) (tLen (tFc a m))) : tVs c n b a q (m + 1) k fd I' L' := fun i hi => by
  by_cases e : i = m
  · rw [e]
    exact ⟨ht, hn⟩
  · have w := h i (by omega)
    have m1 := oCi_m1 a (by omega) m (by omega) i (by omega)
    have m0 := oCi_m0 a (by omega) m (by omega) i (by omega)
    refine ⟨fun t => ?_, fun t => ?_⟩
    · have w1 := w.1 t
      refine ⟨(hf5 _ (by omega)).trans w1.1, fun j hj => (hf6 _ ?_).trans (w1.2 j hj)⟩
      have x := hx i (by omega)
      by_cases g : tGk c (tVp c n b a q i) b
      · rw [tVf_t g t] at x
        have y := (tXf_g hc x).2.1
        omega
      · rw [tVf_g g] at x
        omega
    · exact (hfL _ (by omega)).trans (w.2 t)
theorem tPo_b {c : Nat → Int} {p : Nat} : ∀ i, tPo c p i ≤ p + 1 + 2 * i
  | 0 => Nat.le_refl _
  | i + 1 => by
    have ih := tPo_b (c := c) (p := p) i
    have w := tPo_s (c := c) (p := p) (m := i) rfl
    by_cases e : c (tPo c p i) = 92
    · rw [w.1 e]; omega
    · rw [w.2 e]; omega
theorem tXl_b {c : Nat → Int} {p : Nat} : tXl c p ≤ 40 := by
  unfold tXl
  rcases zlow_sp (tXs c p) 41 with ⟨w1, w2⟩ | ⟨r, w1, w2, w3, w4⟩
  · rw [w1]; decide
  · rw [w2]; omega
theorem tXf_b1 {c : Nat → Int} {p : Nat} : -1 ≤ tXf c p ∧ tXf c p ≤ p + 100 := by
  have w := tPo_b (c := c) (p := p) (tXl c p)
  have w2 := tXl_b (c := c) (p := p)
  unfold tXf
  (repeat' split) <;> omega
theorem tNf_b1 {c : Nat → Int} {n p len : Nat} {lo hi : Int} (hc : tOk c n) : -1 ≤ tNf c n p len lo hi ∧ tNf c n p len lo hi ≤ p + 20 := by
  have w := tDe_sp (p := tNs c p) (m := 4) hc
  have w1 : tNs c p ≤ tNq c n p ∧ tNq c n p ≤ tNs c p + 4 := ⟨w.1, w.2.1⟩
  have h4 : p ≤ tNs c p ∧ tNs c p ≤ p + 1 := by
    unfold tNs
    split <;> omega
  have v := tDe_sp (p := tNq c n p + 1) (m := 6) hc
  have v1 : tNq c n p + 1 ≤ tNr c n p ∧ tNr c n p ≤ tNq c n p + 1 + 6 := ⟨v.1, v.2.1⟩
  unfold tNf
  by_cases z : tBd c (tNs c p) (tNq c n p)
  · rw [zite_t z]; omega
  · rw [zite_f z]
    by_cases y : tFr c (tNq c n p) len ∧ tBd c (tNq c n p + 1) (tNr c n p)
    · rw [zite_t y]; omega
    · rw [zite_f y]
      split <;> omega
theorem tVf_b1 {c : Nat → Int} {n b a q i : Nat} (hc : tOk c n) (h : tVp c n b a q i ≤ n) : -1 ≤ tVf c n b a q i ∧ tVf c n b a q i ≤ 9000 := by
  have hn := hc.1
  by_cases g : tGk c (tVp c n b a q i) b
  · have w := tGe_le hc g
    have w1 : tGp c n b a q i ≤ n := w.2
    by_cases t : tFc a i = 84
    · rw [tVf_t g t]
      have x := tXf_b1 (c := c) (p := tGp c n b a q i)
      omega
    · rw [tVf_n g t]
      have x := tNf_b1 (p := tGp c n b a q i) (len := tLen (tFc a i)) (lo := tLo (tFc a i)) (hi := tHi (tFc a i)) hc
      omega
  · rw [tVf_g g]
    omega
