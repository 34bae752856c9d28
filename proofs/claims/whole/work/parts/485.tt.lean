/-! TEXTS in quotes; powers of ten -/
theorem tTn_le : ∀ a, a < 7 → ∀ b, b < 7 → a ≤ b → tTn a ≤ tTn b := by decide +kernel
theorem tTn_mm {k j : Nat} {v : Int} (hj : j + k ≤ 6) (h0 : 0 ≤ v) (h : (k ≤ 6 → v < 1000000 ∧ (k ≤ 5 → v < 100000 ∧ (k ≤ 4 → v < 10000 ∧ (k ≤ 3 → v < 1000 ∧ (k ≤ 2 → v < 100 ∧ (k ≤ 1 → v < 10 ∧ (k = 0 → v = 0)))))))) : 0 ≤ tTn j * v ∧ tTn j * v ≤ 999999 := by
  have w := tTn_m (k := k) (by omega) h0 h
  have w1 := tTn_b j (by omega)
  have w2 := Int.mul_le_mul_of_nonneg_right (tTn_le j (by omega) (6 - k) (by omega) (by omega)) h0
  have w3 := Int.mul_nonneg (show 0 ≤ tTn j by omega) h0
  omega
/-- where the letters of a text whose quote is at p stand, and what they are -/
def tPo (c : Nat → Int) (p : Nat) : Nat → Nat
  | 0 => p + 1
  | i + 1 => if c (tPo c p i) = 92 then tPo c p i + 2 else tPo c p i + 1
def tLt (c : Nat → Int) (p i : Nat) : Int := if c (tPo c p i) = 92 then c (tPo c p i + 1) else c (tPo c p i)
/-- a text ends, or can't go on, at its letter i -/
def tXs (c : Nat → Int) (p i : Nat) : Prop := c (tPo c p i) = 34 ∨ i = 40 ∨ c (tPo c p i) < 32 ∨ (c (tPo c p i) = 92 ∧ c (tPo c p i + 1) ≠ 34 ∧ c (tPo c p i + 1) ≠ 92)
/-- its length, its end, its fault -/
noncomputable def tXl (c : Nat → Int) (p : Nat) : Nat := (zlow (tXs c p) 41).toNat
noncomputable def tXe (c : Nat → Int) (p : Nat) : Nat := tPo c p (tXl c p) + 1
noncomputable def tXf (c : Nat → Int) (p : Nat) : Int := if c p ≠ 34 then (p : Int) else if c (tPo c p (tXl c p)) = 34 then -1 else if tXl c p = 40 ∨ c (tPo c p (tXl c p)) < 32 then (tPo c p (tXl c p) : Int) else (tPo c p (tXl c p) : Int) + 1
theorem tPo_s {c : Nat → Int} {p m q : Nat} (hq : q = tPo c p m) : (c q = 92 → tPo c p (m + 1) = q + 2) ∧ (c q ≠ 92 → tPo c p (m + 1) = q + 1) := by
  subst hq
  exact ⟨fun h => if_pos h, fun h => if_neg h⟩
theorem tLt_s {c : Nat → Int} {p m q : Nat} (hq : q = tPo c p m) : (c q = 92 → tLt c p m = c (q + 1)) ∧ (c q ≠ 92 → tLt c p m = c q) := by
  subst hq
  exact ⟨fun h => if_pos h, fun h => if_neg h⟩
theorem tXl_at {c : Nat → Int} {p m : Nat} (hm : m ≤ 40) (hn : ∀ i, i < m → ¬ tXs c p i) (hs : tXs c p m) : tXl c p = m := by
  unfold tXl
  rw [zlow_at hs hn (by omega)]
  rfl
theorem tXs_n {c : Nat → Int} {p m q : Nat} (hq : q = tPo c p m) (h1 : c q ≠ 34) (h2 : m ≠ 40) (h3 : ¬ c q < 32) (h4 : c q = 92 → c (q + 1) = 34 ∨ c (q + 1) = 92) : ¬ tXs c p m := by
  subst hq
  rintro (h | h | h | ⟨h, h5, h6⟩)
  · exact h1 h
  · exact h2 h
  · exact h3 h
  · rcases h4 h with w | w
    · exact h5 w
    · exact h6 w
theorem tXs_up {c : Nat → Int} {p m : Nat} (hn : ∀ i, i < m → ¬ tXs c p i) (h : ¬ tXs c p m) : ∀ i, i < m + 1 → ¬ tXs c p i := fun i hi => by
  by_cases e : i = m
  · rw [e]; exact h
  · exact hn i (by omega)
theorem tXf_n {c : Nat → Int} {p : Nat} (h : ¬ c p = 34) : tXf c p = p := if_pos h
theorem tXf_q {c : Nat → Int} {p m q : Nat} (h0 : c p = 34) (hq : q = tPo c p m) (hm : m ≤ 40) (hn : ∀ i, i < m → ¬ tXs c p i) (h1 : c q = 34) : tXf c p = -1 ∧ tXe c p = q + 1 ∧ tXl c p = m := by
  subst hq
  have e := tXl_at hm hn (Or.inl h1)
  unfold tXf tXe
  rw [e]
  exact ⟨(if_neg (fun w => w h0)).trans (if_pos h1), rfl, rfl⟩
theorem tXf_a {c : Nat → Int} {p m q : Nat} (h0 : c p = 34) (hq : q = tPo c p m) (hm : m ≤ 40) (hn : ∀ i, i < m → ¬ tXs c p i) (h1 : c q ≠ 34) (h2 : m = 40 ∨ c q < 32) : tXf c p = q := by
  subst hq
  have e := tXl_at hm hn (by rcases h2 with h | h; exact Or.inr (Or.inl h); exact Or.inr (Or.inr (Or.inl h)))
  unfold tXf
  rw [e]
  exact (if_neg (fun w => w h0)).trans ((if_neg h1).trans (if_pos h2))
theorem tXf_b {c : Nat → Int} {p m q : Nat} (h0 : c p = 34) (hq : q = tPo c p m) (hm : m ≤ 40) (hn : ∀ i, i < m → ¬ tXs c p i) (h1 : c q = 92) (h2 : m ≠ 40) (h3 : c (q + 1) ≠ 34) (h4 : c (q + 1) ≠ 92) : tXf c p = q + 1 := by
  subst hq
  have e := tXl_at hm hn (Or.inr (Or.inr (Or.inr ⟨h1, h3, h4⟩)))
  unfold tXf
  rw [e]
  exact (if_neg (fun w => w h0)).trans ((if_neg (by omega)).trans (if_neg (by omega)))
/-- a text that is well -/
theorem tXf_g {c : Nat → Int} {n p : Nat} (hc : tOk c n) (h : tXf c p = -1) : c p = 34 ∧ tXl c p ≤ 40 ∧ p + 1 + tXl c p < tXe c p ∧ tXe c p ≤ n ∧ ∀ i, i < tXl c p → 32 ≤ tLt c p i ∧ tLt c p i ≤ 126 := by
  have h0 : c p = 34 := by
    by_cases q : c p = 34
    · exact q
    · rw [tXf_n q] at h
      omega
  have hs : ∀ i, i < 41 → (∀ j, j < i → ¬ tXs c p j) → p + 1 + i ≤ tPo c p i := fun i => by
    induction i with
    | zero => intro _ _; exact Nat.le_refl _
    | succ i ih =>
      intro h1 h2
      have w := ih (by omega) (fun j hj => h2 j (by omega))
      have w2 := tPo_s (c := c) (p := p) (m := i) rfl
      by_cases e : c (tPo c p i) = 92
      · rw [w2.1 e]; omega
      · rw [w2.2 e]; omega
  rcases zlow_sp (tXs c p) 41 with ⟨w1, w2⟩ | ⟨r, w1, w2, w3, w4⟩
  · exact absurd (Or.inr (Or.inl rfl)) (w2 40 (by decide))
  · have e : tXl c p = r := tXl_at (by omega) w4 w3
    have hw := hs r (by omega) w4
    unfold tXf at h
    rw [if_neg (fun w => w h0), e] at h
    have hq : c (tPo c p r) = 34 := by
      by_cases q : c (tPo c p r) = 34
      · exact q
      · rw [if_neg q] at h
        split at h <;> omega
    have hn : tPo c p r < n := by
      rcases Nat.lt_or_ge (tPo c p r) n with q | q
      · exact q
      · have z := hc.2.2 _ q
        omega
    have he : tXe c p = tPo c p r + 1 := by
      unfold tXe
      rw [e]
    rw [e, he]
    refine ⟨h0, by omega, by omega, by omega, fun i hi => ?_⟩
    have z := w4 i hi
    have z2 := tLt_s (c := c) (p := p) (m := i) rfl
    have hno : ¬ c (tPo c p i) < 32 := fun w => z (Or.inr (Or.inr (Or.inl w)))
    by_cases q : c (tPo c p i) = 92
    · rw [z2.1 q]
      by_cases q1 : c (tPo c p i + 1) = 34
      · omega
      · by_cases q2 : c (tPo c p i + 1) = 92
        · omega
        · exact absurd (Or.inr (Or.inr (Or.inr ⟨q, q1, q2⟩))) z
    · rw [z2.2 q]
      have b := (tOk_b (p := tPo c p i) hc).2.2.2
      omega
