/-! GAPS and NAMES of a text -/
def tGk (c : Nat → Int) (p b : Nat) : Prop := c p = 32 ∨ (b = 1 ∧ c p = 10)
noncomputable def tGe (c : Nat → Int) (n p b : Nat) : Nat := if b = 1 then tSk tBk c n (p + 1) else p + 1
theorem tGe_1 {c : Nat → Int} {n p b : Nat} (h : b = 1) : tGe c n p b = tSk tBk c n (p + 1) := if_pos h
theorem tGe_0 {c : Nat → Int} {n p b : Nat} (h : ¬ b = 1) : tGe c n p b = p + 1 := if_neg h
theorem tSk_up {c : Nat → Int} {n p : Nat} (hc : tOk c n) (h : tBk (c p)) : tSk tBk c n p = tSk tBk c n (p + 1) := by
  have w := tSk_sp (P := tBk) (p := p + 1) hc (by unfold tBk; omega)
  have hp : p < n := by
    rcases Nat.lt_or_ge p n with q | q
    · exact q
    · rw [hc.2.2 p q] at h
      unfold tBk at h
      omega
  refine tSk_at (by omega) (by omega) (fun i h1 h2 => ?_) w.2.2.2
  by_cases e : i = p
  · rw [e]; exact h
  · exact w.2.2.1 i (by omega) h2
theorem tGk_b {c : Nat → Int} {p b : Nat} (h : tGk c p b) : tBk (c p) := by
  unfold tGk at h
  unfold tBk
  omega
theorem tSk_b {P : Int → Prop} {c : Nat → Int} {n p : Nat} (hc : tOk c n) (hP : ¬ P (-1)) : p ≤ tSk P c n p ∧ (tSk P c n p ≤ n ∨ tSk P c n p = p) := by
  have w := tSk_sp (P := P) (p := p) hc hP
  exact ⟨w.1, w.2.1⟩
theorem tBk_no : ¬ tBk (-1) := by unfold tBk; omega
theorem tSm_no : ¬ tSm (-1) := by unfold tSm; omega
/-- the letters of the name of a kind -/
def tWd (a i : Nat) : Int := ((tsb a).getD i 0 : Nat)
def tIs (c : Nat → Int) (p q a : Nat) : Prop := (tsb a).length = q - p ∧ ∀ i, i < (tsb a).length → c (p + i) = tWd a i
/-- the kind of a name -/
noncomputable def tKd (c : Nat → Int) (p q : Nat) : Int := if zlow (tIs c p q) 9 = -1 then 9 else zlow (tIs c p q) 9
theorem tKd_at {c : Nat → Int} {p q a : Nat} (ha : a < 9) (h : tIs c p q a) (hl : ∀ b, b < a → ¬ tIs c p q b) : tKd c p q = a := by
  have w := zlow_at h hl ha
  unfold tKd
  rw [w, if_neg (by omega)]
theorem tKd_no {c : Nat → Int} {p q : Nat} (hl : ∀ b, b < 9 → ¬ tIs c p q b) : tKd c p q = 9 := by
  unfold tKd
  rw [zlow_no hl]
  rfl
theorem tKd_b {c : Nat → Int} {p q : Nat} : 0 ≤ tKd c p q ∧ tKd c p q ≤ 9 := by
  unfold tKd
  rcases zlow_sp (tIs c p q) 9 with ⟨w1, w2⟩ | ⟨r, w1, w2, w3, w4⟩
  · rw [w1]; decide
  · rw [w2, if_neg (by omega)]; omega
/-- a name as a number -/
def tNm (c : Nat → Int) (p : Nat) : Nat → Int
  | 0 => 0
  | k + 1 => 27 * tNm c p k + c (p + k) - 96
theorem tNm_b {c : Nat → Int} {p n : Nat} (hd : ∀ i, i < n → 97 ≤ c (p + i) ∧ c (p + i) ≤ 122) : ∀ {m : Nat}, m ≤ n → 0 ≤ tNm c p m ∧ (0 < m → 1 ≤ tNm c p m) ∧ (m ≤ 6 → tNm c p m < 387420489 ∧ (m ≤ 5 → tNm c p m < 14348907 ∧ (m ≤ 4 → tNm c p m < 531441 ∧ (m ≤ 3 → tNm c p m < 19683 ∧ (m ≤ 2 → tNm c p m < 729 ∧ (m ≤ 1 → tNm c p m < 27 ∧ (m = 0 → tNm c p m = 0)))))))
  | 0, _ => by
    have e : tNm c p 0 = 0 := rfl
    omega
  | m + 1, h => by
    have ih := tNm_b hd (show m ≤ n by omega)
    obtain ⟨w1, w2⟩ := hd m (by omega)
    have e : tNm c p (m + 1) = 27 * tNm c p m + c (p + m) - 96 := rfl
    omega
theorem tNm_i {c d : Nat → Int} {p q : Nat} : ∀ {k m : Nat}, (∀ i, i < k → 97 ≤ c (p + i) ∧ c (p + i) ≤ 122) → (∀ i, i < m → 97 ≤ d (q + i) ∧ d (q + i) ≤ 122) → tNm c p k = tNm d q m → k = m ∧ ∀ i, i < k → c (p + i) = d (q + i)
  | 0, 0, _, _, _ => ⟨rfl, fun i h => absurd h (Nat.not_lt_zero i)⟩
  | 0, m + 1, _, h2, e => by
    have w := (tNm_b h2 (Nat.le_refl (m + 1))).2.1 (by omega)
    rw [← e] at w
    exact absurd w (by show ¬ (1 ≤ (0 : Int)); decide)
  | k + 1, 0, h1, _, e => by
    have w := (tNm_b h1 (Nat.le_refl (k + 1))).2.1 (by omega)
    rw [e] at w
    exact absurd w (by show ¬ (1 ≤ (0 : Int)); decide)
  | k + 1, m + 1, h1, h2, e => by
    have e1 : tNm c p (k + 1) = 27 * tNm c p k + c (p + k) - 96 := rfl
    have e2 : tNm d q (m + 1) = 27 * tNm d q m + d (q + m) - 96 := rfl
    have b1 := h1 k (by omega)
    have b2 := h2 m (by omega)
    have ih := tNm_i (fun i h => h1 i (by omega)) (fun i h => h2 i (by omega)) (show tNm c p k = tNm d q m by omega)
    have hkm := ih.1
    refine ⟨by omega, fun i hi => ?_⟩
    by_cases e3 : i = k
    · rw [e3]
      have e4 : c (p + k) = d (q + m) := by omega
      rw [e4, hkm]
    · exact ih.2 i (by omega)
theorem tWd_b : ∀ a, a < 9 → ∀ i, i < (tsb a).length → 97 ≤ tWd a (0 + i) ∧ tWd a (0 + i) ≤ 122 := by decide +kernel
theorem tWd_l : ∀ a, a < 9 → 3 ≤ (tsb a).length ∧ (tsb a).length ≤ 6 := by decide +kernel
/-- a name's number tells whether it is a kind's -/
def tCd (a : Nat) : Int := tNm (tWd a) 0 (tsb a).length
theorem tCd_is {c : Nat → Int} {p q a : Nat} (hpq : p ≤ q) (hs : ∀ i, i < q - p → 97 ≤ c (p + i) ∧ c (p + i) ≤ 122) (ha : a < 9) : tNm c p (q - p) = tCd a ↔ tIs c p q a := by
  refine ⟨fun e => ?_, fun h => ?_⟩
  · have w := tNm_i hs (tWd_b a ha) e
    refine ⟨w.1.symm, fun i hi => ?_⟩
    rw [w.2 i (by omega)]
    exact congrArg (tWd a) (Nat.zero_add i)
  · have g : ∀ k, k ≤ (tsb a).length → tNm c p k = tNm (tWd a) 0 k := fun k => by
      induction k with
      | zero => intro _; rfl
      | succ k ih =>
        intro hk
        have e1 : tNm c p (k + 1) = 27 * tNm c p k + c (p + k) - 96 := rfl
        have e2 : tNm (tWd a) 0 (k + 1) = 27 * tNm (tWd a) 0 k + tWd a (0 + k) - 96 := rfl
        rw [e1, e2, ih (by omega), h.2 k (by omega), Nat.zero_add]
    unfold tCd
    rw [← h.1]
    exact g _ (Nat.le_refl _)
theorem tIs_l {c : Nat → Int} {p q a : Nat} (h : 7 ≤ q - p) (ha : a < 9) : ¬ tIs c p q a := fun w => by
  have w1 := w.1
  have w2 := tWd_l a ha
  omega
theorem tCd_b : ∀ a, a < 9 → 1 ≤ tCd a ∧ tCd a ≤ 387420488 := by decide +kernel
