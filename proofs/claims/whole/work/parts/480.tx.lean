/-! TEXTS of sheets: blanks, names, numbers -/
/-- a text's characters: -1 behind its end -/
def tOk (c : Nat → Int) (n : Nat) : Prop := n ≤ 4000 ∧ (∀ p, p < n → c p = 10 ∨ (32 ≤ c p ∧ c p ≤ 126)) ∧ ∀ p, n ≤ p → c p = -1
def tBk (x : Int) : Prop := x = 32 ∨ x = 10
def tDt (x : Int) : Prop := 48 ≤ x ∧ x ≤ 57
def tSm (x : Int) : Prop := 97 ≤ x ∧ x ≤ 122
theorem tOk_b {c : Nat → Int} {n p : Nat} (h : tOk c n) : (n ≤ p → c p = -1) ∧ (p < n → 10 ≤ c p) ∧ -1 ≤ c p ∧ c p ≤ 126 := by
  refine ⟨h.2.2 p, fun q => ?_, ?_⟩
  · have := h.2.1 p q
    omega
  · rcases Nat.lt_or_ge p n with q | q
    · have := h.2.1 p q
      omega
    · have := h.2.2 p q
      omega
/-- where what holds of characters ends -/
noncomputable def tSk (P : Int → Prop) (c : Nat → Int) (n p : Nat) : Nat := p + (zlow (fun d => ¬ P (c (p + d))) (n + 1)).toNat
theorem tSk_at {P : Int → Prop} {c : Nat → Int} {n p q : Nat} (hpq : p ≤ q) (hqn : q ≤ p + n) (h : ∀ i, p ≤ i → i < q → P (c i)) (hq : ¬ P (c q)) : tSk P c n p = q := by
  have w := zlow_at (P := fun d => ¬ P (c (p + d))) (r := q - p) (by show ¬ P (c (p + (q - p))); rw [show p + (q - p) = q by omega]; exact hq) (fun b hb w => w (h (p + b) (by omega) (by omega))) (show q - p < n + 1 by omega)
  unfold tSk
  rw [w]
  omega
theorem tSk_sp {P : Int → Prop} {c : Nat → Int} {n p : Nat} (hc : tOk c n) (hP : ¬ P (-1)) : p ≤ tSk P c n p ∧ (tSk P c n p ≤ n ∨ tSk P c n p = p) ∧ (∀ i, p ≤ i → i < tSk P c n p → P (c i)) ∧ ¬ P (c (tSk P c n p)) := by
  unfold tSk
  rcases zlow_sp (fun d => ¬ P (c (p + d))) (n + 1) with w | ⟨r, w1, w2, w3, w4⟩
  · exfalso
    have z := w.2 n (Nat.lt_succ_self n)
    rw [hc.2.2 (p + n) (Nat.le_add_left _ _)] at z
    exact z hP
  · rw [w2]
    refine ⟨by omega, ?_, fun i h1 h2 => ?_, w3⟩
    · rcases Nat.lt_or_ge n (p + r) with q | q
      · right
        rcases Nat.eq_zero_or_pos r with z | z
        · omega
        · exfalso
          have z1 := w4 (r - 1) (by omega)
          have z2 := hc.2.2 (p + (r - 1)) (by omega)
          rw [z2] at z1
          exact z1 hP
      · left
        omega
    · have z := w4 (i - p) (by omega)
      rw [show p + (i - p) = i by omega] at z
      exact Classical.not_not.mp z
/-- the end of at most m digits -/
noncomputable def tDe (c : Nat → Int) (n p m : Nat) : Nat := min (tSk tDt c n p) (p + m)
theorem tDe_at {c : Nat → Int} {n p m q : Nat} (hc : tOk c n) (hpq : p ≤ q) (hqm : q ≤ p + m) (h : ∀ i, p ≤ i → i < q → tDt (c i)) (hq : q = p + m ∨ ¬ tDt (c q)) : tDe c n p m = q := by
  have w := tSk_sp (P := tDt) (p := p) hc (by unfold tDt; omega)
  unfold tDe
  rcases Nat.lt_trichotomy (tSk tDt c n p) q with z | z | z
  · exact absurd (h _ w.1 z) w.2.2.2
  · omega
  · rcases hq with u | u
    · omega
    · exact absurd (w.2.2.1 q hpq z) u
theorem tDe_sp {c : Nat → Int} {n p m : Nat} (hc : tOk c n) : p ≤ tDe c n p m ∧ tDe c n p m ≤ p + m ∧ (∀ i, p ≤ i → i < tDe c n p m → tDt (c i)) ∧ (tDe c n p m ≤ n ∨ tDe c n p m = p) := by
  have w := tSk_sp (P := tDt) (p := p) hc (by unfold tDt; omega)
  unfold tDe
  exact ⟨by omega, by omega, fun i h1 h2 => w.2.2.1 i h1 (by omega), by omega⟩
/-- the number of k digits -/
def tVl (c : Nat → Int) (p : Nat) : Nat → Int
  | 0 => 0
  | k + 1 => 10 * tVl c p k + c (p + k) - 48
theorem tVl_b {c : Nat → Int} {p n : Nat} (hd : ∀ i, p ≤ i → i < p + n → tDt (c i)) : ∀ {m : Nat}, m ≤ n → 0 ≤ tVl c p m ∧ (m ≤ 6 → tVl c p m < 1000000 ∧ (m ≤ 5 → tVl c p m < 100000 ∧ (m ≤ 4 → tVl c p m < 10000 ∧ (m ≤ 3 → tVl c p m < 1000 ∧ (m ≤ 2 → tVl c p m < 100 ∧ (m ≤ 1 → tVl c p m < 10 ∧ (m = 0 → tVl c p m = 0)))))))
  | 0, _ => by
    have e : tVl c p 0 = 0 := rfl
    omega
  | m + 1, h => by
    have ih := tVl_b hd (show m ≤ n by omega)
    obtain ⟨w1, w2⟩ := hd (p + m) (by omega) (by omega)
    have e : tVl c p (m + 1) = 10 * tVl c p m + c (p + m) - 48 := rfl
    omega
/-- what isn't as many digits as may be -/
def tBd (c : Nat → Int) (s q : Nat) : Prop := q = s ∨ tDt (c q)
/-- a number: where its digits begin and end, its end, its value, its fault -/
def tNs (c : Nat → Int) (p : Nat) : Nat := if c p = 45 then p + 1 else p
noncomputable def tNq (c : Nat → Int) (n p : Nat) : Nat := tDe c n (tNs c p) 4
def tFr (c : Nat → Int) (q len : Nat) : Prop := len = 1 ∧ c q = 46
noncomputable def tNr (c : Nat → Int) (n p : Nat) : Nat := tDe c n (tNq c n p + 1) 6
noncomputable def tNe (c : Nat → Int) (n p len : Nat) : Nat := zite (tFr c (tNq c n p) len) (tNr c n p) (tNq c n p)
def tTn : Nat → Int
  | 0 => 1
  | k + 1 => 10 * tTn k
/-- without its sign -/
noncomputable def tNu (c : Nat → Int) (n p len : Nat) : Int := (if len = 1 then 1000000 else 1) * tVl c (tNs c p) (tNq c n p - tNs c p) + zite (tFr c (tNq c n p) len) (tTn (6 - (tNr c n p - (tNq c n p + 1))) * tVl c (tNq c n p + 1) (tNr c n p - (tNq c n p + 1))) 0
noncomputable def tNv (c : Nat → Int) (n p len : Nat) : Int := if c p = 45 then -(tNu c n p len) else tNu c n p len
noncomputable def tNf (c : Nat → Int) (n p len : Nat) (lo hi : Int) : Int := zite (tBd c (tNs c p) (tNq c n p)) (tNq c n p : Int) (zite (tFr c (tNq c n p) len ∧ tBd c (tNq c n p + 1) (tNr c n p)) (tNr c n p : Int) (if tNv c n p len < lo ∨ hi < tNv c n p len then (p : Int) else -1))
