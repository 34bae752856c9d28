/-! NUMBERS of a text -/
theorem tTn_q : ∀ i, i < 7 → (xmh.2.1 1 i).toInt = tTn i := by decide +kernel
theorem zSt_10 {I L : ZI} (h : zSt I L) {i : Nat} (hi : i < 7) : L 1 i = tTn i := (h 1 (by decide) (by decide) i (by omega)).2.trans (tTn_q i hi)
theorem tTn_b : ∀ i, i < 7 → 1 ≤ tTn i ∧ tTn i ≤ 1000000 := by decide +kernel
/-- a fraction in millionths -/
theorem tTn_m {k : Nat} {v : Int} (hk : k ≤ 6) (h0 : 0 ≤ v) (h : (k ≤ 6 → v < 1000000 ∧ (k ≤ 5 → v < 100000 ∧ (k ≤ 4 → v < 10000 ∧ (k ≤ 3 → v < 1000 ∧ (k ≤ 2 → v < 100 ∧ (k ≤ 1 → v < 10 ∧ (k = 0 → v = 0)))))))) : 0 ≤ tTn (6 - k) * v ∧ tTn (6 - k) * v ≤ 999999 := by
  have z : k = 0 ∨ k = 1 ∨ k = 2 ∨ k = 3 ∨ k = 4 ∨ k = 5 ∨ k = 6 := by omega
  rcases z with rfl | rfl | rfl | rfl | rfl | rfl | rfl
  · have e : v = 0 := by omega
    rw [e, Int.mul_zero]; omega
  · have e : tTn (6 - 1) = 100000 := rfl
    rw [e]; omega
  · have e : tTn (6 - 2) = 10000 := rfl
    rw [e]; omega
  · have e : tTn (6 - 3) = 1000 := rfl
    rw [e]; omega
  · have e : tTn (6 - 4) = 100 := rfl
    rw [e]; omega
  · have e : tTn (6 - 5) = 10 := rfl
    rw [e]; omega
  · have e : tTn (6 - 6) = 1 := rfl
    rw [e]; omega
theorem tNu_y {c : Nat → Int} {n p len : Nat} (h : len = 1) (hf : tFr c (tNq c n p) len) : tNu c n p len = 1000000 * tVl c (tNs c p) (tNq c n p - tNs c p) + tTn (6 - (tNr c n p - (tNq c n p + 1))) * tVl c (tNq c n p + 1) (tNr c n p - (tNq c n p + 1)) := by
  unfold tNu
  rw [if_pos h, zite_t hf]
theorem tNu_n {c : Nat → Int} {n p len : Nat} (h : len = 1) (hf : ¬ tFr c (tNq c n p) len) : tNu c n p len = 1000000 * tVl c (tNs c p) (tNq c n p - tNs c p) := by
  unfold tNu
  rw [if_pos h, zite_f hf]
  omega
theorem tNu_0 {c : Nat → Int} {n p len : Nat} (h : ¬ len = 1) : tNu c n p len = tVl c (tNs c p) (tNq c n p - tNs c p) := by
  unfold tNu
  rw [if_neg h, zite_f (fun w => h w.1)]
  omega
theorem tNf_1 {c : Nat → Int} {n p len : Nat} {lo hi : Int} (h : tBd c (tNs c p) (tNq c n p)) : tNf c n p len lo hi = tNq c n p := zite_t h
theorem tNf_2 {c : Nat → Int} {n p len : Nat} {lo hi : Int} (h : ¬ tBd c (tNs c p) (tNq c n p)) (h2 : tFr c (tNq c n p) len) (h3 : tBd c (tNq c n p + 1) (tNr c n p)) : tNf c n p len lo hi = tNr c n p := (zite_f h).trans (zite_t ⟨h2, h3⟩)
theorem tNf_3 {c : Nat → Int} {n p len : Nat} {lo hi : Int} (h : ¬ tBd c (tNs c p) (tNq c n p)) (h2 : ¬ (tFr c (tNq c n p) len ∧ tBd c (tNq c n p + 1) (tNr c n p))) (h3 : tNv c n p len < lo ∨ hi < tNv c n p len) : tNf c n p len lo hi = p := (zite_f h).trans ((zite_f h2).trans (if_pos h3))
theorem tNf_4 {c : Nat → Int} {n p len : Nat} {lo hi : Int} (h : ¬ tBd c (tNs c p) (tNq c n p)) (h2 : ¬ (tFr c (tNq c n p) len ∧ tBd c (tNq c n p + 1) (tNr c n p))) (h3 : ¬ (tNv c n p len < lo ∨ hi < tNv c n p len)) : tNf c n p len lo hi = -1 := (zite_f h).trans ((zite_f h2).trans (if_neg h3))
theorem tNe_y {c : Nat → Int} {n p len : Nat} (h : tFr c (tNq c n p) len) : tNe c n p len = tNr c n p := zite_t h
theorem tNe_n {c : Nat → Int} {n p len : Nat} (h : ¬ tFr c (tNq c n p) len) : tNe c n p len = tNq c n p := zite_f h
theorem tNs_y {c : Nat → Int} {p : Nat} (h : c p = 45) : tNs c p = p + 1 := if_pos h
theorem tNs_n {c : Nat → Int} {p : Nat} (h : ¬ c p = 45) : tNs c p = p := if_neg h
theorem tNv_y {c : Nat → Int} {n p len : Nat} (h : c p = 45) : tNv c n p len = -(tNu c n p len) := if_pos h
theorem tNv_n {c : Nat → Int} {n p len : Nat} (h : ¬ c p = 45) : tNv c n p len = tNu c n p len := if_neg h
/-- the range of a field, by the class's letter -/
def tLo (f : Int) : Int := if f = 86 then 1 else if f = 85 then 1 else if f = 65 then -360 else if f = 78 then -1000000000 else 0
def tHi (f : Int) : Int := if f = 86 then 3 else if f = 75 then 9 else if f = 65 then 360 else if f = 78 then 1000000000 else 9999
def tLen (f : Int) : Nat := if f = 78 then 1 else 0
