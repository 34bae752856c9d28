/-! BEGINNING an object of a text -/
theorem tNf_r {c : Nat → Int} {n p len : Nat} {lo hi : Int} (h : tNf c n p len lo hi = -1) : lo ≤ tNv c n p len ∧ tNv c n p len ≤ hi := by
  have h1 : ¬ tBd c (tNs c p) (tNq c n p) := fun w => by
    unfold tNf at h
    rw [zite_t w] at h
    omega
  have h2 : ¬ (tFr c (tNq c n p) len ∧ tBd c (tNq c n p + 1) (tNr c n p)) := fun w => by
    unfold tNf at h
    rw [zite_f h1, zite_t w] at h
    omega
  unfold tNf at h
  rw [zite_f h1, zite_f h2] at h
  split at h <;> omega
/-- a name that may begin an object in one of kind b, while so many are there -/
def tBg (c : Nat → Int) (n p : Nat) (b : Int) (f : Nat) : Prop := tSk tSm c n p ≠ p ∧ tCn (tKd c p (tSk tSm c n p)) b ∧ f ≠ 200
theorem tSm_s {c : Nat → Int} {n p : Nat} (hc : tOk c n) (h : tSk tSm c n p ≠ p) : p < tSk tSm c n p ∧ tSk tSm c n p ≤ n ∧ ∀ i, i < tSk tSm c n p - p → 97 ≤ c (p + i) ∧ c (p + i) ≤ 122 := by
  have w := tSk_sp (P := tSm) (p := p) hc tSm_no
  exact ⟨by omega, by omega, fun i hi => w.2.2.1 (p + i) (by omega) (by omega)⟩
theorem tFc_v : tFc 0 0 = 86 ∧ tLen 86 = 0 ∧ tLo 86 = 1 ∧ tHi 86 = 3 := by decide +kernel
