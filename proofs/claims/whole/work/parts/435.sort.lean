/-! SORTING -/
def zSe (n : Nat) (h h0 : Nat → Int) : Prop := ∀ w : Int, zex (fun j => j < n ∧ h j = w) ↔ zex (fun j => j < n ∧ h0 j = w)
def zSl (n p : Nat) (v : Int) (h h0 : Nat → Int) : Prop := ∀ w : Int, (zex (fun j => j < n ∧ j ≠ p ∧ h j = w) ∨ w = v) ↔ zex (fun j => j < n ∧ h0 j = w)
def zSo (g i : Nat) (h : Nat → Int) : Prop := g = 1 → ∀ a b : Nat, a < b → b < i → h a ≤ h b
def zSv (g i p : Nat) (v : Int) (h : Nat → Int) : Prop := g = 1 → (∀ a b : Nat, a < b → b ≤ i → a ≠ p → b ≠ p → h a ≤ h b) ∧ ∀ b : Nat, p < b → b ≤ i → v < h b
theorem zSe_r {n : Nat} {h : Nat → Int} : zSe n h h := fun _ => Iff.rfl
theorem zSl_0 {n p : Nat} {h h0 : Nat → Int} (hs : zSe n h h0) (hp : p < n) : zSl n p (h p) h h0 := fun w => by
  rw [← hs w]
  constructor
  · rintro (q | q)
    · obtain ⟨j, h1, h2, h3⟩ := q
      exact Exists.intro j ⟨h1, h3⟩
    · exact Exists.intro p ⟨hp, q.symm⟩
  · intro q
    obtain ⟨j, h1, h2⟩ := q
    by_cases e : j = p
    · rw [e] at h2; exact Or.inr h2.symm
    · exact Or.inl (Exists.intro j ⟨h1, e, h2⟩)
theorem zSl_s {n p r : Nat} {v : Int} {h h0 : Nat → Int} (hs : zSl n p v h h0) (hp : p < n) (hr : r < n) (hne : r ≠ p) : zSl n r v (upF h p (h r)) h0 := fun w => by
  rw [← hs w]
  constructor
  · rintro (q | q)
    · obtain ⟨j, h1, h2, h3⟩ := q
      left
      by_cases e : j = p
      · rw [e, upF_at] at h3
        exact Exists.intro r ⟨hr, hne, h3⟩
      · rw [upF_ne e] at h3
        exact Exists.intro j ⟨h1, e, h3⟩
    · exact Or.inr q
  · rintro (q | q)
    · obtain ⟨j, h1, h2, h3⟩ := q
      left
      by_cases e : j = r
      · exact Exists.intro p ⟨hp, fun k => hne k.symm, by rw [upF_at, ← e]; exact h3⟩
      · exact Exists.intro j ⟨h1, e, by rw [upF_ne h2]; exact h3⟩
    · exact Or.inr q
theorem zSl_e {n p : Nat} {v : Int} {h h0 : Nat → Int} (hs : zSl n p v h h0) (hp : p < n) : zSe n (upF h p v) h0 := fun w => by
  rw [← hs w]
  constructor
  · intro q
    obtain ⟨j, h1, h2⟩ := q
    by_cases e : j = p
    · rw [e, upF_at] at h2; exact Or.inr h2.symm
    · rw [upF_ne e] at h2
      exact Or.inl (Exists.intro j ⟨h1, e, h2⟩)
  · rintro (q | q)
    · obtain ⟨j, h1, h2, h3⟩ := q
      exact Exists.intro j ⟨h1, by rw [upF_ne h2]; exact h3⟩
    · exact Exists.intro p ⟨hp, by rw [upF_at]; exact q.symm⟩
theorem zSv_0 {g i : Nat} {v : Int} {h : Nat → Int} (hs : zSo g i h) : zSv g i i v h := fun e => ⟨fun a b h1 h2 h3 h4 => hs e a b h1 (by omega), fun b h1 h2 => by omega⟩
theorem zSv_s {g i p r : Nat} {v : Int} {h : Nat → Int} (hs : zSv g i p v h) (hr : r + g = p) (hpi : p ≤ i) (hv : v < h r) : zSv g i r v (upF h p (h r)) := fun e => by
  obtain ⟨h1, h2⟩ := hs e
  subst e
  refine ⟨fun a b k1 k2 k3 k4 => ?_, fun b k1 k2 => ?_⟩
  · by_cases ea : a = p
    · rw [ea, upF_at, upF_ne (by omega)]
      exact h1 r b (by omega) k2 (by omega) (by omega)
    · rw [upF_ne ea]
      by_cases eb : b = p
      · rw [eb, upF_at]
        exact h1 a r (by omega) (by omega) ea (by omega)
      · rw [upF_ne eb]
        exact h1 a b k1 k2 ea eb
  · by_cases eb : b = p
    · rw [eb, upF_at]; exact hv
    · rw [upF_ne eb]; exact h2 b (by omega) k2
theorem zSo_s {g i p : Nat} {v : Int} {h : Nat → Int} (hs : zSv g i p v h) (hpi : p ≤ i) (hx : p < g ∨ ∃ r, r + g = p ∧ h r ≤ v) : zSo g (i + 1) (upF h p v) := fun e a b k1 k2 => by
  obtain ⟨h1, h2⟩ := hs e
  subst e
  by_cases ea : a = p
  · rw [ea, upF_at, upF_ne (by omega)]
    exact Int.le_of_lt (h2 b (by omega) (by omega))
  · rw [upF_ne ea]
    by_cases eb : b = p
    · rw [eb, upF_at]
      rcases hx with q | ⟨r, q1, q2⟩
      · omega
      · by_cases er : a = r
        · rw [er]; exact q2
        · exact Int.le_trans (h1 a r (by omega) (by omega) ea (by omega)) q2
    · rw [upF_ne eb]
      exact h1 a b k1 (by omega) ea eb
