/-! KEEPING a list, letter by letter -/
def tuT (c : Nat → Int) (u : Nat × Nat × Nat) : Nat × Nat × Nat := if u.2.2 = 0 then (u.1 + 1, (if c u.1 = 40 then u.2.1 + 1 else if c u.1 = 41 then u.2.1 - 1 else u.2.1), if c u.1 = 34 then 1 else 0)
    else if c u.1 = 34 then (u.1 + 1, u.2.1, 0) else if c u.1 = 92 then (u.1 + 2, u.2.1, 1) else (u.1 + 1, u.2.1, 1)
theorem tuS_s {c : Nat → Int} {q0 k : Nat} : tuS c q0 (k + 1) = tuT c (tuS c q0 k) := rfl
/-- so far: what is open in it, 1 in a text; the fault, the place -/
def tuV (c : Nat → Int) (n lim ar q0 i m : Nat) (f pl : Int) : Prop := ∃ k, (∀ j, j < k → ¬ tuP c n lim ar q0 j) ∧ ((f = -1 ∧ 0 ≤ pl ∧ tuS c q0 k = (pl.toNat, i, m)) ∨ (f ≠ -1 ∧ f = tuF c n lim ar (tuS c q0 k) ∧ (tuS c q0 k).2.1 ≠ 0))
theorem tuV_0 {c : Nat → Int} {n lim ar q0 : Nat} : tuV c n lim ar q0 1 0 (-1) q0 := ⟨0, fun j h => absurd h (Nat.not_lt_zero j), Or.inl ⟨rfl, Int.natCast_nonneg _, rfl⟩⟩
theorem tuV_s {c : Nat → Int} {n lim ar q0 i m q : Nat} {q1 : Int} (h : tuV c n lim ar q0 i m (-1) q1) (e : q1 = q) (hi : i ≠ 0) (hf : tuF c n lim ar (q, i, m) = -1) {q' i' m' : Nat} (ht : tuT c (q, i, m) = (q', i', m')) {p' : Int} (hp : p' = q') : tuV c n lim ar q0 i' m' (-1) p' := by
  obtain ⟨k, h1, h2⟩ := h
  rcases h2 with ⟨_, _, h2⟩ | ⟨h2, _⟩
  · rw [e, Int.toNat_natCast] at h2
    refine ⟨k + 1, fun j hj => ?_, Or.inl ⟨rfl, by omega, ?_⟩⟩
    · by_cases ej : j = k
      · rw [ej]
        unfold tuP
        rw [h2]
        exact fun w => by
          rcases w with w | w
          · exact hi w
          · exact w hf
      · exact h1 j (by omega)
    · rw [tuS_s, h2, ht, hp, Int.toNat_natCast]
  · exact absurd rfl h2
theorem tuV_f {c : Nat → Int} {n lim ar q0 i m q i' m' : Nat} {q1 f p' : Int} (h : tuV c n lim ar q0 i m (-1) q1) (e : q1 = q) (hi : i ≠ 0) (hf : tuF c n lim ar (q, i, m) = f) (hf1 : f ≠ -1) : tuV c n lim ar q0 i' m' f p' := by
  obtain ⟨k, h1, h2⟩ := h
  rcases h2 with ⟨_, _, h2⟩ | ⟨h2, _⟩
  · rw [e, Int.toNat_natCast] at h2
    refine ⟨k, h1, Or.inr ⟨hf1, by rw [h2]; exact hf.symm, by rw [h2]; exact hi⟩⟩
  · exact absurd rfl h2
theorem tuV_p {c : Nat → Int} {n lim ar q0 i m i' m' : Nat} {f p p' : Int} (h : tuV c n lim ar q0 i m f p) (hf1 : f ≠ -1) : tuV c n lim ar q0 i' m' f p' := by
  obtain ⟨k, h1, h2⟩ := h
  rcases h2 with ⟨h2, _⟩ | h2
  · exact absurd h2 hf1
  · exact ⟨k, h1, Or.inr h2⟩
theorem tuF_1 {c : Nat → Int} {n lim ar q i m : Nat} (h : n ≤ q ∨ lim ≤ q ∨ (m = 0 ∧ c q = 40 ∧ ar + i = 100)) : tuF c n lim ar (q, i, m) = q := if_pos h
theorem tuF_2 {c : Nat → Int} {n lim ar q i m : Nat} (h : ¬ (n ≤ q ∨ lim ≤ q ∨ (m = 0 ∧ c q = 40 ∧ ar + i = 100))) (h2 : m ≠ 0 ∧ c q = 92 ∧ (lim ≤ q + 1 ∨ (c (q + 1) ≠ 34 ∧ c (q + 1) ≠ 92))) : tuF c n lim ar (q, i, m) = (q : Int) + 1 := (if_neg h).trans (if_pos h2)
theorem tuF_0 {c : Nat → Int} {n lim ar q i m : Nat} (h : ¬ (n ≤ q ∨ lim ≤ q ∨ (m = 0 ∧ c q = 40 ∧ ar + i = 100))) (h2 : ¬ (m ≠ 0 ∧ c q = 92 ∧ (lim ≤ q + 1 ∨ (c (q + 1) ≠ 34 ∧ c (q + 1) ≠ 92)))) : tuF c n lim ar (q, i, m) = -1 := (if_neg h).trans (if_neg h2)
theorem tuT_q {c : Nat → Int} {q i : Nat} (h : c q = 34) : tuT c (q, i, 1) = (q + 1, i, 0) := (if_neg (by show ¬ (1 : Nat) = 0; decide)).trans (if_pos h)
theorem tuT_e {c : Nat → Int} {q i : Nat} (h : c q = 92) : tuT c (q, i, 1) = (q + 2, i, 1) := (if_neg (by show ¬ (1 : Nat) = 0; decide)).trans ((if_neg (by show ¬ c q = 34; omega)).trans (if_pos h))
theorem tuT_n {c : Nat → Int} {q i : Nat} (h : c q ≠ 34) (h2 : c q ≠ 92) : tuT c (q, i, 1) = (q + 1, i, 1) := (if_neg (by show ¬ (1 : Nat) = 0; decide)).trans ((if_neg h).trans (if_neg h2))
theorem tuT_o {c : Nat → Int} {q i : Nat} : tuT c (q, i, 0) = (q + 1, (if c q = 40 then i + 1 else if c q = 41 then i - 1 else i), if c q = 34 then 1 else 0) := if_pos rfl
/-- a letter in a text -/
theorem tuV_tq {c : Nat → Int} {n lim ar q0 i q : Nat} {q1 p' : Int} (h : tuV c n lim ar q0 i 1 (-1) q1) (e : q1 = q) (hi : i ≠ 0) (hn : q < n) (hl : q < lim) (hq : c q = 34) (hp : p' = (q : Int) + 1) : tuV c n lim ar q0 i 0 (-1) p' := tuV_s h e hi (tuF_0 (by omega) (by omega)) (tuT_q hq) (by omega)
theorem tuV_te {c : Nat → Int} {n lim ar q0 i q : Nat} {q1 p' : Int} (h : tuV c n lim ar q0 i 1 (-1) q1) (e : q1 = q) (hi : i ≠ 0) (hn : q < n) (hl : q + 1 < lim) (hq : c q = 92) (hq2 : c (q + 1) = 34 ∨ c (q + 1) = 92) (hp : p' = (q : Int) + 2) : tuV c n lim ar q0 i 1 (-1) p' := tuV_s h e hi (tuF_0 (by omega) (by omega)) (tuT_e hq) (by omega)
theorem tuV_tn {c : Nat → Int} {n lim ar q0 i q : Nat} {q1 p' : Int} (h : tuV c n lim ar q0 i 1 (-1) q1) (e : q1 = q) (hi : i ≠ 0) (hn : q < n) (hl : q < lim) (hq : c q ≠ 34) (hq2 : c q ≠ 92) (hp : p' = (q : Int) + 1) : tuV c n lim ar q0 i 1 (-1) p' := tuV_s h e hi (tuF_0 (by omega) (by omega)) (tuT_n hq hq2) (by omega)
theorem tuV_f1 {c : Nat → Int} {n lim ar q0 i m q i' m' : Nat} {q1 f p' : Int} (h : tuV c n lim ar q0 i m (-1) q1) (e : q1 = q) (hi : i ≠ 0) (hq : n ≤ q ∨ lim ≤ q ∨ (m = 0 ∧ c q = 40 ∧ ar + i = 100)) (hf : f = q) : tuV c n lim ar q0 i' m' f p' := tuV_f h e hi ((tuF_1 hq).trans hf.symm) (by omega)
theorem tuV_f2 {c : Nat → Int} {n lim ar q0 i q i' m' : Nat} {q1 f p' : Int} (h : tuV c n lim ar q0 i 1 (-1) q1) (e : q1 = q) (hi : i ≠ 0) (hn : q < n) (hl : q < lim) (hq : c q = 92) (hq2 : lim ≤ q + 1 ∨ (c (q + 1) ≠ 34 ∧ c (q + 1) ≠ 92)) (hf : f = (q : Int) + 1) : tuV c n lim ar q0 i' m' f p' := tuV_f h e hi ((tuF_2 (by omega) ⟨by decide, hq, hq2⟩).trans hf.symm) (by omega)
/-- a letter outside of texts -/
theorem tuV_o {c : Nat → Int} {n lim ar q0 i q i' m' : Nat} {q1 p' : Int} (h : tuV c n lim ar q0 i 0 (-1) q1) (e : q1 = q) (hi : i ≠ 0) (hn : q < n) (hl : q < lim) (hq : ¬ (c q = 40 ∧ ar + i = 100)) (hi' : (c q = 40 ∧ i' = i + 1) ∨ (c q = 41 ∧ i' = i - 1) ∨ (c q ≠ 40 ∧ c q ≠ 41 ∧ i' = i)) (hm' : (c q = 34 ∧ m' = 1) ∨ (c q ≠ 34 ∧ m' = 0)) (hp : p' = (q : Int) + 1) : tuV c n lim ar q0 i' m' (-1) p' := by
  refine tuV_s h e hi (tuF_0 (by omega) (by omega)) (q' := q + 1) (tuT_o.trans ?_) (by omega)
  have e1 : (if c q = 40 then i + 1 else if c q = 41 then i - 1 else i) = i' := by (repeat' split) <;> omega
  have e2 : (if c q = 34 then 1 else 0 : Nat) = m' := by split <;> omega
  rw [e1, e2]
/-- how it ends -/
theorem tuV_x {c : Nat → Int} {n lim ar q0 i m : Nat} {f p : Int} (h : tuV c n lim ar q0 i m f p) (hq : ¬ lim < q0) (hf : f ≠ -1) : tuX c n lim ar q0 = f := by
  obtain ⟨k, h1, h2⟩ := h
  rcases h2 with ⟨h2, _⟩ | ⟨_, h2, h3⟩
  · exact absurd h2 hf
  · rw [h2] at hf ⊢
    exact tuX_f hq h1 h3 hf
theorem tuV_e {c : Nat → Int} {n lim ar q0 m : Nat} {p : Int} (h : tuV c n lim ar q0 0 m (-1) p) (hq : ¬ lim < q0) : tuX c n lim ar q0 = -1 ∧ (tuE c n lim ar q0 : Int) = p := by
  obtain ⟨k, h1, h2⟩ := h
  rcases h2 with ⟨_, h3, h2⟩ | ⟨h2, _⟩
  · have w := tuX_e (n := n) (lim := lim) (ar := ar) hq h1 (by rw [h2])
    refine ⟨w.1, ?_⟩
    rw [w.2, h2]
    show ((p.toNat : Nat) : Int) = p
    omega
  · exact absurd rfl h2
