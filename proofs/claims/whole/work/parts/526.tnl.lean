/-! LINES that the reference keeps -/
def tNl (x : Int) : Prop := x ≠ 10 ∧ x ≠ -1
theorem tNl_no : ¬ tNl (-1) := fun w => w.2 rfl
/-- ends of lines so far -/
def tlQ (c : Nat → Int) (n lim d q0 q : Nat) : Prop := q0 ≤ q ∧ q ≤ n ∧ q ≤ lim ∧ (q = n ∨ c q = 10) ∧ ∀ t, q0 ≤ t → t < q → t < n ∧ t < lim ∧ (c t = 10 → tDd c (t + 1) d)
theorem tlQ_p {c : Nat → Int} {n lim d q0 q : Nat} (h : tlQ c n lim d q0 q) : ∀ t, q0 ≤ t → t < q → ¬ tlP c n lim d t := fun t h1 h2 w => by
  have z := h.2.2.2.2 t h1 h2
  rcases w with w | w | w
  · exact w.2 (z.2.2 w.1)
  · omega
  · omega
/-- the first line's end -/
theorem tlQ_0 {c : Nat → Int} {n lim d q0 p : Nat} (hc : tOk c n) (hp : p ≤ q0 ∧ q0 ≤ n) (hs : ∀ t, p ≤ t → t < q0 → tSm (c t)) : (tSk tNl c n p ≤ lim → tlQ c n lim d q0 (tSk tNl c n p)) ∧ (lim < tSk tNl c n p → tlX c n lim d q0 = lim) ∧ p ≤ tSk tNl c n p ∧ tSk tNl c n p ≤ n := by
  have w := tSk_sp (P := tNl) (p := p) hc tNl_no
  have hq : q0 ≤ tSk tNl c n p := by
    rcases Nat.lt_or_ge (tSk tNl c n p) q0 with z | z
    · exfalso
      have z2 := hs _ w.1 z
      unfold tSm at z2
      exact w.2.2.2 ⟨by omega, by omega⟩
    · exact z
  have hn : tSk tNl c n p ≤ n := by omega
  have he : tSk tNl c n p = n ∨ c (tSk tNl c n p) = 10 := by
    by_cases e : c (tSk tNl c n p) = 10
    · exact Or.inr e
    · left
      rcases Nat.lt_or_ge (tSk tNl c n p) n with z | z
      · exfalso
        have z2 := hc.2.1 _ z
        exact w.2.2.2 ⟨e, by omega⟩
      · omega
  refine ⟨fun hl => ⟨hq, hn, hl, he, fun t h1 h2 => ⟨by omega, by omega, fun h3 => absurd h3 (w.2.2.1 t (by omega) h2).1⟩⟩, fun hl => ?_, w.1, hn⟩
  rcases Nat.lt_or_ge lim q0 with z | z
  · exact tlX_l z
  · have z2 := w.2.2.1 lim (by omega) hl
    exact tlX_f (by omega) z (fun t h1 h2 y => by
      have z3 := w.2.2.1 t (by omega) (by omega)
      rcases y with y | y | y
      · exact z3.1 y.1
      · omega
      · omega) (fun y => z2.1 y.1) (Or.inr (Nat.le_refl _))
/-- the next line's end -/
theorem tlQ_s {c : Nat → Int} {n lim d q0 q : Nat} (hc : tOk c n) (h : tlQ c n lim d q0 q) (h0 : ¬ lim < q0) (hqn : q < n) (hd : tDd c (q + 1) d) : (tSk tNl c n (q + 1) ≤ lim → tlQ c n lim d q0 (tSk tNl c n (q + 1))) ∧ (lim < tSk tNl c n (q + 1) → tlX c n lim d q0 = lim) ∧ q + 1 ≤ tSk tNl c n (q + 1) ∧ tSk tNl c n (q + 1) ≤ n := by
  have w := tSk_sp (P := tNl) (p := q + 1) hc tNl_no
  have hn : tSk tNl c n (q + 1) ≤ n := by omega
  have he : tSk tNl c n (q + 1) = n ∨ c (tSk tNl c n (q + 1)) = 10 := by
    by_cases e : c (tSk tNl c n (q + 1)) = 10
    · exact Or.inr e
    · left
      rcases Nat.lt_or_ge (tSk tNl c n (q + 1)) n with z | z
      · exfalso
        have z2 := hc.2.1 _ z
        exact w.2.2.2 ⟨e, by omega⟩
      · omega
  obtain ⟨g1, g2, g3, g4, g5⟩ := h
  have ha : ∀ t, q0 ≤ t → t < tSk tNl c n (q + 1) → (c t = 10 → tDd c (t + 1) d) := fun t h1 h2 h3 => by
    rcases Nat.lt_trichotomy t q with z | z | z
    · exact (g5 t h1 z).2.2 h3
    · rw [z]
      exact hd
    · exact absurd h3 (w.2.2.1 t (by omega) h2).1
  refine ⟨fun hl => ⟨by omega, hn, hl, he, fun t h1 h2 => ⟨by omega, by omega, ha t h1 h2⟩⟩, fun hl => ?_, w.1, hn⟩
  exact tlX_f h0 (by omega) (fun t h1 h2 y => by
    rcases y with y | y | y
    · exact y.2 (ha t h1 (by omega) y.1)
    · omega
    · omega) (fun y => y.2 (ha lim (by omega) hl y.1)) (Or.inr (Nat.le_refl _))
/-- how it ends -/
theorem tlQ_e {c : Nat → Int} {n lim d q0 q : Nat} (h : tlQ c n lim d q0 q) (h0 : ¬ lim < q0) (hqn : q < n) (hd : ¬ tDd c (q + 1) d) : tlX c n lim d q0 = -1 ∧ tlE c n lim d q0 = q := tlX_e h0 h.1 (tlQ_p h) ⟨by have w := h.2.2.2.1; omega, hd⟩
theorem tlQ_n {c : Nat → Int} {n lim d q0 q : Nat} (hc : tOk c n) (h : tlQ c n lim d q0 q) (h0 : ¬ lim < q0) (hqn : n ≤ q) : tlX c n lim d q0 = q := tlX_f h0 h.1 (tlQ_p h) (fun w => by have z := hc.2.2 q hqn; omega) (Or.inl hqn)
theorem tDd_d {c : Nat → Int} {n p d : Nat} (hc : tOk c n) : d < tSk tDo c n p - p ↔ tDd c p d := by
  have w := tSk_sp (P := tDo) (p := p) hc tDo_no
  refine ⟨fun h t ht => w.2.2.1 (p + t) (by omega) (by omega), fun h => ?_⟩
  rcases Nat.lt_or_ge d (tSk tDo c n p - p) with z | z
  · exact z
  · exfalso
    have z2 := h (tSk tDo c n p - p) z
    rw [show p + (tSk tDo c n p - p) = tSk tDo c n p by omega] at z2
    exact w.2.2.2 z2
/-- the objects at the end, as others read them -/
theorem zVO_M {k : Nat} {c : Nat → Int} {n b : Nat} {s : TyS} {I L I' L' : ZI} (h : zVO k c n b 1 s I L) (h4 : I' k 4 = tyn s) (hf : ∀ x j : Nat, k + 2 ≤ x → x ≤ k + 6 → I' x j = I x j) (hl : ∀ j : Nat, L' (k + 4) j = L (k + 4) j) : zOM k (tOS c n b s) I' L' := by
  refine ⟨h4, fun j hj => ?_, fun j w hj hw => ?_, fun j w hj hk hw => ?_⟩
  · have z := (h.2.2 rfl j hj).1
    exact ⟨(hf _ _ (by omega) (by omega)).trans z.1, (hf _ _ (by omega) (by omega)).trans z.2⟩
  · exact (hl _).trans ((h.2.2 rfl j hj).2.1 w hw)
  · have z := (h.2.2 rfl j hj).2.2.1 hk w hw
    exact ⟨(hf _ _ (by omega) (by omega)).trans z.1, fun i hi => (hf _ _ (by omega) (by omega)).trans (z.2 i hi)⟩
theorem zKO_B {k : Nat} {c : Nat → Int} {n b : Nat} {s : TyS} {I L : ZI} (h : zKO k c n b s I L) (hp : typ s ≤ 4000) : zOB k (tOS c n b s) I L := by
  refine ⟨h.1, fun j hj => ⟨(h.2.2.2 j hj).1.1, (h.2.2.2 j hj).1.2.1⟩, fun j w hj hw => (h.2.2.2 j hj).2.1 w hw, fun j w hj hw => ?_⟩
  have z := (h.2.2.2 j hj).2.2 w hw
  have z2 := h.2.2.1.2
  exact ⟨z.1, z.2.1, by have z3 := z.2.2.1; show _ + ((tOl c n b (tyr s j) w : Nat) : Int) ≤ 4000; omega, z.2.2.2⟩
