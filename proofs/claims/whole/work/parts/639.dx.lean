/-! CUTS, the reference: one shape more in the checks -/
def zFrs (k n : Nat) (I L : ZI) : Prop := ∀ i : Nat, n ≤ i → i < 60 → I (k + 4) i = 0 ∧ I (k + 5) i = 0 ∧ L (k + 8) i = 0
theorem zFrs_fr {k n : Nat} {I I' L L' : ZI} (h : zFrs k n I L) (hf : ∀ c j : Nat, c = k + 4 ∨ c = k + 5 → I' c j = I c j) (hl : ∀ c j : Nat, c = k + 8 → L' c j = L c j) : zFrs k n I' L' := fun i h1 h2 => by
  obtain ⟨a, b, c⟩ := h i h1 h2
  exact ⟨(hf _ _ (by omega)).trans a, (hf _ _ (by omega)).trans b, (hl _ _ rfl).trans c⟩
theorem zCk_a {k n : Nat} {w : List CuR} {c net l e g : Int} {I I' L L' : ZI} (h : zCk k w I L) (hn : n = w.length) (hn2 : n ≤ 59) (hc : c ≠ 0 → g = e) (h2 : I' k 2 = n + 1)
    (hi : (I' (k + 1) n = net ∧ I' (k + 2) n = l ∧ I' (k + 3) n = cuKd c ∧ I' (k + 4) n = c ∧ I' (k + 5) n = cuCn c) ∧ L' (k + 6) (8 * n) = cuQ e 1 ∧ L' (k + 7) (8 * n) = cuQ e 0 ∧ (c = 0 → L' (k + 6) (8 * n + 1) = cuQ g 1 ∧ L' (k + 7) (8 * n + 1) = cuQ g 0) ∧ L' (k + 8) n = cuRa c)
    (hf : ∀ x j : Nat, (k + 1 ≤ x ∧ x ≤ k + 5) ∧ j ≠ n → I' x j = I x j) (hl : ∀ x j : Nat, ((x = k + 6 ∨ x = k + 7) ∧ j < 8 * n) ∨ (x = k + 8 ∧ j ≠ n) → L' x j = L x j) : zCk k (w ++ [cRw c net l e g]) I' L' := by
  obtain ⟨c0, c1, c2, c3, c4⟩ := cRw_c (a := c) (b := net) (d := l) (e := e) (g := g)
  refine ⟨by rw [cLn, h2, hn]; rfl, by rw [cLn]; omega, fun i hi2 => ?_⟩
  rw [cLn] at hi2
  by_cases q : i = n
  · subst q
    have g0 : ∀ x, cg (w ++ [cRw c net l e g]) i x = cRw c net l e g x := fun x => by rw [hn]; exact cg_e
    have e0 : ∀ ax, cuE (w ++ [cRw c net l e g]) i ax 0 = cuQ e ax := fun ax => by rw [hn, cuE_n, if_neg (by decide), c3]
    have e1 : ∀ ax, cuE (w ++ [cRw c net l e g]) i ax 1 = cuQ g ax := fun ax => by rw [hn, cuE_n, if_pos rfl, c4]
    unfold zCi
    rw [g0, g0, g0, c0, c1, c2, e0, e0, e1, e1]
    exact hi
  · have hi3 : i < w.length := by omega
    obtain ⟨⟨a1, a2, a3, a4, a5⟩, a6, a7, a8, a9⟩ := h.2.2 i hi3
    unfold zCi
    rw [cg_l hi3, cg_l hi3, cg_l hi3, cuE_a hi3, cuE_a hi3, cuE_a hi3, cuE_a hi3]
    exact ⟨⟨(hf _ _ (by omega)).trans a1, (hf _ _ (by omega)).trans a2, (hf _ _ (by omega)).trans a3, (hf _ _ (by omega)).trans a4, (hf _ _ (by omega)).trans a5⟩, (hl _ _ (by omega)).trans a6, (hl _ _ (by omega)).trans a7, fun z => ⟨(hl _ _ (by omega)).trans (a8 z).1, (hl _ _ (by omega)).trans (a8 z).2⟩, (hl _ _ (by omega)).trans a9⟩
theorem cuQ_p {x y : Int} (h : 0 ≤ x ∧ x ≤ 15) : cuQ (16 * y + x) 1 = 1000 * x ∧ cuQ (16 * y + x) 0 = 1000 * y := by
  unfold cuQ
  rw [if_pos rfl, if_neg (show ¬ (0 : Nat) = 1 by decide)]
  omega
