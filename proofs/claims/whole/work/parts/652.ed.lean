/-! CUTS, the reference: letters said -/
def zSy (m : Int) (t : List Int) (I : ZI) : Prop := I 165 44 = m ∧ I 165 45 = t.length ∧ I 165 46 = if 0 ≤ m ∧ m < t.length then wAt t m.toNat else -1
theorem zSy_fr {m : Int} {t : List Int} {I I' : ZI} (h : zSy m t I) (hf : ∀ c j : Nat, c = 165 ∧ (j = 44 ∨ j = 45 ∨ j = 46) → I' c j = I c j) : zSy m t I' := ⟨(hf _ _ (by omega)).trans h.1, (hf _ _ (by omega)).trans h.2.1, (hf _ _ (by omega)).trans h.2.2⟩
theorem zSy_e {m : Int} {t t' : List Int} {I : ZI} (h : zSy m t I) (e : t = t') : zSy m t' I := e ▸ h
theorem zSy_y {m u : Int} {t : List Int} {I I' : ZI} (h : zSy m t I) (hm : (t.length : Int) = m) (h1 : I' 165 44 = m) (h2 : I' 165 45 = t.length + 1) (h3 : I' 165 46 = u) : zSy m (t ++ [u]) I' := by
  refine ⟨h1, by rw [wLn, h2]; rfl, ?_⟩
  rw [wLn, if_pos (by omega), show m.toNat = t.length by omega, wAt_e]
  exact h3
theorem zSy_n {m u : Int} {t : List Int} {I I' : ZI} (h : zSy m t I) (hm : (t.length : Int) ≠ m) (h1 : I' 165 44 = m) (h2 : I' 165 45 = t.length + 1) (h3 : I' 165 46 = I 165 46) : zSy m (t ++ [u]) I' := by
  refine ⟨h1, by rw [wLn, h2]; rfl, ?_⟩
  rw [wLn, h3, h.2.2]
  by_cases q : 0 ≤ m ∧ m < t.length
  · rw [if_pos q, if_pos (by omega), wAt_l (by omega)]
  · rw [if_neg q, if_neg (by omega)]
theorem dSt_0 {v : Int} : ∀ {i : Nat}, (∀ j, j < i → v < dU j ∧ j ≠ 4) → dSt v i = []
  | 0, _ => rfl
  | i + 1, h => by
    have z := h i (Nat.lt_succ_self i)
    rw [dSt_n (by omega)]
    exact dSt_0 (fun j hj => h j (by omega))
theorem dU_m {i j : Nat} (h : i ≤ j) (hj : j ≤ 4) : dU j ≤ dU i := by
  have key : ∀ d i, i + d ≤ 4 → dU (i + d) ≤ dU i := fun d => by
    induction d with
    | zero => intro i _; exact Int.le_refl _
    | succ d ih =>
      intro i hi
      have a := ih i (by omega)
      have b := (dU_s (i + d) (by omega)).2.2.2.2
      show dU (i + d + 1) ≤ _
      omega
  have z := key (j - i) i (by omega)
  rwa [show i + (j - i) = j by omega] at z
theorem dU_t : ∀ i : Nat, i < 4 → dU i = 10 * dU (i + 1) := by decide +kernel
theorem dSt_w {v : Int} {i : Nat} (hi : i ≤ 4) (h : i = 0 ∨ v < 10 * dU i) : dSt v i = [] := dSt_0 (fun j hj => by
  rcases h with h | h
  · omega
  · have a := dU_t (i - 1) (by omega)
    rw [show i - 1 + 1 = i by omega] at a
    have b := dU_m (i := j) (j := i - 1) (by omega) (by omega)
    omega)
