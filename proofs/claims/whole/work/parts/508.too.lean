/-! THE OBJECTS that a reading has made -/
def tPn (a w i : Nat) : Prop := tFc a i ≠ 84 ∧ a ≠ 0 ∧ oCi a 0 i = w
def tPt (a w i : Nat) : Prop := tFc a i = 84 ∧ oCi a 1 i = w
def tPnb (a m w : Nat) : Bool := (List.range m).any (fun i => decide (tFc a i ≠ 84) && decide (oCi a 0 i = w))
theorem tPn_y : ∀ a, a < 9 → ∀ m, m < 6 → ∀ w, w < 5 → (tFn a < m ∨ a = 0 ∨ oCi a 0 m ≤ w ∨ tPnb a m w = true) := by decide +kernel
theorem tPn_x {a : Nat} (ha : a < 9) {m : Nat} (hm : m < 6) {w : Nat} (hw : w < 5) (h : ∀ i, i < m → ¬ (tFc a i ≠ 84 ∧ oCi a 0 i = w)) : tFn a < m ∨ a = 0 ∨ oCi a 0 m ≤ w := by
  rcases tPn_y a ha m hm w hw with z | z | z | z
  · exact Or.inl z
  · exact Or.inr (Or.inl z)
  · exact Or.inr (Or.inr z)
  · exfalso
    unfold tPnb at z
    rw [List.any_eq_true] at z
    obtain ⟨i, h1, h2⟩ := z
    rw [Bool.and_eq_true] at h2
    exact h i (List.mem_range.mp h1) ⟨of_decide_eq_true h2.1, of_decide_eq_true h2.2⟩
theorem tPt_x : ∀ a, a < 9 → ∀ m, m < 6 → ∀ w, w < 2 → (tFn a < m ∨ oCi a 1 m ≤ w ∨ ∃ i, i < m ∧ tFc a i = 84 ∧ oCi a 1 i = w) := by decide +kernel
theorem oCi_0 : ∀ b, b < 2 → ∀ i, i < 6 → oCi 0 b i = 0 := by decide +kernel
/-- the m values of a row r -/
def tRwm (r : Nat → Int) : Nat := tFv (r 0).toNat (r 5)
noncomputable def tOn (c : Nat → Int) (n b : Nat) (r : Nat → Int) (w : Nat) : Int := if zlow (tPn (r 0).toNat w) (tRwm r) = -1 then tN0 (r 0).toNat w else tNv c n (tGp c n b (r 0).toNat (r 2).toNat (zlow (tPn (r 0).toNat w) (tRwm r)).toNat) (tLen (tFc (r 0).toNat (zlow (tPn (r 0).toNat w) (tRwm r)).toNat))
noncomputable def tOt (c : Nat → Int) (n b : Nat) (r : Nat → Int) (w : Nat) : Nat := tGp c n b (r 0).toNat (r 2).toNat (zlow (tPt (r 0).toNat w) (tRwm r)).toNat
noncomputable def tOl (c : Nat → Int) (n b : Nat) (r : Nat → Int) (w : Nat) : Nat := if r 0 = 9 then (if w = 0 then (r 3 - r 2).toNat else 0) else if zlow (tPt (r 0).toNat w) (tRwm r) = -1 then 0 else tXl c (tOt c n b r w)
noncomputable def tOc (c : Nat → Int) (n b : Nat) (r : Nat → Int) (w t : Nat) : Int := if r 0 = 9 then c ((r 2).toNat + t) else tLt c (tOt c n b r w) t
noncomputable def tOS (c : Nat → Int) (n b : Nat) (s : TyS) : OoS := (tyn s, fun j => tyr s j 0, fun j => tyr s j 1, fun j w => tOn c n b (tyr s j) w, fun j w => tOl c n b (tyr s j) w, fun j w t => tOc c n b (tyr s j) w t)
/-- the class's row j: its numbers and texts -/
def tKr (c : Nat → Int) (n b k : Nat) (r : Nat → Int) (j : Nat) (cc : Int) (I L : ZI) : Prop := (∀ w, w < 5 → L (k + 4) (5 * j + w) = tOn c n b r w) ∧ ∀ w, w < 2 → I (k + 6) (2 * j + w) = tOl c n b r w ∧ 0 ≤ I (k + 5) (2 * j + w) ∧ I (k + 5) (2 * j + w) + tOl c n b r w ≤ cc ∧ ∀ t, t < tOl c n b r w → I (k + 7) ((I (k + 5) (2 * j + w)).toNat + t) = tOc c n b r w t
theorem tFv_le {a : Nat} {x : Int} : tFv a x ≤ tFn a := by unfold tFv; split <;> omega
theorem tKr_v {c : Nat → Int} {n b k j a q c0 c1 : Nat} {x : Int} {r : Nat → Int} {I L : ZI} (ha8 : a ≤ 8) (hr0 : r 0 = a) (hr2 : r 2 = q) (hr5 : r 5 = x) (hvs : tKs c n b a q (tFv a x) k j c0 c1 I L) (h01 : c0 ≤ c1)
    (hL : ∀ w, oCi a 0 (tFv a x) ≤ w → w < 5 → L (k + 4) (5 * j + w) = tN0 a w) (h5 : ∀ w, oCi a 1 (tFv a x) ≤ w → w < 2 → I (k + 5) (2 * j + w) = c0 ∧ I (k + 6) (2 * j + w) = 0) : tKr c n b k r j c1 I L := by
  have hm := tFv_le (a := a) (x := x)
  have hm5 := (tFn_b a (by omega)).1
  have e0 : (r 0).toNat = a := by omega
  have e2 : (r 2).toNat = q := by omega
  have em : tRwm r = tFv a x := by unfold tRwm; rw [e0, hr5]
  refine ⟨fun w hw => ?_, fun w hw => ?_⟩
  · unfold tOn
    rw [e0, e2, em]
    rcases zlow_sp (tPn a w) (tFv a x) with ⟨w1, w2⟩ | ⟨i, w1, w2, w3, w4⟩
    · rw [if_pos w1]
      refine hL w ?_ hw
      by_cases ea : a = 0
      · rw [ea]
        have y := oCi_0 0 (by omega) (tFv 0 x) (by have := tFn_b 0 (by omega); have := tFv_le (a := 0) (x := x); omega)
        omega
      · have z := tPn_x (a := a) (by omega) (m := tFv a x) (by omega) hw (fun i hi y => w2 i hi ⟨y.1, ea, y.2⟩)
        omega
    · rw [w2, if_neg (by omega), Int.toNat_natCast]
      have z := (hvs i w1).2 w3.1 w3.2.1
      have y : tNc a i = oCi a 0 i := if_neg w3.2.1
      rw [y, w3.2.2] at z
      exact z
  · have e9 : ¬ r 0 = 9 := by omega
    unfold tOl tOc tOt
    rw [e0, e2, em, if_neg e9]
    rcases zlow_sp (tPt a w) (tFv a x) with ⟨w1, w2⟩ | ⟨i, w1, w2, w3, w4⟩
    · rw [if_pos w1]
      have hq : oCi a 1 (tFv a x) ≤ w := by
        rcases tPt_x a (by omega) (tFv a x) (by omega) w hw with z | z | ⟨i, z1, z2, z3⟩
        · omega
        · exact z
        · exact absurd ⟨z2, z3⟩ (w2 i z1)
      have z := h5 w hq hw
      refine ⟨z.2, by omega, by omega, fun t ht => absurd ht (Nat.not_lt_zero t)⟩
    · rw [w2, if_neg (by omega), Int.toNat_natCast]
      have z := (hvs i w1).1 w3.1
      rw [w3.2] at z
      exact ⟨z.1, by omega, z.2.2.1, fun t ht => (z.2.2.2 t ht).trans (by rw [if_neg e9])⟩
theorem tN0_9 {w : Nat} : tN0 9 w = 0 := if_neg (by omega)
theorem tKr_u {c : Nat → Int} {n b k j q e c0 : Nat} {r : Nat → Int} {I L : ZI} (hr0 : r 0 = 9) (hr2 : r 2 = q) (hr3 : r 3 = e) (hqe : q ≤ e)
    (hL : ∀ w, w < 5 → L (k + 4) (5 * j + w) = tN0 9 w) (h5 : I (k + 5) (2 * j) = c0) (h6 : I (k + 6) (2 * j) = e - q) (h7 : ∀ t, t < e - q → I (k + 7) (c0 + t) = c (q + t)) (h51 : I (k + 5) (2 * j + 1) = c0) (h61 : I (k + 6) (2 * j + 1) = 0) : tKr c n b k r j (c0 + (e - q)) I L := by
  have e0 : (r 0).toNat = 9 := by omega
  have em : tRwm r = 0 := by
    unfold tRwm
    rw [e0]
    have w := tFv_le (a := 9) (x := r 5)
    have w2 : tFn 9 = 0 := rfl
    omega
  refine ⟨fun w hw => ?_, fun w hw => ?_⟩
  · unfold tOn
    rw [em, e0]
    exact hL w hw
  · unfold tOl tOc
    rw [if_pos hr0]
    have z : w = 0 ∨ w = 1 := by omega
    rcases z with z | z
    · subst z
      rw [if_pos rfl]
      refine ⟨h6.trans (by omega), by show 0 ≤ I (k + 5) (2 * j); omega, by show I (k + 5) (2 * j) + _ ≤ _; omega, fun t ht => ?_⟩
      rw [if_pos hr0]
      show I (k + 7) ((I (k + 5) (2 * j)).toNat + t) = _
      rw [h5, Int.toNat_natCast, hr2, Int.toNat_natCast]
      exact h7 t (by omega)
    · subst z
      rw [if_neg (by decide)]
      refine ⟨h61, by omega, by omega, fun t ht => absurd ht (Nat.not_lt_zero t)⟩
/-- the class's objects in the midst of a reading -/
def zKO (k : Nat) (c : Nat → Int) (n b : Nat) (s : TyS) (I L : ZI) : Prop := I k 0 = tyn s ∧ I k 2 = tyk s ∧ (0 ≤ I k 10 ∧ I k 10 ≤ typ s) ∧ ∀ j, j < tyn s → (I (k + 1) j = tyr s j 0 ∧ I (k + 2) j = tyr s j 1 ∧ I (k + 3) j = tyr s j 4) ∧ tKr c n b k (tyr s j) j (I k 10) I L
theorem tKr_fr {c : Nat → Int} {n b k j : Nat} {r : Nat → Int} {cc c2 : Int} {I L I' L' : ZI} (h : tKr c n b k r j cc I L) (hcc : cc ≤ c2) (hL : ∀ w, w < 5 → L' (k + 4) (5 * j + w) = L (k + 4) (5 * j + w)) (h5 : ∀ w, w < 2 → I' (k + 5) (2 * j + w) = I (k + 5) (2 * j + w)) (h6 : ∀ w, w < 2 → I' (k + 6) (2 * j + w) = I (k + 6) (2 * j + w)) (h7 : ∀ t : Nat, (t : Int) < cc → I' (k + 7) t = I (k + 7) t) : tKr c n b k r j c2 I' L' := by
  refine ⟨fun w hw => (hL w hw).trans (h.1 w hw), fun w hw => ?_⟩
  have z := h.2 w hw
  rw [h5 w hw]
  exact ⟨(h6 w hw).trans z.1, z.2.1, by omega, fun t ht => (h7 _ (by omega)).trans (z.2.2.2 t ht)⟩
theorem zKO_fr {k : Nat} {c : Nat → Int} {n b : Nat} {s : TyS} {I L I' L' : ZI} (h : zKO k c n b s I L) (hf : ∀ x j : Nat, (x = k ∧ (j = 0 ∨ j = 2 ∨ j = 10)) ∨ (k + 1 ≤ x ∧ x ≤ k + 7) → I' x j = I x j) (hl : ∀ x j : Nat, x = k + 4 → L' x j = L x j) : zKO k c n b s I' L' := by
  obtain ⟨h1, h2, h3, h4⟩ := h
  have e := hf k 10 (by omega)
  unfold zKO
  rw [e]
  refine ⟨(hf k 0 (by omega)).trans h1, (hf k 2 (by omega)).trans h2, h3, fun j hj => ?_⟩
  have z := h4 j hj
  exact ⟨⟨(hf _ _ (by omega)).trans z.1.1, (hf _ _ (by omega)).trans z.1.2.1, (hf _ _ (by omega)).trans z.1.2.2⟩, tKr_fr z.2 (Int.le_refl _) (fun w _ => hl _ _ rfl) (fun w _ => hf _ _ (by omega)) (fun w _ => hf _ _ (by omega)) (fun t _ => hf _ _ (by omega))⟩
/-- a row more -/
theorem zKO_up {k : Nat} {c : Nat → Int} {n b : Nat} {s s' : TyS} {w : Nat → Int} {I L I' L' : ZI} (h : zKO k c n b s I L) (hn : tyn s' = tyn s + 1) (hr : tyr s' = upF (tyr s) (tyn s) w)
    (h0 : I' k 0 = tyn s + 1) (h2 : I' k 2 = tyk s') (hcc : I k 10 ≤ I' k 10) (hcp : I' k 10 ≤ typ s') (h1 : I' (k + 1) (tyn s) = w 0 ∧ I' (k + 2) (tyn s) = w 1 ∧ I' (k + 3) (tyn s) = w 4) (hw : tKr c n b k w (tyn s) (I' k 10) I' L')
    (hf : ∀ x j : Nat, (x = k + 1 ∨ x = k + 2 ∨ x = k + 3) → j ≠ tyn s → I' x j = I x j) (hf5 : ∀ x j : Nat, (x = k + 5 ∨ x = k + 6) → j < 2 * tyn s → I' x j = I x j) (hf7 : ∀ j : Nat, (j : Int) < I k 10 → I' (k + 7) j = I (k + 7) j) (hfL : ∀ j : Nat, j < 5 * tyn s → L' (k + 4) j = L (k + 4) j) : zKO k c n b s' I' L' := by
  obtain ⟨g0, g2, g3, g4⟩ := h
  unfold zKO
  rw [hn, hr]
  refine ⟨h0.trans (by omega), h2, ⟨by omega, hcp⟩, fun j hj => ?_⟩
  by_cases e : j = tyn s
  · subst e
    rw [upF_at]
    exact ⟨h1, hw⟩
  · rw [upF_ne e]
    have z := g4 j (by omega)
    exact ⟨⟨(hf _ _ (by omega) e).trans z.1.1, (hf _ _ (by omega) e).trans z.1.2.1, (hf _ _ (by omega) e).trans z.1.2.2⟩, tKr_fr z.2 hcc (fun w _ => hfL _ (by omega)) (fun w _ => hf5 _ _ (by omega) (by omega)) (fun w _ => hf5 _ _ (by omega) (by omega)) hf7⟩
