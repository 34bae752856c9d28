/-! THE OBJECTS OF A TEXT ARE GOOD -/
theorem tOn_f {c : Nat → Int} {n b : Nat} {r : Nat → Int} {a w : Nat} (ha : r 0 = a) (ha9 : a ≤ 9) (hw : w < 5) (hz : a ≠ 9 → tVz c n b a (r 2).toNat (tFv a (r 5)) = -1) : jFar (tOn c n b r w) := by
  have ea : (r 0).toNat = a := by omega
  have em : tRwm r = tFv a (r 5) := by unfold tRwm; rw [ea]
  have h0 : jFar (tN0 a w) := by
    unfold tN0 jFar
    split <;> omega
  unfold tOn
  rw [ea, em]
  rcases zlow_sp (tPn a w) (tFv a (r 5)) with ⟨z, hl⟩ | ⟨i, h1, z, h2, _⟩
  · rw [if_pos z]
    exact h0
  · have hm := tFv_le (a := a) (x := r 5)
    by_cases e9 : a = 9
    · subst e9
      have z9 : tFn 9 = 0 := rfl
      omega
    · have hf5 := (tFn_b a (by omega)).1
      rw [if_neg (by omega), z]
      have hv := tVz_p (hz e9) i h1
      have h3 := tLo_b a (by omega) i (by omega)
      have h4 := tFc_86 a (by omega) i (by omega)
      have h5 := h2.1
      have h6 := h2.2.1
      show jFar (tNv c n (tGp c n b a (r 2).toNat i) (tLen (tFc a i)))
      unfold tVf at hv
      by_cases g : tGk c (tVp c n b a (r 2).toNat i) b
      · rw [zite_t g, if_neg h5] at hv
        have w := tNf_r hv
        unfold jFar
        rcases h3 with q | q | q | q | q
        · omega
        · exact absurd q h5
        · omega
        · omega
        · have q2 : tLo (tFc a i) ≤ 9999 ∧ tHi (tFc a i) ≤ 9999 := by omega
          omega
      · rw [zite_f g] at hv
        omega
theorem tOc_r {c : Nat → Int} {n b : Nat} {r : Nat → Int} {a w t : Nat} (hc : tOk c n) (ha : r 0 = a) (ha9 : a ≤ 9) (hz : a ≠ 9 → tVz c n b a (r 2).toNat (tFv a (r 5)) = -1) (h9 : a = 9 → 0 ≤ r 2 ∧ r 3 ≤ n) (ht : t < tOl c n b r w) : 0 ≤ tOc c n b r w t ∧ tOc c n b r w t ≤ 126 := by
  have ea : (r 0).toNat = a := by omega
  have em : tRwm r = tFv a (r 5) := by unfold tRwm; rw [ea]
  unfold tOl at ht
  unfold tOc
  by_cases e9 : a = 9
  · rw [if_pos (by omega)] at ht ⊢
    by_cases e : w = 0
    · rw [if_pos e] at ht
      have z := h9 e9
      have z2 := hc.2.1 ((r 2).toNat + t) (by omega)
      omega
    · rw [if_neg e] at ht
      omega
  · rw [if_neg (by omega)] at ht ⊢
    rw [ea, em] at ht
    rcases zlow_sp (tPt a w) (tFv a (r 5)) with ⟨z, hl⟩ | ⟨i, h1, z, h2, _⟩
    · rw [if_pos z] at ht
      omega
    · rw [if_neg (by omega)] at ht
      have e : tOt c n b r w = tGp c n b a (r 2).toNat i := by
        unfold tOt
        rw [ea, em, z]
        rfl
      rw [e] at ht ⊢
      have hv := tVz_p (hz e9) i h1
      unfold tVf at hv
      by_cases g : tGk c (tVp c n b a (r 2).toNat i) b
      · rw [zite_t g, if_pos h2.1] at hv
        have y := (tXf_g hc hv).2.2.2.2 t ht
        omega
      · rw [zite_f g] at hv
        omega
theorem tOS_G {c : Nat → Int} {n b : Nat} {s : TyS} (hc : tOk c n) (h : tyg c n b s) : oGd (tOS c n b s) := by
  have hr := h.2.2
  have hn := hc.1
  refine ⟨h.1.1, fun j hj => ?_, fun j w hj hw => ?_, fun j w hj hw => ?_, fun j w i hj hw hi => ?_⟩
  · have r := hr j hj
    refine ⟨r.1, r.2.1, r.2.2.1, fun h0 => ?_⟩
    have z := r.2.2.2.1 h0
    refine ⟨z.1, z.2.1, ?_⟩
    have z3 := z.2.2
    show oCan (tyr s j 0) (tyr s (tyr s j 1).toNat 0)
    unfold tCn at z3
    unfold oCan
    omega
  · have r := hr j hj
    exact tOn_f (a := (tyr s j 0).toNat) (by have := r.1; omega) (by have := r.1; omega) hw (fun q => r.2.2.2.2.2.2.2.1 (by omega))
  · have r := hr j hj
    show tOl c n b (tyr s j) w ≤ 4000 ∧ (tyr s j 0 ≠ 9 → tOl c n b (tyr s j) w ≤ 40)
    refine ⟨?_, fun q => tOl_b q⟩
    by_cases e : tyr s j 0 = 9
    · have z := r.2.2.2.2.2.2.2.2 e
      unfold tOl
      rw [if_pos e]
      by_cases e0 : w = 0
      · rw [if_pos e0]; omega
      · rw [if_neg e0]; omega
    · have z := tOl_b (c := c) (n := n) (b := b) (w := w) e
      omega
  · have r := hr j hj
    exact tOc_r (a := (tyr s j 0).toNat) hc (by have := r.1; omega) (by have := r.1; omega) (fun q => r.2.2.2.2.2.2.2.1 (by omega)) (fun q => ⟨r.2.2.2.2.1.1, (r.2.2.2.2.2.2.2.2 (by omega)).2.1⟩) hi
