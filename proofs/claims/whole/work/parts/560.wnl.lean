/-! WHAT IS WRITTEN IS NO LONGER THAN WHAT WAS READ: numbers, texts -/
theorem tTn_dvd : ∀ a, a < 7 → ∀ b, b < 7 → a ≤ b → tTn b % tTn a = 0 := by decide +kernel
theorem tTn_s {k : Nat} : tTn (k + 1) = 10 * tTn k := rfl
theorem tTn_p : ∀ k : Nat, 0 < tTn k
  | 0 => by decide
  | k + 1 => by
    have := tTn_p k
    rw [tTn_s]; omega
theorem wFd_m : ∀ {k m : Nat} {r : Int}, k ≤ 6 → m ≤ k → 0 ≤ r → r < tTn k → tTn (k - m) ∣ r → (wFd k r).length ≤ m
  | 0, m, r, _, _, _, _, _ => Nat.zero_le _
  | k + 1, 0, r, _, _, h0, h1, h2 => by
    have e : r = 0 := by
      obtain ⟨q, hq⟩ := h2
      rw [Nat.sub_zero] at hq
      have hp := tTn_p (k + 1)
      have hq0 : q < 1 := by
        apply Int.lt_of_mul_lt_mul_left (a := tTn (k + 1)) _ (by omega)
        omega
      have hq1 : -1 < q := by
        apply Int.lt_of_mul_lt_mul_left (a := tTn (k + 1)) _ (by omega)
        omega
      have : q = 0 := by omega
      rw [hq, this, Int.mul_zero]
    have e2 : wFd (k + 1) r = [] := if_neg (by omega)
    rw [e2]
    exact Nat.le_refl 0
  | k + 1, m + 1, r, hk, hm, h0, h1, h2 => by
    by_cases e : 0 < r
    · have e2 : wFd (k + 1) r = (r / tTn k + 48) :: wFd k (r % tTn k) := if_pos e
      rw [e2]
      have hp := tTn_p k
      have w := Int.emod_nonneg r (show tTn k ≠ 0 by omega)
      have w2 := Int.emod_lt_of_pos r hp
      have w3 : tTn (k - m) ∣ r % tTn k := by
        have w4 : tTn (k - m) ∣ tTn k := Int.dvd_of_emod_eq_zero (tTn_dvd (k - m) (by omega) k (by omega) (by omega))
        rw [show k + 1 - (m + 1) = k - m by omega] at h2
        have w5 : r % tTn k = r - tTn k * (r / tTn k) := Int.emod_def r (tTn k)
        rw [w5]
        exact Int.dvd_sub h2 (Int.dvd_mul_of_dvd_left w4)
      have w6 := wFd_m (k := k) (m := m) (by omega) (by omega) w w2 w3
      show (wFd k (r % tTn k)).length + 1 ≤ m + 1
      omega
    · have e2 : wFd (k + 1) r = [] := if_neg e
      rw [e2]
      exact Nat.zero_le _
theorem wWh_m {v : Int} {k : Nat} (h : 0 ≤ v) (hk : 1 ≤ k) (h3 : k ≤ 3 → v < 1000) (h2 : k ≤ 2 → v < 100) (h1 : k ≤ 1 → v < 10) : (wWh v).length ≤ k := by
  by_cases e : 1000 ≤ v
  · rw [wWh_4 e]
    show 4 ≤ k
    omega
  · by_cases e2 : 100 ≤ v
    · rw [wWh_3 e2 (by omega)]
      show 3 ≤ k
      omega
    · by_cases e3 : 10 ≤ v
      · rw [wWh_2 e3 (by omega)]
        show 2 ≤ k
        omega
      · rw [wWh_1 (by omega)]
        exact hk
theorem wNb_r {c : Nat → Int} {n p len : Nat} {lo hi : Int} (hc : tOk c n) (h : tNf c n p len lo hi = -1) : (wNb (tNv c n p len) len).length + p ≤ tNe c n p len := by
  have h1 : ¬ tBd c (tNs c p) (tNq c n p) := fun w => by
    unfold tNf at h
    rw [zite_t w] at h
    omega
  have h2 : ¬ (tFr c (tNq c n p) len ∧ tBd c (tNq c n p + 1) (tNr c n p)) := fun w => by
    unfold tNf at h
    rw [zite_f h1, zite_t w] at h
    omega
  have w := tDe_sp (p := tNs c p) (m := 4) hc
  have w1 : tNs c p ≤ tNq c n p := w.1
  have w2 : tNq c n p ≤ tNs c p + 4 := w.2.1
  have h3 : tNq c n p ≠ tNs c p := fun z => h1 (Or.inl z)
  have hv := tVl_b (c := c) (p := tNs c p) (n := tNq c n p - tNs c p) (fun i a b => w.2.2.1 i a (show i < tNq c n p by omega)) (Nat.le_refl _)
  have v := tDe_sp (p := tNq c n p + 1) (m := 6) hc
  have v1 : tNq c n p + 1 ≤ tNr c n p := v.1
  have v2 : tNr c n p ≤ tNq c n p + 1 + 6 := v.2.1
  have hf := tVl_b (c := c) (p := tNq c n p + 1) (n := tNr c n p - (tNq c n p + 1)) (fun i a b => v.2.2.1 i a (show i < tNr c n p by omega)) (Nat.le_refl _)
  have hfm := tTn_m (k := tNr c n p - (tNq c n p + 1)) (v := tVl c (tNq c n p + 1) (tNr c n p - (tNq c n p + 1))) (by omega) hf.1 hf.2
  generalize hV : tVl c (tNs c p) (tNq c n p - tNs c p) = V at hv
  generalize hW : tVl c (tNq c n p + 1) (tNr c n p - (tNq c n p + 1)) = W at hf hfm
  have hs : tNs c p = p ∨ (tNs c p = p + 1 ∧ c p = 45) := by
    unfold tNs
    by_cases e : c p = 45
    · rw [if_pos e]; exact Or.inr ⟨rfl, e⟩
    · rw [if_neg e]; exact Or.inl rfl
  -- the value without its sign
  have hu : 0 ≤ tNu c n p len ∧ (if len = 1 then wWh (tNu c n p len / 1000000) ++ wFr (tNu c n p len % 1000000) else wWh (tNu c n p len)).length + tNs c p ≤ tNe c n p len := by
    have hl4 : (wWh V).length ≤ tNq c n p - tNs c p := wWh_m hv.1 (by omega) (fun q => by omega) (fun q => by omega) (fun q => by omega)
    by_cases e : len = 1
    · rw [if_pos e]
      by_cases z : tFr c (tNq c n p) len
      · have h5 : tNr c n p ≠ tNq c n p + 1 := fun y => h2 ⟨z, Or.inl y⟩
        rw [tNu_y e z, hV, hW, tNe_y z]
        generalize hF : tTn (6 - (tNr c n p - (tNq c n p + 1))) * W = F at hfm
        have e1 : (1000000 * V + F) / 1000000 = V := by omega
        have e2 : (1000000 * V + F) % 1000000 = F := by omega
        rw [e1, e2, List.length_append]
        have hd : (wFr F).length ≤ tNr c n p - tNq c n p := by
          unfold wFr
          split
          · have y := wFd_m (k := 6) (m := tNr c n p - (tNq c n p + 1)) (r := F) (by omega) (by omega) hfm.1 (by show F < 1000000; omega) ⟨W, hF.symm⟩
            show (wFd 6 F).length + 1 ≤ _
            omega
          · exact Nat.zero_le _
        omega
      · rw [tNu_n e z, hV, tNe_n z]
        have e1 : (1000000 * V) / 1000000 = V := by omega
        have e2 : (1000000 * V) % 1000000 = 0 := by omega
        have e3 : wFr 0 = [] := rfl
        rw [e1, e2, e3, List.append_nil]
        omega
    · rw [if_neg e, tNu_0 e, hV, tNe_n (fun y => e y.1)]
      omega
  have key : wAb (tNv c n p len) = tNu c n p len ∧ (tNv c n p len < 0 → c p = 45) := by
    by_cases e : c p = 45
    · rw [tNv_y e]
      refine ⟨?_, fun _ => e⟩
      unfold wAb
      split <;> omega
    · rw [tNv_n e]
      refine ⟨?_, fun q => by omega⟩
      unfold wAb
      rw [if_neg (by omega)]
  unfold wNb
  rw [key.1, List.length_append]
  by_cases e : tNv c n p len < 0
  · rw [if_pos e]
    have z := key.2 e
    have z2 := tNs_y z
    show 1 + _ + p ≤ _
    omega
  · rw [if_neg e]
    show 0 + _ + p ≤ _
    omega
/-- a text has as many characters as it is written with -/
theorem wBd_c {g g' : Nat → Int} : ∀ {m : Nat}, (∀ i, i < m → g i = g' i) → wBd g m = wBd g' m
  | 0, _ => rfl
  | m + 1, h => by
    have ih := wBd_c (g := g) (g' := g') (m := m) (fun i hi => h i (by omega))
    show wBd g m ++ (if g m = 34 ∨ g m = 92 then [92, g m] else [g m]) = wBd g' m ++ (if g' m = 34 ∨ g' m = 92 then [92, g' m] else [g' m])
    rw [ih, h m (by omega)]
theorem wBd_r {c : Nat → Int} {p : Nat} : ∀ {m : Nat}, (∀ i, i < m → ¬ tXs c p i) → (wBd (tLt c p) m).length + (p + 1) = tPo c p m
  | 0, _ => Nat.zero_add _
  | m + 1, h => by
    have ih := wBd_r (c := c) (p := p) (m := m) (fun i hi => h i (by omega))
    have z := h m (by omega)
    have z2 := tLt_s (c := c) (p := p) (m := m) rfl
    have z3 := tPo_s (c := c) (p := p) (m := m) rfl
    have e : wBd (tLt c p) (m + 1) = wBd (tLt c p) m ++ (if tLt c p m = 34 ∨ tLt c p m = 92 then [92, tLt c p m] else [tLt c p m]) := rfl
    rw [e, List.length_append]
    by_cases q : c (tPo c p m) = 92
    · have y : tLt c p m = 34 ∨ tLt c p m = 92 := by
        rw [z2.1 q]
        by_cases q1 : c (tPo c p m + 1) = 34
        · exact Or.inl q1
        · by_cases q2 : c (tPo c p m + 1) = 92
          · exact Or.inr q2
          · exact absurd (Or.inr (Or.inr (Or.inr ⟨q, q1, q2⟩))) z
      rw [if_pos y, z3.1 q]
      show (wBd (tLt c p) m).length + 2 + (p + 1) = _
      omega
    · have y : ¬ (tLt c p m = 34 ∨ tLt c p m = 92) := by
        rw [z2.2 q]
        rintro (y | y)
        · exact z (Or.inl y)
        · exact q y
      rw [if_neg y, z3.2 q]
      show (wBd (tLt c p) m).length + 1 + (p + 1) = _
      omega
theorem wQt_r {c : Nat → Int} {n p : Nat} (h : tXf c p = -1) : (wQt (tLt c p) (tXl c p)).length + p = tXe c p := by
  have hn : ∀ i, i < tXl c p → ¬ tXs c p i := fun i hi => by
    unfold tXl at hi
    rcases zlow_sp (tXs c p) 41 with ⟨w1, w2⟩ | ⟨r, w1, w2, w3, w4⟩
    · rw [w1] at hi
      exact absurd hi (Nat.not_lt_zero i)
    · rw [w2] at hi
      exact w4 i hi
  have w := wBd_r hn
  unfold wQt tXe
  rw [List.length_append, List.length_append]
  show 1 + _ + 1 + p = _
  omega
