/-! CUTS: the drill text read back -/
def dAt (t : List Int) (p : Nat) (x : List Int) : Prop := ∀ j, j < x.length → p + j < t.length ∧ wAt t (p + j) = wAt x j
theorem wAt_r {a x : List Int} {j : Nat} : wAt (a ++ x) (a.length + j) = wAt x j := by
  unfold wAt
  rw [List.getD_eq_getElem?_getD, List.getD_eq_getElem?_getD, List.getElem?_append_right (Nat.le_add_right _ _), Nat.add_sub_cancel_left]
theorem wAt_l2 {a x : List Int} {j : Nat} (h : j < a.length) : wAt (a ++ x) j = wAt a j := by
  unfold wAt
  rw [List.getD_eq_getElem?_getD, List.getD_eq_getElem?_getD, List.getElem?_append_left h]
theorem dAt_m {a x b : List Int} {p : Nat} (hp : p = a.length) : dAt (a ++ x ++ b) p x := fun j hj => by
  subst hp
  rw [List.append_assoc, List.length_append, List.length_append, wAt_r, wAt_l2 hj]
  exact ⟨by omega, rfl⟩
theorem dAt_c {t t' x : List Int} {p : Nat} (h : dAt t p x) (e : t = t') : dAt t' p x := e ▸ h
/-- a number's digits -/
theorem dNu_at {v : Int} (h : 0 ≤ v ∧ v ≤ 99999) : ∃ L : Nat, 1 ≤ L ∧ L ≤ 5 ∧ (dNu v).length = L ∧ v < tTn L ∧ ∀ j, j < L → wAt (dNu v) j = v / tTn (L - 1 - j) % 10 + 48 := by
  have u0 : dU 0 = 10000 := rfl
  have u1 : dU 1 = 1000 := rfl
  have u2 : dU 2 = 100 := rfl
  have u3 : dU 3 = 10 := rfl
  have u4 : dU 4 = 1 := rfl
  have e0 : dNu v = dSt v 4 ++ [v / dU 4 % 10 + 48] := dSt_y (Or.inr rfl)
  have z0 : dSt v 0 = [] := rfl
  by_cases h1 : v < 10
  · have e : dNu v = [v / 1 % 10 + 48] := by
      rw [e0, dSt_n (i := 3) (by omega), dSt_n (i := 2) (by omega), dSt_n (i := 1) (by omega), dSt_n (i := 0) (by omega)]
      rfl
    refine ⟨1, by decide, by decide, by rw [e]; rfl, by show v < 10; omega, fun j hj => ?_⟩
    have : j = 0 := by omega
    subst this
    rw [e]
    rfl
  · by_cases h2 : v < 100
    · have e : dNu v = [v / 10 % 10 + 48, v / 1 % 10 + 48] := by
        rw [e0, dSt_y (i := 3) (by omega), dSt_n (i := 2) (by omega), dSt_n (i := 1) (by omega), dSt_n (i := 0) (by omega)]
        rfl
      refine ⟨2, by decide, by decide, by rw [e]; rfl, by show v < 100; omega, fun j hj => ?_⟩
      rw [e]
      have z : j = 0 ∨ j = 1 := by omega
      rcases z with rfl | rfl <;> rfl
    · by_cases h3 : v < 1000
      · have e : dNu v = [v / 100 % 10 + 48, v / 10 % 10 + 48, v / 1 % 10 + 48] := by
          rw [e0, dSt_y (i := 3) (by omega), dSt_y (i := 2) (by omega), dSt_n (i := 1) (by omega), dSt_n (i := 0) (by omega)]
          rfl
        refine ⟨3, by decide, by decide, by rw [e]; rfl, by show v < 1000; omega, fun j hj => ?_⟩
        rw [e]
        have z : j = 0 ∨ j = 1 ∨ j = 2 := by omega
        rcases z with rfl | rfl | rfl <;> rfl
      · by_cases h4 : v < 10000
        · have e : dNu v = [v / 1000 % 10 + 48, v / 100 % 10 + 48, v / 10 % 10 + 48, v / 1 % 10 + 48] := by
            rw [e0, dSt_y (i := 3) (by omega), dSt_y (i := 2) (by omega), dSt_y (i := 1) (by omega), dSt_n (i := 0) (by omega)]
            rfl
          refine ⟨4, by decide, by decide, by rw [e]; rfl, by show v < 10000; omega, fun j hj => ?_⟩
          rw [e]
          have z : j = 0 ∨ j = 1 ∨ j = 2 ∨ j = 3 := by omega
          rcases z with rfl | rfl | rfl | rfl <;> rfl
        · have e : dNu v = [v / 10000 % 10 + 48, v / 1000 % 10 + 48, v / 100 % 10 + 48, v / 10 % 10 + 48, v / 1 % 10 + 48] := by
            rw [e0, dSt_y (i := 3) (by omega), dSt_y (i := 2) (by omega), dSt_y (i := 1) (by omega), dSt_y (i := 0) (by omega)]
            rfl
          refine ⟨5, by decide, by decide, by rw [e]; rfl, by show v < 100000; omega, fun j hj => ?_⟩
          rw [e]
          have z : j = 0 ∨ j = 1 ∨ j = 2 ∨ j = 3 ∨ j = 4 := by omega
          rcases z with rfl | rfl | rfl | rfl | rfl <;> rfl
/-- the first j digits -/
def dPx (v : Int) (L j : Nat) : Int := v / tTn (L - j)
theorem dPx_s {v : Int} {L j : Nat} (h : 0 ≤ v) (hL : L ≤ 5) (hj : j < L) : dPx v L (j + 1) = 10 * dPx v L j + v / tTn (L - 1 - j) % 10 := by
  unfold dPx
  have t0 : tTn 0 = 1 := rfl
  have t1 : tTn 1 = 10 := rfl
  have t2 : tTn 2 = 100 := rfl
  have t3 : tTn 3 = 1000 := rfl
  have t4 : tTn 4 = 10000 := rfl
  have t5 : tTn 5 = 100000 := rfl
  obtain ⟨d, hd⟩ : ∃ d, d = L - 1 - j := ⟨_, rfl⟩
  have e1 : L - (j + 1) = d := by omega
  have e2 : L - j = d + 1 := by omega
  rw [e1, e2, ← hd]
  have z : d = 0 ∨ d = 1 ∨ d = 2 ∨ d = 3 ∨ d = 4 := by omega
  rcases z with rfl | rfl | rfl | rfl | rfl
  · rw [t0, t1]; omega
  · rw [t1, t2]; omega
  · rw [t2, t3]; omega
  · rw [t3, t4]; omega
  · rw [t4, t5]; omega
theorem dPx_b {v : Int} {L j : Nat} (h : 0 ≤ v ∧ v ≤ 99999) (hL : L ≤ 5) : 0 ≤ dPx v L j ∧ dPx v L j ≤ 99999 := by
  unfold dPx
  have p := tTn_p (L - j)
  exact ⟨Int.ediv_nonneg h.1 (by omega), Int.le_trans (Int.ediv_le_self _ h.1) h.2⟩
theorem dPx_0 {v : Int} {L : Nat} (h : 0 ≤ v) (hv : v < tTn L) : dPx v L 0 = 0 := by
  unfold dPx
  rw [Nat.sub_zero]
  exact Int.ediv_eq_zero_of_lt h hv
theorem dPx_L {v : Int} {L : Nat} : dPx v L L = v := by
  unfold dPx
  rw [Nat.sub_self]
  exact Int.ediv_one v
theorem wAt_w {a j : Nat} (h : j < (tsb a).length) : wAt (dWd a) j = tWd a j := by
  have key : ∀ m i, i < m → wAt (wRw (tWd a) m) i = tWd a i := fun m => by
    induction m with
    | zero => intro i hi; exact absurd hi (Nat.not_lt_zero i)
    | succ m ih =>
      intro i hi
      show wAt (wRw (tWd a) m ++ [tWd a m]) i = _
      have hl : (wRw (tWd a) m).length = m := wRw_l
      by_cases q : i = m
      · subst q
        have z : wAt (wRw (tWd a) i ++ [tWd a i]) (wRw (tWd a) i).length = tWd a i := wAt_e
        rw [hl] at z
        exact z
      · rw [wAt_l (by omega)]
        exact ih i (by omega)
  exact key _ j h
theorem dAt_1 {t : List Int} {p a : Nat} (h : dAt t p (dWd a)) (ha : 0 < (tsb a).length) : p < t.length ∧ wAt t p = tWd a 0 := by
  have hl : (dWd a).length = (tsb a).length := wRw_l
  have z := h 0 (by omega)
  rw [Nat.add_zero, wAt_w ha] at z
  exact z
theorem dTx_h {w : List CuR} {l : Int} : (dAt (dTx w l) 0 (dWd 21) ∧ dAt (dTx w l) 5 (dNu l) ∧ dAt (dTx w l) (5 + (dNu l).length) (dWd 22) ∧ dAt (dTx w l) (5 + (dNu l).length + 1) (dNu (l + 1)) ∧ dAt (dTx w l) (5 + (dNu l).length + 1 + (dNu (l + 1)).length) (dWd 23)) ∧
    ((zct (dIs w l) (cuHc w) = 0 ∧ (dHd w l).length = 5 + (dNu l).length + 1 + (dNu (l + 1)).length + 11) ∨ (zct (dIs w l) (cuHc w) ≠ 0 ∧ (dHd w l).length = 5 + (dNu l).length + 1 + (dNu (l + 1)).length + 11 + 3 ∧ dAt (dTx w l) (5 + (dNu l).length + 1 + (dNu (l + 1)).length + 11) (dWd 24))) := by
  obtain ⟨l1, l2, l3, l4, _, _, _, _⟩ := dWd_l
  obtain ⟨E, hE⟩ : ∃ E, E = (if zct (dIs w l) (cuHc w) = 0 then ([] : List Int) else dWd 24) := ⟨_, rfl⟩
  have e : dTx w l = dWd 21 ++ dNu l ++ dWd 22 ++ dNu (l + 1) ++ dWd 23 ++ E ++ cuC (dHl w l) (cuHc w) ++ dWd 28 := by
    rw [hE]
    rfl
  have eh : dHd w l = dWd 21 ++ dNu l ++ dWd 22 ++ dNu (l + 1) ++ dWd 23 ++ E := by
    rw [hE]
    rfl
  refine ⟨⟨?_, ?_, ?_, ?_, ?_⟩, ?_⟩
  · exact dAt_c (dAt_m (a := []) (x := dWd 21) (b := dNu l ++ dWd 22 ++ dNu (l + 1) ++ dWd 23 ++ E ++ cuC (dHl w l) (cuHc w) ++ dWd 28) rfl) (by rw [e]; simp only [List.append_assoc, List.nil_append])
  · exact dAt_c (dAt_m (a := dWd 21) (x := dNu l) (b := dWd 22 ++ dNu (l + 1) ++ dWd 23 ++ E ++ cuC (dHl w l) (cuHc w) ++ dWd 28) l1.symm) (by rw [e]; simp only [List.append_assoc])
  · exact dAt_c (dAt_m (a := dWd 21 ++ dNu l) (x := dWd 22) (b := dNu (l + 1) ++ dWd 23 ++ E ++ cuC (dHl w l) (cuHc w) ++ dWd 28) (by rw [List.length_append]; omega)) (by rw [e]; simp only [List.append_assoc])
  · exact dAt_c (dAt_m (a := dWd 21 ++ dNu l ++ dWd 22) (x := dNu (l + 1)) (b := dWd 23 ++ E ++ cuC (dHl w l) (cuHc w) ++ dWd 28) (by rw [List.length_append, List.length_append]; omega)) (by rw [e]; simp only [List.append_assoc])
  · exact dAt_c (dAt_m (a := dWd 21 ++ dNu l ++ dWd 22 ++ dNu (l + 1)) (x := dWd 23) (b := E ++ cuC (dHl w l) (cuHc w) ++ dWd 28) (by rw [List.length_append, List.length_append, List.length_append]; omega)) (by rw [e]; simp only [List.append_assoc])
  · by_cases q : zct (dIs w l) (cuHc w) = 0
    · rw [if_pos q] at hE
      refine Or.inl ⟨q, ?_⟩
      rw [eh, hE, List.append_nil, List.length_append, List.length_append, List.length_append, List.length_append]
      omega
    · rw [if_neg q] at hE
      refine Or.inr ⟨q, ?_, ?_⟩
      · rw [eh, hE, List.length_append, List.length_append, List.length_append, List.length_append, List.length_append]
        omega
      · exact dAt_c (dAt_m (a := dWd 21 ++ dNu l ++ dWd 22 ++ dNu (l + 1) ++ dWd 23) (x := dWd 24) (b := cuC (dHl w l) (cuHc w) ++ dWd 28) (by rw [List.length_append, List.length_append, List.length_append, List.length_append]; omega)) (by rw [e, hE]; simp only [List.append_assoc])
noncomputable def dPs (w : List CuR) (l : Int) (n : Nat) : Nat := (dHd w l).length + (cuC (dHl w l) n).length
theorem dPs_s {w : List CuR} {l : Int} {n : Nat} : dPs w l (n + 1) = dPs w l n + (dHl w l n).length := by
  unfold dPs
  show _ + (cuC (dHl w l) n ++ dHl w l n).length = _
  rw [List.length_append]
  omega
theorem dTx_n {w : List CuR} {l : Int} {n : Nat} (hn : n < cuHc w) (h : dIs w l n) : (dAt (dTx w l) (dPs w l n) (dWd 25) ∧ dAt (dTx w l) (dPs w l n + 1) (dNu (dHx w n)) ∧ dAt (dTx w l) (dPs w l n + 1 + (dNu (dHx w n)).length) (dWd 26) ∧ dAt (dTx w l) (dPs w l n + 1 + (dNu (dHx w n)).length + 1) (dNu (dHy w n)) ∧ dAt (dTx w l) (dPs w l n + 1 + (dNu (dHx w n)).length + 1 + (dNu (dHy w n)).length) (dWd 27)) ∧ dPs w l (n + 1) = dPs w l n + 1 + (dNu (dHx w n)).length + 1 + (dNu (dHy w n)).length + 1 := by
  obtain ⟨_, _, _, _, l5, l6, l7, _⟩ := dWd_l
  obtain ⟨x, hx⟩ := cuC_le (f := dHl w l) (show n + 1 ≤ cuHc w by omega)
  obtain ⟨A, hA⟩ : ∃ A, A = dHd w l ++ cuC (dHl w l) n := ⟨_, rfl⟩
  have hAl : dPs w l n = A.length := by rw [hA, List.length_append]; rfl
  have e : dTx w l = A ++ dWd 25 ++ dNu (dHx w n) ++ dWd 26 ++ dNu (dHy w n) ++ dWd 27 ++ x ++ dWd 28 := by
    unfold dTx
    rw [hx, hA]
    show dHd w l ++ (cuC (dHl w l) n ++ dHl w l n ++ x) ++ dWd 28 = _
    rw [dHl_y h]
    simp only [List.append_assoc]
  rw [hAl]
  refine ⟨⟨?_, ?_, ?_, ?_, ?_⟩, ?_⟩
  · exact dAt_c (dAt_m (a := A) (x := dWd 25) (b := dNu (dHx w n) ++ dWd 26 ++ dNu (dHy w n) ++ dWd 27 ++ x ++ dWd 28) rfl) (by rw [e]; simp only [List.append_assoc])
  · exact dAt_c (dAt_m (a := A ++ dWd 25) (x := dNu (dHx w n)) (b := dWd 26 ++ dNu (dHy w n) ++ dWd 27 ++ x ++ dWd 28) (by rw [List.length_append]; omega)) (by rw [e]; simp only [List.append_assoc])
  · exact dAt_c (dAt_m (a := A ++ dWd 25 ++ dNu (dHx w n)) (x := dWd 26) (b := dNu (dHy w n) ++ dWd 27 ++ x ++ dWd 28) (by rw [List.length_append, List.length_append]; omega)) (by rw [e]; simp only [List.append_assoc])
  · exact dAt_c (dAt_m (a := A ++ dWd 25 ++ dNu (dHx w n) ++ dWd 26) (x := dNu (dHy w n)) (b := dWd 27 ++ x ++ dWd 28) (by rw [List.length_append, List.length_append, List.length_append]; omega)) (by rw [e]; simp only [List.append_assoc])
  · exact dAt_c (dAt_m (a := A ++ dWd 25 ++ dNu (dHx w n) ++ dWd 26 ++ dNu (dHy w n)) (x := dWd 27) (b := x ++ dWd 28) (by rw [List.length_append, List.length_append, List.length_append, List.length_append]; omega)) (by rw [e]; simp only [List.append_assoc])
  · rw [dPs_s, dHl_y h, List.length_append, List.length_append, List.length_append, List.length_append]
    omega
theorem dTx_e {w : List CuR} {l : Int} : dAt (dTx w l) (dPs w l (cuHc w)) (dWd 28) ∧ (dTx w l).length = dPs w l (cuHc w) + 4 := by
  have l8 := dWd_l.2.2.2.2.2.2.2
  refine ⟨?_, ?_⟩
  · exact dAt_c (dAt_m (a := dHd w l ++ cuC (dHl w l) (cuHc w)) (x := dWd 28) (b := []) (by rw [List.length_append]; rfl)) (by rw [List.append_nil]; rfl)
  · unfold dTx dPs
    rw [List.length_append, List.length_append, l8]
theorem dTx_8 {w : List CuR} {l : Int} (h : cuHc w ≤ 20) : (dTx w l).length ≤ 800 := by
  unfold dTx
  rw [List.length_append, List.length_append]
  have z := cuC_l (f := dHl w l) (m := 13) (n := cuHc w) (fun i _ => dHl_l)
  have z2 := dHd_l (w := w) (l := l)
  have z3 := dWd_l.2.2.2.2.2.2.2
  omega
