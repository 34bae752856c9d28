/-! WHAT IS WRITTEN OF AN OBJECT IS HARDLY LONGER THAN WHAT WAS READ -/
noncomputable def tO1 (c : Nat → Int) (n b : Nat) (r : Nat → Int) : OoS := tOS c n b ((0, 0), (0, 0, 0, 0), (fun _ => 0), fun _ => r)
noncomputable def wRl (c : Nat → Int) (n b : Nat) (r : Nat → Int) : Nat := (wOw (tO1 c n b r) 0).length
theorem wFs_c {O O' : OoS} {j j' a : Nat} (h1 : ∀ w, otc O j w = otc O' j' w) (h2 : ∀ w, otl O j w = otl O' j' w) (h3 : ∀ w, onm O j w = onm O' j' w) : ∀ i, wFs O j a i = wFs O' j' a i
  | 0 => rfl
  | i + 1 => by
    show wFs O j a i ++ ([32] ++ wF1 O j a i) = wFs O' j' a i ++ ([32] ++ wF1 O' j' a i)
    rw [wFs_c h1 h2 h3 i]
    unfold wF1
    rw [h1, h2, h3]
theorem wOw_1 {c : Nat → Int} {n b : Nat} {s : TyS} {j : Nat} : (wOw (tOS c n b s) j).length = wRl c n b (tyr s j) := by
  unfold wRl
  by_cases e : okd (tOS c n b s) j = 9
  · have e2 : okd (tO1 c n b (tyr s j)) 0 = 9 := e
    rw [wOw_9 e, wOw_9 e2, wRw_l, wRw_l]
    rfl
  · have e2 : okd (tO1 c n b (tyr s j)) 0 ≠ 9 := e
    rw [wOw_n e, wOw_n e2]
    unfold wOb
    have e3 : (okd (tOS c n b s) j).toNat = (okd (tO1 c n b (tyr s j)) 0).toNat := rfl
    rw [e3, wFs_c (O := tOS c n b s) (O' := tO1 c n b (tyr s j)) (j := j) (j' := 0) (fun _ => rfl) (fun _ => rfl) (fun _ => rfl)]
theorem wRl_9 {c : Nat → Int} {n b : Nat} {r : Nat → Int} (h : r 0 = 9) : wRl c n b r = (r 3 - r 2).toNat := by
  have e2 : okd (tO1 c n b r) 0 = 9 := h
  unfold wRl
  rw [wOw_9 e2, wRw_l]
  exact (if_pos h).trans (if_pos rfl)
def tPuc (a i j : Nat) : Bool := decide (tFn a ≤ i) || (decide (tFn a ≤ j) || (decide (i = j) || (!decide (tFc a i = 84) || (!decide (tFc a j = 84) || !decide (oCi a 1 i = oCi a 1 j)))))
theorem tPuc_y : ∀ a, a < 9 → ∀ i, i < 5 → ∀ j, j < 5 → tPuc a i j = true := by decide +kernel
theorem tPt_u (a : Nat) (ha : a < 9) (i : Nat) (hi : i < 5) (j : Nat) (hj : j < 5) : tFn a ≤ i ∨ tFn a ≤ j ∨ i = j ∨ tFc a i ≠ 84 ∨ tFc a j ≠ 84 ∨ ¬ oCi a 1 i = oCi a 1 j := by
  have z := tPuc_y a ha i hi j hj
  unfold tPuc at z
  simp only [Bool.or_eq_true, decide_eq_true_eq, Bool.not_eq_true', decide_eq_false_iff_not] at z
  exact z
theorem tF86 : ∀ a, a < 9 → ∀ i, i < 5 → (tFn a ≤ i ∨ a = 0 ∨ tFc a i ≠ 86) := by decide +kernel
theorem tF86_0 : ∀ i, i < 5 → (tFn 0 ≤ i ∨ tFc 0 i = 86) := by decide +kernel
/-- a field that was read -/
theorem wF1_r {c : Nat → Int} {n b a q i : Nat} {x : Int} {r : Nat → Int} (hc : tOk c n) (ha : r 0 = a) (ha8 : a ≤ 8) (h2 : r 2 = q) (h5 : r 5 = x) (hz : tVz c n b a q (tFv a x) = -1) (hi : i < tFv a x) : 1 + (wF1 (tO1 c n b r) 0 a i).length + tVp c n b a q i ≤ tVp c n b a q (i + 1) := by
  have hv := tVz_p hz i hi
  have w := tVf_w hc hv
  have hg := tGe_le hc w.1
  have hg1 : tVp c n b a q i < tGp c n b a q i := hg.1
  have hm := tFv_le (a := a) (x := x)
  have hf5 := (tFn_b a (by omega)).1
  have ea : (r 0).toNat = a := by omega
  have eq : (r 2).toNat = q := by omega
  have em : tRwm r = tFv a x := by unfold tRwm; rw [ea, h5]
  by_cases e86 : tFc a i = 86
  · have e : wF1 (tO1 c n b r) 0 a i = [51] := if_pos e86
    rw [e]
    have h84 : ¬ tFc a i = 84 := by omega
    rw [tVf_n w.1 h84] at hv
    have y := tNe_le hc hv
    rw [tVp_n h84]
    show 1 + 1 + _ ≤ _
    omega
  · by_cases h84 : tFc a i = 84
    · have e : wF1 (tO1 c n b r) 0 a i = wQt (otc (tO1 c n b r) 0 (oCi a 1 i)) (otl (tO1 c n b r) 0 (oCi a 1 i)) := (if_neg e86).trans (if_pos h84)
      rw [tVf_t w.1 h84] at hv
      have hzl : zlow (tPt a (oCi a 1 i)) (tFv a x) = (i : Int) := zlow_at (⟨h84, rfl⟩ : tPt a (oCi a 1 i) i) (fun j hj y => by
        rcases tPt_u a (by omega) j (by omega) i (by omega) with z | z | z | z | z | z
        · omega
        · omega
        · omega
        · exact z y.1
        · exact z h84
        · exact z y.2) hi
      have h9 : ¬ r 0 = 9 := by omega
      have et : tOt c n b r (oCi a 1 i) = tGp c n b a q i := by
        unfold tOt
        rw [ea, eq, em, hzl, Int.toNat_natCast]
      have e1 : otl (tO1 c n b r) 0 (oCi a 1 i) = tXl c (tGp c n b a q i) := by
        show tOl c n b r (oCi a 1 i) = _
        unfold tOl
        rw [if_neg h9, ea, em, hzl, if_neg (by omega), et]
      have e2 : otc (tO1 c n b r) 0 (oCi a 1 i) = tLt c (tGp c n b a q i) := by
        show (fun t => tOc c n b r (oCi a 1 i) t) = _
        funext t
        unfold tOc
        rw [if_neg h9, et]
      rw [e, e1, e2, tVp_t h84]
      have y := wQt_r (n := n) hv
      omega
    · have e : wF1 (tO1 c n b r) 0 a i = wNb (onm (tO1 c n b r) 0 (tNc a i)) (tLen (tFc a i)) := wF1_n e86 h84
      rw [tVf_n w.1 h84] at hv
      have ha0 : a ≠ 0 := fun y => by
        subst y
        rcases tF86_0 i (by omega) with z | z
        · omega
        · exact e86 z
      have e0 : tNc a i = oCi a 0 i := if_neg ha0
      have hzl : zlow (tPn a (oCi a 0 i)) (tFv a x) = (i : Int) := zlow_at (⟨h84, ha0, rfl⟩ : tPn a (oCi a 0 i) i) (fun j hj y => by
        have z := tPn_u (a := a) (i := j) (j := i) (by omega) (by omega) (by omega) (by omega) (by omega) ha0 y.1 h84 y.2.2
        omega) hi
      have e1 : onm (tO1 c n b r) 0 (oCi a 0 i) = tNv c n (tGp c n b a q i) (tLen (tFc a i)) := by
        show tOn c n b r (oCi a 0 i) = _
        unfold tOn
        rw [ea, eq, em, hzl, if_neg (by omega), Int.toNat_natCast]
      rw [e, e0, e1, tVp_n h84]
      have y := wNb_r hc hv
      omega
theorem wFs_r {c : Nat → Int} {n b a q : Nat} {x : Int} {r : Nat → Int} (hc : tOk c n) (ha : r 0 = a) (ha8 : a ≤ 8) (h2 : r 2 = q) (h5 : r 5 = x) (hz : tVz c n b a q (tFv a x) = -1) : ∀ {i : Nat}, i ≤ tFv a x → (wFs (tO1 c n b r) 0 a i).length + q ≤ tVp c n b a q i
  | 0, _ => by show 0 + q ≤ q; omega
  | i + 1, hi => by
    have ih := wFs_r hc ha ha8 h2 h5 hz (i := i) (by omega)
    have y := wF1_r hc ha ha8 h2 h5 hz (i := i) (by omega)
    show (wFs (tO1 c n b r) 0 a i ++ ([32] ++ wF1 (tO1 c n b r) 0 a i)).length + q ≤ _
    rw [List.length_append, List.length_append]
    show (wFs (tO1 c n b r) 0 a i).length + (1 + (wF1 (tO1 c n b r) 0 a i).length) + q ≤ _
    omega
theorem wF1_m : tFc 4 3 = 75 ∧ tFc 6 3 = 78 ∧ tNc 4 3 = 2 ∧ tNc 6 3 = 2 ∧ oCi 4 0 3 = 2 ∧ oCi 6 0 3 = 2 ∧ tFn 4 = 4 ∧ tFn 6 = 4 ∧ tN0 4 2 = 0 ∧ tN0 6 2 = 1270000 ∧ (wNb 0 (tLen 75)).length = 1 ∧ (wNb 1270000 (tLen 78)).length = 4 := by decide +kernel
theorem tPn_z : ∀ i, i < 3 → (¬ (tFc 4 i ≠ 84 ∧ (4 : Nat) ≠ 0 ∧ oCi 4 0 i = 2)) ∧ ¬ (tFc 6 i ≠ 84 ∧ (6 : Nat) ≠ 0 ∧ oCi 6 0 i = 2) := by decide +kernel
theorem wRl_8 {c : Nat → Int} {n b a q : Nat} {x : Int} {r : Nat → Int} (hc : tOk c n) (ha : r 0 = a) (ha8 : a ≤ 8) (h2 : r 2 = q) (h5 : r 5 = x) (hz : tVz c n b a q (tFv a x) = -1) : wRl c n b r + q ≤ (tsb a).length + tVp c n b a q (tFv a x) + 5 := by
  have e9 : okd (tO1 c n b r) 0 ≠ 9 := by show r 0 ≠ 9; omega
  have ea : (r 0).toNat = a := by omega
  unfold wRl
  rw [wOw_n e9]
  have ek : (okd (tO1 c n b r) 0).toNat = a := ea
  rw [ek]
  unfold wOb
  rw [List.length_append]
  have el : (wWd a (tsb a).length).length = (tsb a).length := wRw_l
  rw [el]
  have y := wFs_r hc ha ha8 h2 h5 hz (Nat.le_refl _)
  have hm := tFv_le (a := a) (x := x)
  by_cases e : tFv a x = tFn a
  · rw [e] at y ⊢
    omega
  · have hq : (a = 4 ∧ x < 2) ∨ (a = 6 ∧ x < 3) := by
      by_cases g : (a = 4 ∧ x < 2) ∨ (a = 6 ∧ x < 3)
      · exact g
      · exact absurd (tFv_0 g) e
    have em : tFv a x = tFn a - 1 := tFv_1 hq
    obtain ⟨k1, k2, k3, k4, k5, k6, k7, k8, k9, k10, k11, k12⟩ := wF1_m
    have emr : tRwm r = tFv a x := by unfold tRwm; rw [ea, h5]
    have hw : (wF1 (tO1 c n b r) 0 a 3).length ≤ 4 ∧ tFn a = 4 := by
      rcases hq with ⟨g, _⟩ | ⟨g, _⟩
      · subst g
        refine ⟨?_, k7⟩
        have e1 : tOn c n b r 2 = 0 := by
          unfold tOn
          rw [ea, emr, em, k7]
          rw [zlow_no (P := tPn 4 2) (n := 4 - 1) (fun i hi w => (tPn_z i hi).1 w), if_pos rfl, k9]
        rw [wF1_n (by omega) (by omega), k3, k1]
        show (wNb (tOn c n b r 2) (tLen 75)).length ≤ 4
        rw [e1, k11]
        decide
      · subst g
        refine ⟨?_, k8⟩
        have e1 : tOn c n b r 2 = 1270000 := by
          unfold tOn
          rw [ea, emr, em, k8]
          rw [zlow_no (P := tPn 6 2) (n := 4 - 1) (fun i hi w => (tPn_z i hi).2 w), if_pos rfl, k10]
        rw [wF1_n (by omega) (by omega), k4, k2]
        show (wNb (tOn c n b r 2) (tLen 78)).length ≤ 4
        rw [e1, k12]
        decide
    have e3 : (wFs (tO1 c n b r) 0 a (tFn a)).length = (wFs (tO1 c n b r) 0 a 3).length + (1 + (wF1 (tO1 c n b r) 0 a 3).length) := by
      rw [hw.2]
      show (wFs (tO1 c n b r) 0 a 3 ++ ([32] ++ wF1 (tO1 c n b r) 0 a 3)).length = _
      rw [List.length_append, List.length_append]
      rfl
    rw [em, hw.2] at y ⊢
    rw [hw.2] at e3
    have y2 : (wFs (tO1 c n b r) 0 a 3).length + q ≤ tVp c n b a q 3 := y
    show _ ≤ (tsb a).length + tVp c n b a q 3 + 5
    rw [e3]
    omega
