/-! THE READING in the reference's memory -/
theorem tCn_n {a : Int} : tCn a (-1) ↔ a = 0 := by unfold tCn; omega
theorem tVz_1 {c : Nat → Int} {n b a q : Nat} : tVz c n b a q 1 = tVf c n b a q 0 := by
  by_cases h : tVf c n b a q 0 = -1
  · rw [h]
    exact tVz_no (fun j hj => by rw [show j = 0 by omega]; exact h)
  · exact tVz_at (i := 0) (by decide) (fun j hj => absurd hj (Nat.not_lt_zero j)) h
theorem tFv_00 {x : Int} : tFv 0 x = 1 := by
  rw [tFv_0 (by omega)]
  rfl
/-- the version's fault, end, value, as those of the values of kind 0 -/
theorem tVz_v {c : Nat → Int} {n b q : Nat} : (¬ tGk c q b → tVz c n b 0 q 1 = q) ∧ (tGk c q b → tVz c n b 0 q 1 = tNf c n (tGe c n q b) 0 1 3) ∧ tVp c n b 0 q 1 = tNe c n (tGe c n q b) 0 ∧ ∀ x, tXx c n b 0 q 1 x = tNv c n (tGe c n q b) 0 := by
  have e0 : tVp c n b 0 q 0 = q := rfl
  have e1 : tGp c n b 0 q 0 = tGe c n q b := rfl
  have t : ¬ tFc 0 0 = 84 := by rw [tFc_v.1]; decide
  refine ⟨fun h => ?_, fun h => ?_, ?_, fun x => ?_⟩
  · rw [tVz_1]
    exact tVf_g h
  · rw [tVz_1, tVf_n h t, e1, tFc_v.1, tFc_v.2.1, tFc_v.2.2.1, tFc_v.2.2.2]
  · rw [tVp_n t, e1, tFc_v.1, tFc_v.2.1]
  · rw [tXx_t ⟨rfl, by decide⟩, e1]
/-- what is kept of an object at hand: letters from op on up to q, from kf on -/
def zVK (k : Nat) (c : Nat → Int) (op kf q : Nat) (mk : Int) (fd : Nat) (I : ZI) : Prop := I k 22 = (kf : Int) + (q - op : Nat) ∧ (mk = 1 → I (k + 8) fd = (q - op : Nat) ∧ ∀ t, t < q - op → I (k + 9) (kf + t) = c (op + t))
theorem zVK_fr {k : Nat} {c : Nat → Int} {op kf q fd : Nat} {mk : Int} {I I' : ZI} (h : zVK k c op kf q mk fd I) (hf : ∀ x j : Nat, (x = k ∧ j = 22) ∨ x = k + 8 ∨ x = k + 9 → I' x j = I x j) : zVK k c op kf q mk fd I' := ⟨(hf k 22 (by omega)).trans h.1, fun w => ⟨(hf _ _ (by omega)).trans (h.2 w).1, fun t ht => (hf _ _ (by omega)).trans ((h.2 w).2 t ht)⟩⟩
theorem zVK_up {k : Nat} {c : Nat → Int} {op kf q q' fd : Nat} {mk : Int} {I I' : ZI} (h : zVK k c op kf q mk fd I) (hq : op ≤ q ∧ q ≤ q') (h22 : I' k 22 = I k 22 + (q' - q : Nat)) (h8 : mk = 1 → I' (k + 8) fd = I (k + 8) fd + (q' - q : Nat)) (h9 : mk = 1 → ∀ t, t < q' - q → I' (k + 9) ((I k 22).toNat + t) = c (q + t)) (hf : mk = 1 → ∀ j : Nat, (j : Int) < I k 22 → I' (k + 9) j = I (k + 9) j) : zVK k c op kf q' mk fd I' := by
  obtain ⟨g1, g2⟩ := h
  refine ⟨by omega, fun w => ⟨?_, fun t ht => ?_⟩⟩
  · have z := (g2 w).1
    have z2 := h8 w
    omega
  · rcases Nat.lt_or_ge t (q - op) with y | y
    · exact (hf w _ (by omega)).trans ((g2 w).2 t y)
    · have z := h9 w (t - (q - op)) (by omega)
      rw [g1, show ((kf : Int) + (q - op : Nat)).toNat + (t - (q - op)) = kf + t by omega, show q + (t - (q - op)) = op + t by omega] at z
      exact z
/-- the reference's row j -/
def tVr (c : Nat → Int) (n b k : Nat) (r : Nat → Int) (j : Nat) (ke : Int) (I L : ZI) : Prop := (I (k + 2) j = r 0 ∧ I (k + 3) j = r 1) ∧ (∀ w, w < 5 → L (k + 4) (5 * j + w) = tOn c n b r w) ∧ (r 0 ≠ 9 → ∀ w, w < 2 → I (k + 5) (2 * j + w) = tOl c n b r w ∧ ∀ t, t < tOl c n b r w → I (k + 6) (80 * j + 40 * w + t) = tOc c n b r w t) ∧ (r 0 = 9 → I (k + 8) j = r 3 - r 2 ∧ 0 ≤ I (k + 7) j ∧ I (k + 7) j + (r 3 - r 2) ≤ ke ∧ ∀ t : Nat, (t : Int) < r 3 - r 2 → I (k + 9) ((I (k + 7) j).toNat + t) = c ((r 2).toNat + t))
/-- the reference's objects in the midst of a reading; the version; the open ones -/
def zVO (k : Nat) (c : Nat → Int) (n b : Nat) (mk : Int) (s : TyS) (I L : ZI) : Prop := (I k 17 = tyn s ∧ I k 22 = tyk s ∧ (tyn s ≠ 0 → I k 16 = tyx s)) ∧ (∀ d, d < tyd s → I (k + 10) d = tyo s d ∧ I (k + 11) d = tyr s (tyo s d) 0) ∧ (mk = 1 → ∀ j, j < tyn s → tVr c n b k (tyr s j) j (tyk s) I L)
theorem tVr_fr {c : Nat → Int} {n b k j : Nat} {r : Nat → Int} {ke ke' : Int} {I L I' L' : ZI} (h : tVr c n b k r j ke I L) (hke : ke ≤ ke') (h2 : I' (k + 2) j = I (k + 2) j ∧ I' (k + 3) j = I (k + 3) j ∧ I' (k + 7) j = I (k + 7) j ∧ I' (k + 8) j = I (k + 8) j) (hL : ∀ w, w < 5 → L' (k + 4) (5 * j + w) = L (k + 4) (5 * j + w)) (h5 : ∀ w, w < 2 → I' (k + 5) (2 * j + w) = I (k + 5) (2 * j + w)) (h6 : ∀ t, t < 80 → I' (k + 6) (80 * j + t) = I (k + 6) (80 * j + t)) (h9 : ∀ t : Nat, (t : Int) < ke → I' (k + 9) t = I (k + 9) t) (ht : r 0 ≠ 9 → ∀ w, w < 2 → tOl c n b r w ≤ 40) : tVr c n b k r j ke' I' L' := by
  obtain ⟨g1, g2, g3, g4⟩ := h
  refine ⟨⟨h2.1.trans g1.1, h2.2.1.trans g1.2⟩, fun w hw => (hL w hw).trans (g2 w hw), fun q w hw => ⟨(h5 w hw).trans (g3 q w hw).1, fun t h => ?_⟩, fun q => ?_⟩
  · have z := ht q w hw
    have e := h6 (40 * w + t) (by omega)
    rw [← Nat.add_assoc] at e
    exact e.trans ((g3 q w hw).2 t h)
  · have z := g4 q
    rw [h2.2.2.1]
    exact ⟨h2.2.2.2.trans z.1, z.2.1, by omega, fun t h => (h9 _ (by omega)).trans (z.2.2.2 t h)⟩
theorem tN1_0 {a w : Nat} {x : Int} (h : oCi a 0 (tFv a x) ≤ w) : tN1 a w = tN0 a w := by
  by_cases e : a = 3 ∧ w = 0
  · exfalso
    obtain ⟨e1, e2⟩ := e
    subst e1
    rw [tFv_0 (by omega)] at h
    have z : oCi 3 0 (tFn 3) = 1 := by decide +kernel
    omega
  · unfold tN1 tN0
    by_cases e2 : a = 6 ∧ w = 2
    · rw [if_pos e2, if_pos e2]
    · rw [if_neg e2, if_neg e2, if_neg e]
theorem tVr_v {c : Nat → Int} {n b k j a q : Nat} {x ke : Int} {r : Nat → Int} {I L : ZI} (ha8 : a ≤ 8) (hr0 : r 0 = a) (hr2 : r 2 = q) (hr5 : r 5 = x) (h1 : I (k + 2) j = a ∧ I (k + 3) j = r 1) (hvs : a ≠ 0 → tVs c n b a q (tFv a x) k j I L)
    (hL : ∀ w, oCi a 0 (tFv a x) ≤ w → w < 5 → L (k + 4) (5 * j + w) = tN1 a w) (h5 : ∀ w, oCi a 1 (tFv a x) ≤ w → w < 2 → I (k + 5) (2 * j + w) = 0) : tVr c n b k r j ke I L := by
  have hm := tFv_le (a := a) (x := x)
  have hm5 := (tFn_b a (by omega)).1
  have e0 : (r 0).toNat = a := by omega
  have e2 : (r 2).toNat = q := by omega
  have em : tRwm r = tFv a x := by unfold tRwm; rw [e0, hr5]
  refine ⟨⟨h1.1.trans hr0.symm, h1.2⟩, fun w hw => ?_, fun e9 w hw => ?_, fun e9 => by omega⟩
  · unfold tOn
    rw [e0, e2, em]
    rcases zlow_sp (tPn a w) (tFv a x) with ⟨w1, w2⟩ | ⟨i, w1, w2, w3, w4⟩
    · rw [if_pos w1]
      have hq : oCi a 0 (tFv a x) ≤ w := by
        by_cases ea : a = 0
        · rw [ea]
          have y := oCi_0 0 (by omega) (tFv 0 x) (by have := tFn_b 0 (by omega); have := tFv_le (a := 0) (x := x); omega)
          omega
        · have z := tPn_x (a := a) (by omega) (m := tFv a x) (by omega) hw (fun i hi y => w2 i hi ⟨y.1, ea, y.2⟩)
          omega
      rw [← tN1_0 hq]
      exact hL w hq hw
    · rw [w2, if_neg (by omega), Int.toNat_natCast]
      have z := (hvs w3.2.1 i w1).2 w3.1
      rw [w3.2.2] at z
      exact z
  · unfold tOl tOc tOt
    rw [e0, e2, em, if_neg e9]
    rcases zlow_sp (tPt a w) (tFv a x) with ⟨w1, w2⟩ | ⟨i, w1, w2, w3, w4⟩
    · rw [if_pos w1]
      have hq : oCi a 1 (tFv a x) ≤ w := by
        rcases tPt_x a (by omega) (tFv a x) (by omega) w hw with z | z | ⟨i, z1, z2, z3⟩
        · omega
        · exact z
        · exact absurd ⟨z2, z3⟩ (w2 i z1)
      exact ⟨h5 w hq hw, fun t ht => absurd ht (Nat.not_lt_zero t)⟩
    · rw [w2, if_neg (by omega), Int.toNat_natCast]
      have ea : a ≠ 0 := fun e => by
        subst e
        have z := w3.1
        have y : i = 0 := by
          have := tFn_b 0 (by omega)
          have z2 : tFn 0 = 1 := rfl
          omega
        rw [y, tFc_v.1] at z
        exact absurd z (by decide)
      have z := (hvs ea i w1).1 w3.1
      rw [w3.2] at z
      exact ⟨z.1, fun t ht => (z.2 t ht).trans (by rw [if_neg e9])⟩
theorem tVr_u {c : Nat → Int} {n b k j q e kf : Nat} {ke : Int} {r : Nat → Int} {I L : ZI} (hr0 : r 0 = 9) (hr2 : r 2 = q) (hr3 : r 3 = e) (hqe : q ≤ e) (h1 : I (k + 2) j = 9 ∧ I (k + 3) j = r 1) (h7 : I (k + 7) j = kf) (hke : kf + ((e : Int) - q) ≤ ke)
    (hL : ∀ w, w < 5 → L (k + 4) (5 * j + w) = tN1 9 w) (h8 : I (k + 8) j = (e - q : Nat)) (h9 : ∀ t, t < e - q → I (k + 9) (kf + t) = c (q + t)) : tVr c n b k r j ke I L := by
  have e0 : (r 0).toNat = 9 := by omega
  have em : tRwm r = 0 := by
    unfold tRwm
    rw [e0]
    have w := tFv_le (a := 9) (x := r 5)
    have w2 : tFn 9 = 0 := rfl
    omega
  refine ⟨⟨h1.1.trans hr0.symm, h1.2⟩, fun w hw => ?_, fun e9 => absurd hr0 e9, fun _ => ⟨h8.trans (by omega), by omega, by omega, fun t ht => ?_⟩⟩
  · unfold tOn
    rw [em, e0]
    have ez : zlow (tPn 9 w) 0 = -1 := rfl
    rw [if_pos ez]
    refine (hL w hw).trans ?_
    unfold tN1 tN0
    rw [if_neg (by omega), if_neg (by omega), if_neg (by omega)]
  · rw [h7, hr2, Int.toNat_natCast, Int.toNat_natCast]
    exact h9 t (by omega)
/-- texts of objects are short -/
theorem tOl_b {c : Nat → Int} {n b : Nat} {r : Nat → Int} {w : Nat} (h : r 0 ≠ 9) : tOl c n b r w ≤ 40 := by
  unfold tOl
  rw [if_neg h]
  split
  · omega
  · exact tXl_b
theorem zVO_up {k : Nat} {c : Nat → Int} {n b : Nat} {mk : Int} {s s' : TyS} {w : Nat → Int} {I L I' L' : ZI} (h : zVO k c n b mk s I L) (hn : tyn s' = tyn s + 1) (hr : tyr s' = upF (tyr s) (tyn s) w) (hk : tyk s ≤ tyk s')
    (h17 : I' k 17 = tyn s + 1) (h22 : I' k 22 = tyk s') (h16 : I' k 16 = tyx s') (hst : ∀ d, d < tyd s' → I' (k + 10) d = tyo s' d ∧ I' (k + 11) d = tyr s' (tyo s' d) 0) (hw : mk = 1 → tVr c n b k w (tyn s) (tyk s') I' L')
    (hf : mk = 1 → ∀ x j : Nat, (x = k + 2 ∨ x = k + 3 ∨ x = k + 7 ∨ x = k + 8) → j < tyn s → I' x j = I x j) (hf5 : mk = 1 → ∀ j : Nat, j < 2 * tyn s → I' (k + 5) j = I (k + 5) j) (hf6 : mk = 1 → ∀ j : Nat, j < 80 * tyn s → I' (k + 6) j = I (k + 6) j) (hf9 : mk = 1 → ∀ j : Nat, j < tyk s → I' (k + 9) j = I (k + 9) j) (hfL : mk = 1 → ∀ j : Nat, j < 5 * tyn s → L' (k + 4) j = L (k + 4) j) : zVO k c n b mk s' I' L' := by
  refine ⟨⟨h17.trans (by omega), h22, fun _ => h16⟩, hst, fun e j hj => ?_⟩
  rw [hr]
  by_cases q : j = tyn s
  · subst q
    rw [upF_at]
    exact hw e
  · rw [upF_ne q]
    exact tVr_fr (h.2.2 e j (by omega)) (by omega) ⟨hf e _ _ (by omega) (by omega), hf e _ _ (by omega) (by omega), hf e _ _ (by omega) (by omega), hf e _ _ (by omega) (by omega)⟩ (fun w hw => hfL e _ (by omega)) (fun w hw => hf5 e _ (by omega)) (fun t ht => hf6 e _ (by omega)) (fun t ht => hf9 e _ (by omega)) (fun q w _ => tOl_b q)
theorem zVO_fr {k : Nat} {c : Nat → Int} {n b : Nat} {mk : Int} {s : TyS} {I L I' L' : ZI} (h : zVO k c n b mk s I L) (hf : ∀ x j : Nat, (x = k ∧ (j = 16 ∨ j = 17 ∨ j = 22)) ∨ (k + 2 ≤ x ∧ x ≤ k + 11) → I' x j = I x j) (hl : ∀ x j : Nat, x = k + 4 → L' x j = L x j) : zVO k c n b mk s I' L' :=
  ⟨⟨(hf k 17 (by omega)).trans h.1.1, (hf k 22 (by omega)).trans h.1.2.1, fun w => (hf k 16 (by omega)).trans (h.1.2.2 w)⟩, fun d hd => ⟨(hf _ _ (by omega)).trans (h.2.1 d hd).1, (hf _ _ (by omega)).trans (h.2.1 d hd).2⟩, fun e j hj => tVr_fr (h.2.2 e j hj) (Int.le_refl _) ⟨hf _ _ (by omega), hf _ _ (by omega), hf _ _ (by omega), hf _ _ (by omega)⟩ (fun w _ => hl _ _ rfl) (fun w _ => hf _ _ (by omega)) (fun t _ => hf _ _ (by omega)) (fun t _ => hf _ _ (by omega)) (fun q w _ => tOl_b q)⟩
theorem zVK_k {k : Nat} {c : Nat → Int} {op kf q q' fd : Nat} {mk : Int} {I I' : ZI} (h : zVK k c op kf q mk fd I) (hq : op ≤ q ∧ q ≤ q') (h22 : I' k 22 = ((kf + (q - op) : Nat) : Int) + (q' - q : Nat)) (h89 : mk = 1 → I' (k + 8) fd = ((q - op : Nat) : Int) + (q' - q : Nat) ∧ ∀ t, t < q' - q → I' (k + 9) (kf + (q - op) + t) = c (q + t)) (hf : ∀ j : Nat, j < kf + (q - op) → I' (k + 9) j = I (k + 9) j) : zVK k c op kf q' mk fd I' := by
  obtain ⟨g1, g2⟩ := h
  refine ⟨by omega, fun w => ⟨?_, fun t ht => ?_⟩⟩
  · have z := (h89 w).1
    omega
  · rcases Nat.lt_or_ge t (q - op) with y | y
    · exact (hf _ (by omega)).trans ((g2 w).2 t y)
    · have z := (h89 w).2 (t - (q - op)) (by omega)
      rw [show kf + (q - op) + (t - (q - op)) = kf + t by omega, show q + (t - (q - op)) = op + t by omega] at z
      exact z
