/-! DRAWINGS: rows more -/
/-- a row more -/
abbrev djW (d : JdS) (a b c e g : Int) : JdS := (d.1, (dnw d + 1, upR (dW d) (dnw d) a b c e g), d.2.2)
/-- a row more -/
abbrev djJ (d : JdS) (a b c e g : Int) : JdS := (d.1, d.2.1, (dnj d + 1, upR (dJ d) (dnj d) a b c e g), d.2.2.2)
/-- a row more -/
abbrev djL (d : JdS) (a b c e g : Int) : JdS := (d.1, d.2.1, d.2.2.1, (dnl d + 1, upR (dL d) (dnl d) a b c e g), d.2.2.2.2)
/-- a row more -/
abbrev djP (d : JdS) (a b c e g : Int) : JdS := (d.1, d.2.1, d.2.2.1, d.2.2.2.1, (dnp d + 1, upR (dP d) (dnp d) a b c e g), d.2.2.2.2.2)
/-- a row more -/
abbrev djT (d : JdS) (a b c e g : Int) : JdS := (d.1, d.2.1, d.2.2.1, d.2.2.2.1, d.2.2.2.2.1, (dnt d + 1, upR (dT d) (dnt d) a b c e g))
theorem zNJ_W {k : Nat} {d : JdS} {a b c e g : Int} {I L I' L' : ZI} (h : zNJ k d I L) (hc : I' k 4 = (dnw d + 1 : Nat)) (hn : I' (k + 3) (dnw d) = a ∧ L' (k + 4) (4 * dnw d) = b ∧ L' (k + 4) (4 * dnw d + 1) = c ∧ L' (k + 4) (4 * dnw d + 2) = e ∧ L' (k + 4) (4 * dnw d + 3) = g) (ho : (∀ w : Nat, w < dnw d → I' (k + 3) w = I (k + 3) w) ∧ ∀ j : Nat, j < 4 * dnw d → L' (k + 4) j = L (k + 4) j) (hf : ∀ c j : Nat, (k ≤ c ∧ c ≤ k + 17) ∧ ¬ (c = k ∧ (j = 0 ∨ 29 ≤ j ∨ j = 4)) ∧ ¬ c = k + 3 → I' c j = I c j) (hl : ∀ c j : Nat, (k ≤ c ∧ c ≤ k + 17) ∧ ¬ c = k + 4 → L' c j = L c j) : zNJ k (djW d a b c e g) I' L' := by
  obtain ⟨⟨a1, a2, a3, a4, a5, a6, a7⟩, h2, h3, h4, h5, h6, h7, h8, h9, h10⟩ := h
  exact ⟨⟨(hf k 1 (by omega)).trans a1, hc, (hf k 8 (by omega)).trans a3, (hf k 11 (by omega)).trans a4, (hf k 15 (by omega)).trans a5, (hf k 20 (by omega)).trans a6, (hf k 22 (by omega)).trans a7⟩, fun t ht => ⟨(hf (k + 1) t (by omega)).trans (h2 t ht).1, (hf (k + 2) t (by omega)).trans (h2 t ht).2⟩,
    fun w hw => by
      have hw2 : w < dnw d + 1 := hw
      show I' (k + 3) w = upR (dW d) (dnw d) a b c e g w 0 ∧ ∀ i : Nat, i < 4 → L' (k + 4) (4 * w + i) = upR (dW d) (dnw d) a b c e g w (i + 1)
      by_cases q : w = dnw d
      · subst q
        refine ⟨hn.1.trans (if_pos rfl).symm, fun i hi => ?_⟩
        have z : i = 0 ∨ i = 1 ∨ i = 2 ∨ i = 3 := by omega
        rcases z with rfl | rfl | rfl | rfl
        · exact hn.2.1.trans (if_pos rfl).symm
        · exact hn.2.2.1.trans (if_pos rfl).symm
        · exact hn.2.2.2.1.trans (if_pos rfl).symm
        · exact hn.2.2.2.2.trans (if_pos rfl).symm
      · rw [upR_ne q]
        refine ⟨(ho.1 w (by omega)).trans (h3 w (by omega)).1, fun i hi => ?_⟩
        rw [upR_ne q]
        exact (ho.2 _ (by omega)).trans ((h3 w (by omega)).2 i hi),
    fun w hw => (hf (k + 5) w (by omega)).trans (h4 w hw),
    fun j hj => ⟨(hf (k + 6) j (by omega)).trans (h5 j hj).1, (hl (k + 7) _ (by omega)).trans (h5 j hj).2.1, (hl (k + 7) _ (by omega)).trans (h5 j hj).2.2⟩,
    fun l hl' => ⟨(hf (k + 8) l (by omega)).trans (h6 l hl').1, (hf (k + 9) l (by omega)).trans (h6 l hl').2.1, (hl (k + 10) _ (by omega)).trans (h6 l hl').2.2.1, (hl (k + 10) _ (by omega)).trans (h6 l hl').2.2.2⟩,
    fun p hp => ⟨(hf (k + 11) p (by omega)).trans (h7 p hp).1, (hf (k + 12) p (by omega)).trans (h7 p hp).2.1, (hl (k + 13) _ (by omega)).trans (h7 p hp).2.2.1, (hl (k + 13) _ (by omega)).trans (h7 p hp).2.2.2⟩,
    fun p hp => (hf (k + 14) p (by omega)).trans (h8 p hp),
    fun q hq => ⟨(hf (k + 15) _ (by omega)).trans (h9 q hq).1, (hf (k + 15) _ (by omega)).trans (h9 q hq).2.1, (hf (k + 15) _ (by omega)).trans (h9 q hq).2.2⟩,
    fun n hn => (hf (k + 17) n (by omega)).trans (h10 n hn)⟩
theorem zNJ_J {k : Nat} {d : JdS} {a b c e g : Int} {I L I' L' : ZI} (h : zNJ k d I L) (hc : I' k 8 = (dnj d + 1 : Nat)) (hn : I' (k + 6) (dnj d) = a ∧ L' (k + 7) (2 * dnj d) = b ∧ L' (k + 7) (2 * dnj d + 1) = c) (ho : (∀ w : Nat, w < dnj d → I' (k + 6) w = I (k + 6) w) ∧ ∀ j : Nat, j < 2 * dnj d → L' (k + 7) j = L (k + 7) j) (hf : ∀ c j : Nat, (k ≤ c ∧ c ≤ k + 17) ∧ ¬ (c = k ∧ (j = 0 ∨ 29 ≤ j ∨ j = 8)) ∧ ¬ c = k + 6 → I' c j = I c j) (hl : ∀ c j : Nat, (k ≤ c ∧ c ≤ k + 17) ∧ ¬ c = k + 7 → L' c j = L c j) : zNJ k (djJ d a b c e g) I' L' := by
  obtain ⟨⟨a1, a2, a3, a4, a5, a6, a7⟩, h2, h3, h4, h5, h6, h7, h8, h9, h10⟩ := h
  exact ⟨⟨(hf k 1 (by omega)).trans a1, (hf k 4 (by omega)).trans a2, hc, (hf k 11 (by omega)).trans a4, (hf k 15 (by omega)).trans a5, (hf k 20 (by omega)).trans a6, (hf k 22 (by omega)).trans a7⟩, fun t ht => ⟨(hf (k + 1) t (by omega)).trans (h2 t ht).1, (hf (k + 2) t (by omega)).trans (h2 t ht).2⟩,
    fun w hw => ⟨(hf (k + 3) w (by omega)).trans (h3 w hw).1, fun i hi => (hl (k + 4) _ (by omega)).trans ((h3 w hw).2 i hi)⟩,
    fun w hw => (hf (k + 5) w (by omega)).trans (h4 w hw),
    fun w hw => by
      have hw2 : w < dnj d + 1 := hw
      show I' (k + 6) w = upR (dJ d) (dnj d) a b c e g w 0 ∧ L' (k + 7) (2 * w) = upR (dJ d) (dnj d) a b c e g w 1 ∧ L' (k + 7) (2 * w + 1) = upR (dJ d) (dnj d) a b c e g w 2
      by_cases q : w = dnj d
      · subst q
        exact ⟨hn.1.trans (if_pos rfl).symm, hn.2.1.trans (if_pos rfl).symm, hn.2.2.trans (if_pos rfl).symm⟩
      · rw [upR_ne q, upR_ne q, upR_ne q]
        exact ⟨(ho.1 w (by omega)).trans (h5 w (by omega)).1, (ho.2 _ (by omega)).trans (h5 w (by omega)).2.1, (ho.2 _ (by omega)).trans (h5 w (by omega)).2.2⟩,
    fun l hl' => ⟨(hf (k + 8) l (by omega)).trans (h6 l hl').1, (hf (k + 9) l (by omega)).trans (h6 l hl').2.1, (hl (k + 10) _ (by omega)).trans (h6 l hl').2.2.1, (hl (k + 10) _ (by omega)).trans (h6 l hl').2.2.2⟩,
    fun p hp => ⟨(hf (k + 11) p (by omega)).trans (h7 p hp).1, (hf (k + 12) p (by omega)).trans (h7 p hp).2.1, (hl (k + 13) _ (by omega)).trans (h7 p hp).2.2.1, (hl (k + 13) _ (by omega)).trans (h7 p hp).2.2.2⟩,
    fun p hp => (hf (k + 14) p (by omega)).trans (h8 p hp),
    fun q hq => ⟨(hf (k + 15) _ (by omega)).trans (h9 q hq).1, (hf (k + 15) _ (by omega)).trans (h9 q hq).2.1, (hf (k + 15) _ (by omega)).trans (h9 q hq).2.2⟩,
    fun n hn => (hf (k + 17) n (by omega)).trans (h10 n hn)⟩
theorem zNJ_L {k : Nat} {d : JdS} {a b c e g : Int} {I L I' L' : ZI} (h : zNJ k d I L) (hc : I' k 11 = (dnl d + 1 : Nat)) (hn : I' (k + 8) (dnl d) = a ∧ I' (k + 9) (dnl d) = e ∧ L' (k + 10) (2 * dnl d) = b ∧ L' (k + 10) (2 * dnl d + 1) = c) (ho : (∀ w : Nat, w < dnl d → I' (k + 8) w = I (k + 8) w ∧ I' (k + 9) w = I (k + 9) w) ∧ ∀ j : Nat, j < 2 * dnl d → L' (k + 10) j = L (k + 10) j) (hp9 : ∀ q, q < dnp d → 0 ≤ dP d q 0 ∧ dP d q 0 < dnl d) (hf : ∀ c j : Nat, (k ≤ c ∧ c ≤ k + 17) ∧ ¬ (c = k ∧ (j = 0 ∨ 29 ≤ j ∨ j = 11)) ∧ ¬ c = k + 8 ∧ ¬ c = k + 9 → I' c j = I c j) (hl : ∀ c j : Nat, (k ≤ c ∧ c ≤ k + 17) ∧ ¬ c = k + 10 → L' c j = L c j) : zNJ k (djL d a b c e g) I' L' := by
  obtain ⟨⟨a1, a2, a3, a4, a5, a6, a7⟩, h2, h3, h4, h5, h6, h7, h8, h9, h10⟩ := h
  exact ⟨⟨(hf k 1 (by omega)).trans a1, (hf k 4 (by omega)).trans a2, (hf k 8 (by omega)).trans a3, hc, (hf k 15 (by omega)).trans a5, (hf k 20 (by omega)).trans a6, (hf k 22 (by omega)).trans a7⟩, fun t ht => ⟨(hf (k + 1) t (by omega)).trans (h2 t ht).1, (hf (k + 2) t (by omega)).trans (h2 t ht).2⟩,
    fun w hw => ⟨(hf (k + 3) w (by omega)).trans (h3 w hw).1, fun i hi => (hl (k + 4) _ (by omega)).trans ((h3 w hw).2 i hi)⟩,
    fun w hw => (hf (k + 5) w (by omega)).trans (h4 w hw),
    fun j hj => ⟨(hf (k + 6) j (by omega)).trans (h5 j hj).1, (hl (k + 7) _ (by omega)).trans (h5 j hj).2.1, (hl (k + 7) _ (by omega)).trans (h5 j hj).2.2⟩,
    fun w hw => by
      have hw2 : w < dnl d + 1 := hw
      show I' (k + 8) w = upR (dL d) (dnl d) a b c e g w 0 ∧ I' (k + 9) w = upR (dL d) (dnl d) a b c e g w 3 ∧ L' (k + 10) (2 * w) = upR (dL d) (dnl d) a b c e g w 1 ∧ L' (k + 10) (2 * w + 1) = upR (dL d) (dnl d) a b c e g w 2
      by_cases q : w = dnl d
      · subst q
        exact ⟨hn.1.trans (if_pos rfl).symm, hn.2.1.trans (if_pos rfl).symm, hn.2.2.1.trans (if_pos rfl).symm, hn.2.2.2.trans (if_pos rfl).symm⟩
      · rw [upR_ne q, upR_ne q, upR_ne q, upR_ne q]
        exact ⟨(ho.1 w (by omega)).1.trans (h6 w (by omega)).1, (ho.1 w (by omega)).2.trans (h6 w (by omega)).2.1, (ho.2 _ (by omega)).trans (h6 w (by omega)).2.2.1, (ho.2 _ (by omega)).trans (h6 w (by omega)).2.2.2⟩,
    fun p hp => ⟨(hf (k + 11) p (by omega)).trans (h7 p hp).1, (hf (k + 12) p (by omega)).trans (h7 p hp).2.1, (hl (k + 13) _ (by omega)).trans (h7 p hp).2.2.1, (hl (k + 13) _ (by omega)).trans (h7 p hp).2.2.2⟩,
    fun p hp => (hf (k + 14) p (by omega)).trans (h8 p hp),
    fun q hq => by
      have w := h9 q hq
      show I' (k + 15) (3 * q) = dP d q 1 ∧ I' (k + 15) (3 * q + 1) = dP d q 0 ∧ I' (k + 15) (3 * q + 2) = upR (dL d) (dnl d) a b c e g (dP d q 0).toNat 3
      rw [upR_ne (by have := hp9 q hq; omega)]
      exact ⟨(hf (k + 15) _ (by omega)).trans w.1, (hf (k + 15) _ (by omega)).trans w.2.1, (hf (k + 15) _ (by omega)).trans w.2.2⟩,
    fun n hn => (hf (k + 17) n (by omega)).trans (h10 n hn)⟩
theorem zNJ_T {k : Nat} {d : JdS} {a b c e g : Int} {I L I' L' : ZI} (h : zNJ k d I L) (hc : I' k 15 = (dnt d + 1 : Nat)) (hn : I' (k + 11) (dnt d) = a ∧ I' (k + 12) (dnt d) = e ∧ L' (k + 13) (2 * dnt d) = b ∧ L' (k + 13) (2 * dnt d + 1) = c) (ho : (∀ w : Nat, w < dnt d → I' (k + 11) w = I (k + 11) w ∧ I' (k + 12) w = I (k + 12) w) ∧ ∀ j : Nat, j < 2 * dnt d → L' (k + 13) j = L (k + 13) j) (hf : ∀ c j : Nat, (k ≤ c ∧ c ≤ k + 17) ∧ ¬ (c = k ∧ (j = 0 ∨ 29 ≤ j ∨ j = 15)) ∧ ¬ c = k + 11 ∧ ¬ c = k + 12 → I' c j = I c j) (hl : ∀ c j : Nat, (k ≤ c ∧ c ≤ k + 17) ∧ ¬ c = k + 13 → L' c j = L c j) : zNJ k (djT d a b c e g) I' L' := by
  obtain ⟨⟨a1, a2, a3, a4, a5, a6, a7⟩, h2, h3, h4, h5, h6, h7, h8, h9, h10⟩ := h
  exact ⟨⟨(hf k 1 (by omega)).trans a1, (hf k 4 (by omega)).trans a2, (hf k 8 (by omega)).trans a3, (hf k 11 (by omega)).trans a4, hc, (hf k 20 (by omega)).trans a6, (hf k 22 (by omega)).trans a7⟩, fun t ht => ⟨(hf (k + 1) t (by omega)).trans (h2 t ht).1, (hf (k + 2) t (by omega)).trans (h2 t ht).2⟩,
    fun w hw => ⟨(hf (k + 3) w (by omega)).trans (h3 w hw).1, fun i hi => (hl (k + 4) _ (by omega)).trans ((h3 w hw).2 i hi)⟩,
    fun w hw => (hf (k + 5) w (by omega)).trans (h4 w hw),
    fun j hj => ⟨(hf (k + 6) j (by omega)).trans (h5 j hj).1, (hl (k + 7) _ (by omega)).trans (h5 j hj).2.1, (hl (k + 7) _ (by omega)).trans (h5 j hj).2.2⟩,
    fun l hl' => ⟨(hf (k + 8) l (by omega)).trans (h6 l hl').1, (hf (k + 9) l (by omega)).trans (h6 l hl').2.1, (hl (k + 10) _ (by omega)).trans (h6 l hl').2.2.1, (hl (k + 10) _ (by omega)).trans (h6 l hl').2.2.2⟩,
    fun w hw => by
      have hw2 : w < dnt d + 1 := hw
      show I' (k + 11) w = upR (dT d) (dnt d) a b c e g w 0 ∧ I' (k + 12) w = upR (dT d) (dnt d) a b c e g w 3 ∧ L' (k + 13) (2 * w) = upR (dT d) (dnt d) a b c e g w 1 ∧ L' (k + 13) (2 * w + 1) = upR (dT d) (dnt d) a b c e g w 2
      by_cases q : w = dnt d
      · subst q
        exact ⟨hn.1.trans (if_pos rfl).symm, hn.2.1.trans (if_pos rfl).symm, hn.2.2.1.trans (if_pos rfl).symm, hn.2.2.2.trans (if_pos rfl).symm⟩
      · rw [upR_ne q, upR_ne q, upR_ne q, upR_ne q]
        exact ⟨(ho.1 w (by omega)).1.trans (h7 w (by omega)).1, (ho.1 w (by omega)).2.trans (h7 w (by omega)).2.1, (ho.2 _ (by omega)).trans (h7 w (by omega)).2.2.1, (ho.2 _ (by omega)).trans (h7 w (by omega)).2.2.2⟩,
    fun p hp => (hf (k + 14) p (by omega)).trans (h8 p hp),
    fun q hq => ⟨(hf (k + 15) _ (by omega)).trans (h9 q hq).1, (hf (k + 15) _ (by omega)).trans (h9 q hq).2.1, (hf (k + 15) _ (by omega)).trans (h9 q hq).2.2⟩,
    fun n hn => (hf (k + 17) n (by omega)).trans (h10 n hn)⟩
theorem zNJ_P {k : Nat} {d : JdS} {a b c e g : Int} {I L I' L' : ZI} (h : zNJ k d I L) (hc : I' k 20 = (dnp d + 1 : Nat)) (hn : I' (k + 15) (3 * dnp d) = b ∧ I' (k + 15) (3 * dnp d + 1) = a ∧ I' (k + 15) (3 * dnp d + 2) = dL d a.toNat 3) (ho : ∀ j : Nat, j < 3 * dnp d → I' (k + 15) j = I (k + 15) j) (hf : ∀ c j : Nat, (k ≤ c ∧ c ≤ k + 17) ∧ ¬ (c = k ∧ (j = 0 ∨ 29 ≤ j ∨ j = 20)) ∧ ¬ c = k + 15 → I' c j = I c j) (hl : ∀ c j : Nat, (k ≤ c ∧ c ≤ k + 17) → L' c j = L c j) : zNJ k (djP d a b c e g) I' L' := by
  obtain ⟨⟨a1, a2, a3, a4, a5, a6, a7⟩, h2, h3, h4, h5, h6, h7, h8, h9, h10⟩ := h
  exact ⟨⟨(hf k 1 (by omega)).trans a1, (hf k 4 (by omega)).trans a2, (hf k 8 (by omega)).trans a3, (hf k 11 (by omega)).trans a4, (hf k 15 (by omega)).trans a5, hc, (hf k 22 (by omega)).trans a7⟩, fun t ht => ⟨(hf (k + 1) t (by omega)).trans (h2 t ht).1, (hf (k + 2) t (by omega)).trans (h2 t ht).2⟩,
    fun w hw => ⟨(hf (k + 3) w (by omega)).trans (h3 w hw).1, fun i hi => (hl (k + 4) _ (by omega)).trans ((h3 w hw).2 i hi)⟩,
    fun w hw => (hf (k + 5) w (by omega)).trans (h4 w hw),
    fun j hj => ⟨(hf (k + 6) j (by omega)).trans (h5 j hj).1, (hl (k + 7) _ (by omega)).trans (h5 j hj).2.1, (hl (k + 7) _ (by omega)).trans (h5 j hj).2.2⟩,
    fun l hl' => ⟨(hf (k + 8) l (by omega)).trans (h6 l hl').1, (hf (k + 9) l (by omega)).trans (h6 l hl').2.1, (hl (k + 10) _ (by omega)).trans (h6 l hl').2.2.1, (hl (k + 10) _ (by omega)).trans (h6 l hl').2.2.2⟩,
    fun p hp => ⟨(hf (k + 11) p (by omega)).trans (h7 p hp).1, (hf (k + 12) p (by omega)).trans (h7 p hp).2.1, (hl (k + 13) _ (by omega)).trans (h7 p hp).2.2.1, (hl (k + 13) _ (by omega)).trans (h7 p hp).2.2.2⟩,
    fun p hp => (hf (k + 14) p (by omega)).trans (h8 p hp),
    fun w hw => by
      have hw2 : w < dnp d + 1 := hw
      show I' (k + 15) (3 * w) = upR (dP d) (dnp d) a b c e g w 1 ∧ I' (k + 15) (3 * w + 1) = upR (dP d) (dnp d) a b c e g w 0 ∧ I' (k + 15) (3 * w + 2) = dL d (upR (dP d) (dnp d) a b c e g w 0).toNat 3
      by_cases q : w = dnp d
      · subst q
        have e0 : upR (dP d) (dnp d) a b c e g (dnp d) 0 = a := if_pos rfl
        rw [e0]
        exact ⟨hn.1.trans (if_pos rfl).symm, hn.2.1, hn.2.2⟩
      · rw [upR_ne q, upR_ne q]
        exact ⟨(ho _ (by omega)).trans (h9 w (by omega)).1, (ho _ (by omega)).trans (h9 w (by omega)).2.1, (ho _ (by omega)).trans (h9 w (by omega)).2.2⟩,
    fun n hn => (hf (k + 17) n (by omega)).trans (h10 n hn)⟩
theorem jGd_W {d : JdS} {a b c e g : Int} (h : jGd d) (ha : (0 ≤ a ∧ a < dns d ∧ dbs d a.toNat = a) ∧ jFar b ∧ jFar c ∧ jFar e ∧ jFar g) (hr : dnw d < 100) : jGd (djW d a b c e g) := by
  obtain ⟨⟨g1, g2, g3, g4, g5, g6⟩, gs, gw, gj, gl, gp, gt⟩ := h
  exact ⟨⟨g1, by show dnw d + 1 ≤ 100; omega, g3, g4, g5, g6⟩, gs, fun w hw => by
    have hw2 : w < dnw d + 1 := hw
    show (0 ≤ upR (dW d) (dnw d) a b c e g w 0 ∧ upR (dW d) (dnw d) a b c e g w 0 < dns d ∧ dbs d (upR (dW d) (dnw d) a b c e g w 0).toNat = upR (dW d) (dnw d) a b c e g w 0) ∧ ∀ i, 1 ≤ i → i ≤ 4 → jFar (upR (dW d) (dnw d) a b c e g w i)
    by_cases q : w = dnw d
    · subst q
      have e0 : upR (dW d) (dnw d) a b c e g (dnw d) 0 = a := if_pos rfl
      rw [e0]
      refine ⟨ha.1, fun i h1 h2 => ?_⟩
      have z : i = 1 ∨ i = 2 ∨ i = 3 ∨ i = 4 := by omega
      rcases z with rfl | rfl | rfl | rfl
      · rw [show upR (dW d) (dnw d) a b c e g (dnw d) 1 = b from if_pos rfl]; exact ha.2.1
      · rw [show upR (dW d) (dnw d) a b c e g (dnw d) 2 = c from if_pos rfl]; exact ha.2.2.1
      · rw [show upR (dW d) (dnw d) a b c e g (dnw d) 3 = e from if_pos rfl]; exact ha.2.2.2.1
      · rw [show upR (dW d) (dnw d) a b c e g (dnw d) 4 = g from if_pos rfl]; exact ha.2.2.2.2
    · rw [upR_ne q]
      have w9 := gw w (by omega)
      exact ⟨w9.1, fun i h1 h2 => by rw [upR_ne q]; exact w9.2 i h1 h2⟩,
    gj,
    gl,
    gp,
    gt⟩
theorem jGd_J {d : JdS} {a b c e g : Int} (h : jGd d) (ha : (0 ≤ a ∧ a < dns d) ∧ jFar b ∧ jFar c) (hr : dnj d < 50) : jGd (djJ d a b c e g) := by
  obtain ⟨⟨g1, g2, g3, g4, g5, g6⟩, gs, gw, gj, gl, gp, gt⟩ := h
  exact ⟨⟨g1, g2, by show dnj d + 1 ≤ 50; omega, g4, g5, g6⟩, gs, gw,
    fun w hw => by
    have hw2 : w < dnj d + 1 := hw
    show (0 ≤ upR (dJ d) (dnj d) a b c e g w 0 ∧ upR (dJ d) (dnj d) a b c e g w 0 < dns d) ∧ jFar (upR (dJ d) (dnj d) a b c e g w 1) ∧ jFar (upR (dJ d) (dnj d) a b c e g w 2)
    by_cases q : w = dnj d
    · subst q
      rw [show upR (dJ d) (dnj d) a b c e g (dnj d) 0 = a from if_pos rfl, show upR (dJ d) (dnj d) a b c e g (dnj d) 1 = b from if_pos rfl, show upR (dJ d) (dnj d) a b c e g (dnj d) 2 = c from if_pos rfl]
      exact ha
    · rw [upR_ne q, upR_ne q, upR_ne q]
      exact gj w (by omega),
    gl,
    gp,
    gt⟩
theorem jGd_L {d : JdS} {a b c e g : Int} (h : jGd d) (ha : (0 ≤ a ∧ a < dns d ∧ dbs d a.toNat = a) ∧ jFar b ∧ jFar c ∧ 0 ≤ e ∧ e < 1000) (hr : dnl d < 60) : jGd (djL d a b c e g) := by
  obtain ⟨⟨g1, g2, g3, g4, g5, g6⟩, gs, gw, gj, gl, gp, gt⟩ := h
  exact ⟨⟨g1, g2, g3, by show dnl d + 1 ≤ 60; omega, g5, g6⟩, gs, gw,
    gj,
    fun w hw => by
    have hw2 : w < dnl d + 1 := hw
    show (0 ≤ upR (dL d) (dnl d) a b c e g w 0 ∧ upR (dL d) (dnl d) a b c e g w 0 < dns d ∧ dbs d (upR (dL d) (dnl d) a b c e g w 0).toNat = upR (dL d) (dnl d) a b c e g w 0) ∧ jFar (upR (dL d) (dnl d) a b c e g w 1) ∧ jFar (upR (dL d) (dnl d) a b c e g w 2) ∧ 0 ≤ upR (dL d) (dnl d) a b c e g w 3 ∧ upR (dL d) (dnl d) a b c e g w 3 < 1000
    by_cases q : w = dnl d
    · subst q
      rw [show upR (dL d) (dnl d) a b c e g (dnl d) 0 = a from if_pos rfl, show upR (dL d) (dnl d) a b c e g (dnl d) 1 = b from if_pos rfl, show upR (dL d) (dnl d) a b c e g (dnl d) 2 = c from if_pos rfl, show upR (dL d) (dnl d) a b c e g (dnl d) 3 = e from if_pos rfl]
      exact ha
    · rw [upR_ne q, upR_ne q, upR_ne q, upR_ne q]
      exact gl w (by omega),
    fun w hw => by
    have k9 := gp w hw
    show (0 ≤ dP d w 0 ∧ dP d w 0 < (dnl d + 1 : Nat)) ∧ (0 ≤ dP d w 1 ∧ dP d w 1 < dns d) ∧ upR (dL d) (dnl d) a b c e g (dP d w 0).toNat 0 = dbs d (dP d w 1).toNat ∧ 0 ≤ dpr d (dP d w 1).toNat
    rw [upR_ne (by omega)]
    exact ⟨by omega, k9.2⟩,
    gt⟩
theorem jGd_T {d : JdS} {a b c e g : Int} (h : jGd d) (ha : (0 ≤ a ∧ a < dns d ∧ dbs d a.toNat = a) ∧ jFar b ∧ jFar c) (hr : dnt d < 60) : jGd (djT d a b c e g) := by
  obtain ⟨⟨g1, g2, g3, g4, g5, g6⟩, gs, gw, gj, gl, gp, gt⟩ := h
  exact ⟨⟨g1, g2, g3, g4, g5, by show dnt d + 1 ≤ 60; omega⟩, gs, gw,
    gj,
    gl,
    gp,
    fun w hw => by
    have hw2 : w < dnt d + 1 := hw
    show (0 ≤ upR (dT d) (dnt d) a b c e g w 0 ∧ upR (dT d) (dnt d) a b c e g w 0 < dns d ∧ dbs d (upR (dT d) (dnt d) a b c e g w 0).toNat = upR (dT d) (dnt d) a b c e g w 0) ∧ jFar (upR (dT d) (dnt d) a b c e g w 1) ∧ jFar (upR (dT d) (dnt d) a b c e g w 2)
    by_cases q : w = dnt d
    · subst q
      rw [show upR (dT d) (dnt d) a b c e g (dnt d) 0 = a from if_pos rfl, show upR (dT d) (dnt d) a b c e g (dnt d) 1 = b from if_pos rfl, show upR (dT d) (dnt d) a b c e g (dnt d) 2 = c from if_pos rfl]
      exact ha
    · rw [upR_ne q, upR_ne q, upR_ne q]
      exact gt w (by omega)⟩
theorem jGd_P {d : JdS} {a b c e g : Int} (h : jGd d) (ha : (0 ≤ a ∧ a < dnl d) ∧ (0 ≤ b ∧ b < dns d) ∧ dL d a.toNat 0 = dbs d b.toNat ∧ 0 ≤ dpr d b.toNat) (hr : dnp d < 30) : jGd (djP d a b c e g) := by
  obtain ⟨⟨g1, g2, g3, g4, g5, g6⟩, gs, gw, gj, gl, gp, gt⟩ := h
  exact ⟨⟨g1, g2, g3, g4, by show dnp d + 1 ≤ 30; omega, g6⟩, gs, gw,
    gj,
    gl,
    fun w hw => by
    have hw2 : w < dnp d + 1 := hw
    show (0 ≤ upR (dP d) (dnp d) a b c e g w 0 ∧ upR (dP d) (dnp d) a b c e g w 0 < dnl d) ∧ (0 ≤ upR (dP d) (dnp d) a b c e g w 1 ∧ upR (dP d) (dnp d) a b c e g w 1 < dns d) ∧ dL d (upR (dP d) (dnp d) a b c e g w 0).toNat 0 = dbs d (upR (dP d) (dnp d) a b c e g w 1).toNat ∧ 0 ≤ dpr d (upR (dP d) (dnp d) a b c e g w 1).toNat
    by_cases q : w = dnp d
    · subst q
      rw [show upR (dP d) (dnp d) a b c e g (dnp d) 0 = a from if_pos rfl, show upR (dP d) (dnp d) a b c e g (dnp d) 1 = b from if_pos rfl]
      exact ha
    · rw [upR_ne q, upR_ne q]
      exact gp w (by omega),
    gt⟩
/-- what is drawn more, where there is room and it can be -/
def djWs (d : JdS) (a b c e g : Int) : JdS := if (b ≠ e ∨ c ≠ g) ∧ dnw d < 100 then djW d a b c e g else d
noncomputable def djJs (d : JdS) (a b c : Int) : JdS := @ite JdS (dnj d < 50 ∧ ∀ j, j < dnj d → ¬ (dJ d j 0 = a ∧ dJ d j 1 = b ∧ dJ d j 2 = c)) (Classical.propDecidable _) (djJ d a b c 0 0) d
def djLs (d : JdS) (a b c e : Int) : JdS := if dnl d < 60 then djL d a b c e 0 else d
noncomputable def djTs (d : JdS) (a b c e : Int) : JdS := @ite JdS (dnt d < 60 ∧ ∀ p, p < dnt d → ¬ (dT d p 0 = a ∧ dT d p 3 = e ∧ dT d p 1 = b ∧ dT d p 2 = c)) (Classical.propDecidable _) (djT d a b c e 0) d
def djPs (d : JdS) (a b : Int) : JdS := if dnp d < 30 then djP d a b 0 0 0 else d
def djS (d : JdS) (p o : Int) : JdS := ((dns d + 1, upF (dbs d) (dns d) (if o = -1 then dns d else o.toNat), upF (dpr d) (dns d) p), d.2)
theorem zNJ_S {k : Nat} {d : JdS} {p o : Int} {I L I' L' : ZI} (h : zNJ k d I L) (hc : I' k 1 = (dns d + 1 : Nat)) (hn : I' (k + 1) (dns d) = p ∧ I' (k + 2) (dns d) = (if o = -1 then dns d else o.toNat : Nat)) (ho : ∀ t : Nat, t < dns d → I' (k + 1) t = I (k + 1) t ∧ I' (k + 2) t = I (k + 2) t)
    (hf : ∀ c j : Nat, (k ≤ c ∧ c ≤ k + 17) ∧ ¬ (c = k ∧ (j = 0 ∨ 29 ≤ j ∨ j = 1)) ∧ ¬ c = k + 1 ∧ ¬ c = k + 2 → I' c j = I c j) (hl : ∀ c j : Nat, k ≤ c ∧ c ≤ k + 17 → L' c j = L c j) : zNJ k (djS d p o) I' L' := by
  obtain ⟨⟨a1, a2, a3, a4, a5, a6, a7⟩, h2, h3, h4, h5, h6, h7, h8, h9, h10⟩ := h
  exact ⟨⟨hc, (hf k 4 (by omega)).trans a2, (hf k 8 (by omega)).trans a3, (hf k 11 (by omega)).trans a4, (hf k 15 (by omega)).trans a5, (hf k 20 (by omega)).trans a6, (hf k 22 (by omega)).trans a7⟩,
    fun t ht => by
      have ht2 : t < dns d + 1 := ht
      show I' (k + 1) t = upF (dpr d) (dns d) p t ∧ I' (k + 2) t = ((upF (dbs d) (dns d) (if o = -1 then dns d else o.toNat) t : Nat) : Int)
      by_cases q : t = dns d
      · subst q
        rw [upF_at, upF_at]
        exact hn
      · rw [upF_ne q, upF_ne q]
        exact ⟨(ho t (by omega)).1.trans (h2 t (by omega)).1, (ho t (by omega)).2.trans (h2 t (by omega)).2⟩,
    fun w hw => ⟨(hf (k + 3) w (by omega)).trans (h3 w hw).1, fun i hi => (hl (k + 4) _ (by omega)).trans ((h3 w hw).2 i hi)⟩,
    fun w hw => (hf (k + 5) w (by omega)).trans (h4 w hw), fun j hj => ⟨(hf (k + 6) j (by omega)).trans (h5 j hj).1, (hl (k + 7) _ (by omega)).trans (h5 j hj).2.1, (hl (k + 7) _ (by omega)).trans (h5 j hj).2.2⟩,
    fun l hl' => ⟨(hf (k + 8) l (by omega)).trans (h6 l hl').1, (hf (k + 9) l (by omega)).trans (h6 l hl').2.1, (hl (k + 10) _ (by omega)).trans (h6 l hl').2.2.1, (hl (k + 10) _ (by omega)).trans (h6 l hl').2.2.2⟩,
    fun p hp => ⟨(hf (k + 11) p (by omega)).trans (h7 p hp).1, (hf (k + 12) p (by omega)).trans (h7 p hp).2.1, (hl (k + 13) _ (by omega)).trans (h7 p hp).2.2.1, (hl (k + 13) _ (by omega)).trans (h7 p hp).2.2.2⟩,
    fun p hp => (hf (k + 14) p (by omega)).trans (h8 p hp), fun q hq => ⟨(hf (k + 15) _ (by omega)).trans (h9 q hq).1, (hf (k + 15) _ (by omega)).trans (h9 q hq).2.1, (hf (k + 15) _ (by omega)).trans (h9 q hq).2.2⟩, fun n hn => (hf (k + 17) n (by omega)).trans (h10 n hn)⟩
theorem jGd_S {d : JdS} {p o : Int} (h : jGd d) (hr : dns d < 16) (hp : -1 ≤ p ∧ p < dns d) (ho : o = -1 ∨ (0 ≤ o ∧ o < dns d ∧ dbs d o.toNat = o)) : jGd (djS d p o) := by
  obtain ⟨⟨g1, g2, g3, g4, g5, g6⟩, gs, gw, gj, gl, gp, gt⟩ := h
  have eb : ∀ t, dbs (djS d p o) t = upF (dbs d) (dns d) (if o = -1 then dns d else o.toNat) t := fun _ => rfl
  have ep : ∀ t, dpr (djS d p o) t = upF (dpr d) (dns d) p t := fun _ => rfl
  have hb : ∀ a : Int, (0 ≤ a ∧ a < dns d ∧ dbs d a.toNat = a) → 0 ≤ a ∧ a < (dns d + 1 : Nat) ∧ dbs (djS d p o) a.toNat = a := fun a w => by
    rw [eb, upF_ne (by omega)]
    omega
  refine ⟨⟨by show dns d + 1 ≤ 16; omega, g2, g3, g4, g5, g6⟩, fun t ht => ?_, fun w hw => ⟨hb _ (gw w hw).1, (gw w hw).2⟩, fun j hj => ⟨⟨(gj j hj).1.1, by have := (gj j hj).1.2; show dJ d j 0 < (dns d + 1 : Nat); omega⟩, (gj j hj).2⟩, fun l hl => ⟨hb _ (gl l hl).1, (gl l hl).2⟩, fun q hq => ?_, fun q hq => ⟨hb _ (gt q hq).1, (gt q hq).2⟩⟩
  · have ht2 : t < dns d + 1 := ht
    rw [eb, ep, eb]
    by_cases e : t = dns d
    · subst e
      rw [upF_at, upF_at]
      by_cases e2 : o = -1
      · rw [if_pos e2, upF_at]
        omega
      · rw [if_neg e2]
        have w := ho.resolve_left e2
        rw [upF_ne (by omega)]
        omega
    · rw [upF_ne e, upF_ne e]
      have w := gs t (by omega)
      rw [upF_ne (by omega)]
      exact w
  · have w := gp q hq
    have e1 : dP (djS d p o) q 1 = dP d q 1 := rfl
    rw [e1, eb, ep, upF_ne (by omega), upF_ne (by omega)]
    exact ⟨w.1, by have := w.2.1; show 0 ≤ dP d q 1 ∧ dP d q 1 < (dns d + 1 : Nat); omega, w.2.2⟩
