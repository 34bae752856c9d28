/-! fx: SCRIPTS: the reference's machine: what holds all the way -/
def mKp (lim : Nat) (x : MsT) : Prop := x.2.1 ≤ lim ∧ x.2.2.1.1 ≤ 1
theorem mRa_kp {lim : Nat} {k p v : Int} {x : MsT} (h : mKp lim x) : mKp lim (mRa k p v x) := by
  unfold mRa
  split
  · exact h
  · exact ⟨h.1, Nat.le_refl 1⟩
theorem kp_if {lim : Nat} {c : Prop} [Decidable c] {a b : MsT} (ha : mKp lim a) (hb : mKp lim b) : mKp lim (if c then a else b) := by
  by_cases q : c
  · rw [if_pos q]; exact ha
  · rw [if_neg q]; exact hb
theorem mAc_kp {lim i : Nat} {o : OrT} {u : Nat → Int} {x : MsT} (h : mKp lim x) : mKp lim (mAc i o u x) := by
  unfold mAc
  repeat' (first | exact h | exact mRa_kp h | refine kp_if ?_ ?_)
theorem mSt_kp {R : Nat → OrT} {u : Nat → Int} {lim : Nat} {x : MsT} (h : mKp lim x) : mKp lim (mSt R u lim x) := by
  unfold mSt
  dsimp only
  by_cases hd : x.2.2.1.1 = 1
  · rw [if_pos hd]; exact h
  · rw [if_neg hd]
    by_cases h1 : (R x.2.2.2.2.1.toNat).1 = 20
    · rw [if_pos h1]; exact ⟨h.1, Nat.le_refl 1⟩
    · rw [if_neg h1]
      by_cases h2 : (R x.2.2.2.2.1.toNat).1 = 17
      · rw [if_pos h2]; exact h
      · rw [if_neg h2]
        by_cases h3 : (R x.2.2.2.2.1.toNat).1 = 19
        · rw [if_pos h3]; exact h
        · rw [if_neg h3]
          by_cases h4 : (R x.2.2.2.2.1.toNat).1 = 8
          · rw [if_pos h4]; exact h
          · rw [if_neg h4]
            by_cases h5 : (R x.2.2.2.2.1.toNat).1 = 10
            · rw [if_pos h5]; exact h
            · rw [if_neg h5]
              by_cases h6 : (R x.2.2.2.2.1.toNat).1 = 11
              · rw [if_pos h6]
                split
                · split
                  · exact h
                  · exact mRa_kp h
                · exact h
              · rw [if_neg h6]
                by_cases h7 : x.2.1 = lim
                · rw [if_pos h7]; exact ⟨h.1, Nat.le_refl 1⟩
                · rw [if_neg h7]
                  exact mAc_kp ⟨by have := h.1; show x.2.1 + 1 ≤ lim; omega, h.2⟩
theorem itN_kp {R : Nat → OrT} {u : Nat → Int} {lim : Nat} : ∀ {k : Nat} {x : MsT}, mKp lim x → mKp lim (itN (mSt R u lim) k x)
  | 0, _, h => h
  | k + 1, x, h => itN_kp (k := k) (mSt_kp h)
