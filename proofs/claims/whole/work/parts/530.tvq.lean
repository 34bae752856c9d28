/-! A TEXT READ by the reference -/
def zVQ (k : Nat) (c : Nat → Int) (n b : Nat) (v : Int) (I L : ZI) : Prop := ∃ t, tRe c n b t ∧ tyE n b t ∧ ((tyZ c n b t ≠ -1 ∧ v = -1 - tyZ c n b t) ∨ (tyZ c n b t = -1 ∧ v = tyn t ∧ zVO k c n b 1 t I L ∧ I k 4 = tyn t ∧ I k 13 = tyk t ∧ I k 14 = tyx t ∧ I k 27 = 1))
theorem tyE_x {n b : Nat} {s : TyS} (h : tyE n b s) (hf : tyf s = -1) : tyn s ≠ 0 := by
  rcases h with h | h | h
  · exact absurd hf h
  · exact h.2.2
  · exact h.2.2
theorem tyZ_x {c : Nat → Int} {n b : Nat} {s : TyS} (h : tyZ c n b s = -1) : tyf s = -1 := Classical.byContradiction (fun w => w ((tyZ_f w).symm.trans h))
theorem zVQ_f {k : Nat} {c : Nat → Int} {n b : Nat} {mk v : Int} {I L I' L' : ZI} (h : zVF k c n b mk I L) (hf : I k 18 ≠ -1) (hv : v = -1 - I k 18) : zVQ k c n b v I' L' := by
  obtain ⟨t, t1, t2, t3, t4⟩ := h
  exact ⟨t, t1, t2, Or.inl ⟨by omega, by omega⟩⟩
theorem zVQ_g {k : Nat} {c : Nat → Int} {n b : Nat} {mk v : Int} {I L I1 L1 I' L' : ZI} (h : zVF k c n b mk I L) (hf : I k 18 = -1) (h1 : zVF k c n b 1 I1 L1) (hv : v = I1 k 17) (h4 : I' k 4 = I1 k 17) (h13 : I' k 13 = I1 k 22) (h14 : I' k 14 = I1 k 16) (h27 : I' k 27 = 1) (hfr : ∀ x j : Nat, (x = k ∧ (j = 16 ∨ j = 17 ∨ j = 22)) ∨ (k + 2 ≤ x ∧ x ≤ k + 11) → I' x j = I1 x j) (hl : ∀ x j : Nat, x = k + 4 → L' x j = L1 x j) : zVQ k c n b v I' L' := by
  obtain ⟨t, t1, t2, t3, t4⟩ := h
  obtain ⟨u, u1, u2, u3, u4⟩ := h1
  have e : t = u := tRe_u t1 u1 t2 u2
  subst e
  have hz : tyZ c n b t = -1 := t3.symm.trans hf
  have w := u4 hz
  refine ⟨t, t1, t2, Or.inr ⟨hz, hv.trans w.1.1, zVO_fr w hfr hl, h4.trans w.1.1, h13.trans w.1.2.1, h14.trans (w.1.2.2 (tyE_x t2 (tyZ_x hz))), h27⟩⟩
theorem zVQ_n {k : Nat} {c : Nat → Int} {n b : Nat} {mk : Int} {I L I1 L1 : ZI} (h : zVF k c n b mk I L) (hf : I k 18 = -1) (h1 : zVF k c n b 1 I1 L1) : 0 ≤ I1 k 17 := by
  obtain ⟨t, t1, t2, t3, t4⟩ := h
  obtain ⟨u, u1, u2, u3, u4⟩ := h1
  have e : t = u := tRe_u t1 u1 t2 u2
  subst e
  have w := (u4 (t3.symm.trans hf)).1.1
  omega
