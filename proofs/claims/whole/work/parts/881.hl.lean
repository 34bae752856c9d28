
/-- asks of the board, of the drawing, of the cut: the reference's objects keep what is wanted -/
theorem lwB_g {σ : LwS} {I L I' : ZI} {R : ZR} {S : ZS} {g : Nat} (h : lwB σ I L R S) (hg : R 165 12 = some g) (g3 : 302 ≤ g) (hf : ∀ c j : Nat, ¬ (c = g ∧ j = 0) → I' c j = I c j) : lwB σ I' L R S := by
  obtain ⟨D1, D2, D3, D4, D5⟩ := h.2.1.2.2
  refine lwB_s h (fun c j q => by rcases q with q | q | q | q | q | q | q | q <;> exact hf c j (by omega)) (fun _ _ _ => rfl) (by rw [hf _ _ (by omega)]; exact h.2.2.2.2.2.2.1.1.2.1) (fun j q => by rw [hf _ _ (by omega)]; exact h.2.2.2.2.2.2.1.1.2.2 j q) (fun q w1 w => ⟨fun c j y => hf c j (by have := D2 g q hg w1; omega), fun c j y => rfl⟩) (fun g' q w0 _ w1 w2 => ⟨fun c j y => hf c j (by have e : g = g' := Option.some.inj (hg.symm.trans w0); omega), fun c j y => rfl⟩) (fun q w0 w => ⟨fun c j y => hf c j (by have := D1 g q hg w0; omega), fun c j y => rfl⟩)
theorem lwB_q {σ : LwS} {I L I' : ZI} {R : ZR} {S : ZS} {q : Nat} (h : lwB σ I L R S) (hq : R 165 7 = some q) (q3 : 302 ≤ q) (hf : ∀ c j : Nat, ¬ (c = q ∧ j = 0) → I' c j = I c j) : lwB σ I' L R S := by
  obtain ⟨D1, D2, D3, D4, D5⟩ := h.2.1.2.2
  refine lwB_s h (fun c j w => by rcases w with w | w | w | w | w | w | w | w <;> exact hf c j (by omega)) (fun _ _ _ => rfl) (by rw [hf _ _ (by omega)]; exact h.2.2.2.2.2.2.1.1.2.1) (fun j w => by rw [hf _ _ (by omega)]; exact h.2.2.2.2.2.2.1.1.2.2 j w) (fun q' w1 w => ⟨fun c j y => hf c j (by have e : q = q' := Option.some.inj (hq.symm.trans w1); omega), fun c j y => rfl⟩) (fun g p w0 w00 w1 w2 => ⟨fun c j y => hf c j (by have := D2 g q w0 hq; have := D5 p q w00 hq; omega), fun c j y => rfl⟩) (fun c' w0 w => ⟨fun c j y => hf c j (by have := D3 c' q w0 hq; omega), fun c j y => rfl⟩)
/-- the latest cut's copper asked -/
theorem lwB_c {σ : LwS} {I L I' L' : ZI} {R : ZR} {S : ZS} {q : Nat} (h : lwB σ I L R S) (hq : R 165 31 = some q) (q3 : 302 ≤ q) (hf : ∀ c j : Nat, ¬ ((c = q ∧ j ≠ 2) ∨ (q + 11 ≤ c ∧ c ≤ q + 13) ∨ (c = q + 14 ∧ j = 0)) → I' c j = I c j) (hl : ∀ c j : Nat, ¬ c = q → L' c j = L c j) : lwB σ I' L' R S := by
  obtain ⟨D1, D2, D3, D4, D5⟩ := h.2.1.2.2
  refine lwB_s h (fun c j w => by rcases w with w | w | w | w | w | w | w | w <;> exact hf c j (by omega)) (fun c j w => hl c j (by omega)) (by rw [hf _ _ (by omega)]; exact h.2.2.2.2.2.2.1.1.2.1) (fun j w => by rw [hf _ _ (by omega)]; exact h.2.2.2.2.2.2.1.1.2.2 j w) (fun q' w1 w => ⟨fun c j y => hf c j (by have := D3 q q' hq w1; omega), fun c j y => hl c j (by have := D3 q q' hq w1; omega)⟩) (fun g p w0 w00 w1 w2 => ⟨fun c j y => hf c j (by have := D1 g q w0 hq; have := D4 q p hq w00; omega), fun c j y => hl c j (by have := D1 g q w0 hq; have := D4 q p hq w00; omega)⟩) (fun c' w0 w => ⟨fun c j y => hf c j (by have e : q = c' := Option.some.inj (hq.symm.trans w0); omega), fun c j y => hl c j (by have e : q = c' := Option.some.inj (hq.symm.trans w0); omega)⟩)
/-- way, costOf, blocking -/
noncomputable def lf15 : ZSpf := fun σ n k w _ _ => (σ, if σ.2.2.1.1 = 0 then -1 else bWp σ.2.2.1.2.1 n k w)
theorem lwB15 : lwCB 15 lf15 := ZSnd.alt (sn_M_way0.up (by decide)) (sn_M_way.up (by decide)) (by
  rintro args I L R S Q hz ⟨σ, a1, a2, a3, a4, a5, he, hr, hS, hc, hP, hQ⟩
  have hB := hP.2.2.2.2.1
  by_cases hb : σ.2.2.1.1 = 0
  · rw [show lf15 σ a1 a2 a3 a4 a5 = (σ, -1) from congrArg (Prod.mk σ) (if_pos hb)] at hQ
    exact Or.inl ⟨a1, a2, a3, he, hS, hP.2.1.1, (hB.2.1 hb).1, hQ _ _ _ _ hP zfB_0⟩
  · rw [show lf15 σ a1 a2 a3 a4 a5 = (σ, bWp σ.2.2.1.2.1 a1 a2 a3) from congrArg (Prod.mk σ) (if_neg hb)] at hQ
    obtain ⟨g, q, ⟨g1, g2, g3⟩, g4, ⟨g8, g9⟩, g10⟩ := hB.2.2 hb
    refine Or.inr ⟨g, _, a1, a2, a3, he, hS, hP.2.1.1, g1, g2, g3, g8, (hP.1.2.2.1.2.2 hb).1.1, ⟨hr.1, hr.2.1, hr.2.2.1⟩, ?_⟩
    rintro v I' rfl hf
    exact hQ _ _ _ _ (lwB_g hP g1 g3 hf) (zfB_I (fun c j q => hf c j (by omega))))
def lf16 : ZSpf := fun σ n _ _ _ _ => (σ, if σ.2.2.1.1 = 0 then -1 else gCo σ.2.2.1.2.1 n)
theorem lwB16 : lwCB 16 lf16 := ZSnd.alt (sn_M_cost0.up (by decide)) (sn_M_cost.up (by decide)) (by
  rintro args I L R S Q hz ⟨σ, a1, a2, a3, a4, a5, he, hr, hS, hc, hP, hQ⟩
  have hB := hP.2.2.2.2.1
  by_cases hb : σ.2.2.1.1 = 0
  · rw [show lf16 σ a1 a2 a3 a4 a5 = (σ, -1) from congrArg (Prod.mk σ) (if_pos hb)] at hQ
    exact Or.inl ⟨a1, he, hS, hP.2.1.1, (hB.2.1 hb).1, hQ _ _ _ _ hP zfB_0⟩
  · rw [show lf16 σ a1 a2 a3 a4 a5 = (σ, gCo σ.2.2.1.2.1 a1) from congrArg (Prod.mk σ) (if_neg hb)] at hQ
    obtain ⟨g, q, ⟨g1, g2, g3⟩, g4, ⟨g8, g9⟩, g10⟩ := hB.2.2 hb
    refine Or.inr ⟨g, _, a1, he, hS, hP.2.1.1, g1, g2, g3, g8, (hP.1.2.2.1.2.2 hb).1.1, hr.1, ?_⟩
    rintro v I' rfl hf
    exact hQ _ _ _ _ (lwB_g hP g1 g3 hf) (zfB_I (fun c j q => hf c j (by omega))))
noncomputable def lf17 : ZSpf := fun σ n k _ _ _ => (σ, if σ.2.2.1.1 = 0 then -1 else bBlk σ.2.2.1.2.1 n k)
theorem lwB17 : lwCB 17 lf17 := ZSnd.alt (sn_M_blk0.up (by decide)) (sn_M_blk.up (by decide)) (by
  rintro args I L R S Q hz ⟨σ, a1, a2, a3, a4, a5, he, hr, hS, hc, hP, hQ⟩
  have hB := hP.2.2.2.2.1
  by_cases hb : σ.2.2.1.1 = 0
  · rw [show lf17 σ a1 a2 a3 a4 a5 = (σ, -1) from congrArg (Prod.mk σ) (if_pos hb)] at hQ
    exact Or.inl ⟨a1, a2, he, hS, hP.2.1.1, (hB.2.1 hb).1, hQ _ _ _ _ hP zfB_0⟩
  · rw [show lf17 σ a1 a2 a3 a4 a5 = (σ, bBlk σ.2.2.1.2.1 a1 a2) from congrArg (Prod.mk σ) (if_neg hb)] at hQ
    obtain ⟨g, q, ⟨g1, g2, g3⟩, g4, ⟨g8, g9⟩, g10⟩ := hB.2.2 hb
    refine Or.inr ⟨g, _, a1, a2, he, hS, hP.2.1.1, g1, g2, g3, g8, (hP.1.2.2.1.2.2 hb).1.1, ⟨hr.1, hr.2.1⟩, (hP.1.2.2.1.2.2 hb).1.2, ?_⟩
    rintro v I' rfl hf
    exact hQ _ _ _ _ (lwB_g hP g1 g3 hf) (zfB_I (fun c j q => hf c j (by omega))))
theorem lwA16 : lwCA 16 lf16 := ZSnd.alt (sn_Z_coz.up (by decide)) (sn_Z_cof.up (by decide)) (by
  rintro args I L R S Q hz ⟨σ, a1, a2, a3, a4, a5, he, hr, hS, hc, hP, hQ⟩
  have hB0 : aB σ.2.2.1 I L := hP.2.2.2.2.1
  by_cases hb : σ.2.2.1.1 = 0
  · rw [show lf16 σ a1 a2 a3 a4 a5 = (σ, -1) from congrArg (Prod.mk σ) (if_pos hb)] at hQ
    exact Or.inl ⟨a1, he, hS, hP.2.1.1, hB0.2.2.2 hb, hr.1, hQ _ _ _ _ hP zfA_0 (show r64 (-1) from ⟨by decide, by decide⟩)⟩
  · have hB : zBA σ.2.2.1.1 σ.2.2.1.2.1 I L := hB0.1 hb
    refine Or.inr ⟨_, _, a1, he, hS, hP.2.1.1, hB, hr.1, ?_⟩
    rintro v rfl
    rw [show lf16 σ a1 a2 a3 a4 a5 = (σ, gCo σ.2.2.1.2.1 a1) from congrArg (Prod.mk σ) (if_neg hb)] at hQ
    refine hQ _ _ _ _ hP zfA_0 (show r64 (gCo σ.2.2.1.2.1 a1) from ?_)
    unfold gCo
    split
    · rename_i q
      have hN : zRT 90 12 (bnn σ.2.2.1.2.1) (bN σ.2.2.1.2.1) I := hB.2.2.2.2.1
      have z := hN.2.2.2 a1.toNat 3 (by omega) (by decide)
      rw [← z]
      have w := hz.1 91 (6 * a1.toNat + 3)
      exact ⟨Int.le_trans (by decide) w.1, Int.le_trans w.2 (by decide)⟩
    · exact ⟨by decide, by decide⟩)
