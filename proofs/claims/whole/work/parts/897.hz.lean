
theorem iB_cst {x : BoL} {l a y n : Int} (h : iB x) (hb : x.1 ≠ 0) (hc : 0 ≤ l ∧ l < bD x.2.1 ∧ 0 ≤ a ∧ a ≤ 50 ∧ 0 ≤ y ∧ y ≤ 50 ∧ 0 ≤ n ∧ n ≤ 50) : iB (x.1, bCst x.2.1 l.toNat a.toNat y.toNat n.toNat, x.2.2) := by
  obtain ⟨h1, h2, h3⟩ := h
  obtain ⟨⟨g1, g2⟩, g3, g4, g5⟩ := h3 hb
  exact ⟨h1, fun q => absurd q hb, fun _ => ⟨⟨bGd_cst g1 (by omega) (by omega) (by omega), g2⟩, g3, g4, g5⟩⟩
/-- cost -/
noncomputable def lf13 : ZSpf := fun σ l a y n _ => if (lwBo σ).1 = 0 then (lwd σ 3, 0) else if 0 ≤ l ∧ l < bD (lwBo σ).2.1 ∧ 0 ≤ a ∧ a ≤ 50 ∧ 0 ≤ y ∧ y ≤ 50 ∧ 0 ≤ n ∧ n ≤ 50 then (lwb σ 0 ((lwBo σ).1, bCst (lwBo σ).2.1 l.toNat a.toNat y.toNat n.toNat, (lwBo σ).2.2), 1) else (lwd σ 2, 0)
theorem lwA13 : lwCA 13 lf13 := ZSnd.alt (sn_A_mcost0.up (by decide)) (sn_A_mcost.up (by decide)) (by
  rintro args I L R S Q hz ⟨σ, a1, a2, a3, a4, a5, he, hr, hS, hc, hP, hQ⟩
  have hB0 : aB (lwBo σ) I L := hP.2.2.2.2.1
  have hI : iB (lwBo σ) := hP.1.2.2.1
  by_cases hb : (lwBo σ).1 = 0
  · rw [show lf13 σ a1 a2 a3 a4 a5 = (lwd σ 3, 0) from if_pos hb] at hQ
    refine Or.inl ⟨a1, a2, a3, a4, he, hS, hP.2.1.1, by rw [hB0.2.1, hb]; rfl, ?_⟩
    intro I' h3 hf
    exact hQ _ _ _ _ (lwA_d hP (by decide) h3 hf) (zfA_I (fun c j w => hf c j (by omega))) (zRb rfl)
  · have hB := hB0.1 hb
    refine Or.inr ⟨(lwBo σ).1, (lwBo σ).2.1, a1, a2, a3, a4, he, hS, hP.2.1.1, hB, bGd_z (hI.2.2 hb).1.1, ⟨by omega, hI.1⟩, ⟨hr.1, hr.2.1, hr.2.2.1, hr.2.2.2.1⟩, ?_⟩
    rintro v I' hv h3 hB2 hf
    by_cases hs : 0 ≤ a1 ∧ a1 < bD (lwBo σ).2.1 ∧ 0 ≤ a2 ∧ a2 ≤ 50 ∧ 0 ≤ a3 ∧ a3 ≤ 50 ∧ 0 ≤ a4 ∧ a4 ≤ 50
    · rw [show lf13 σ a1 a2 a3 a4 a5 = (lwb σ 0 ((lwBo σ).1, bCst (lwBo σ).2.1 a1.toNat a2.toNat a3.toNat a4.toNat, (lwBo σ).2.2), 1) from (if_neg hb).trans (if_pos hs)] at hQ
      rw [if_pos hs] at hv h3 hB2
      subst hv
      exact hQ _ _ _ _ (lwA_b hP (by decide) (iB_cst hI hb hs) h3 (aB_y hb hB2) (fun c j w1 w2 => hf c j (by omega) (by omega) (by omega) (by omega)) (fun _ _ _ => rfl)) (zfA_I (fun c j w => hf c j (by omega) (by omega) (by omega) (by omega))) (zRb rfl)
    · rw [show lf13 σ a1 a2 a3 a4 a5 = (lwd σ 2, 0) from (if_neg hb).trans (if_neg hs)] at hQ
      rw [if_neg hs] at hv h3 hB2
      subst hv
      exact hQ _ _ _ _ (lwA_b (y := lwBo σ) hP (by decide) hI h3 (aB_y hb hB2) (fun c j w1 w2 => hf c j (by omega) (by omega) (by omega) (by omega)) (fun _ _ _ => rfl)) (zfA_I (fun c j w => hf c j (by omega) (by omega) (by omega) (by omega))) (zRb rfl))
