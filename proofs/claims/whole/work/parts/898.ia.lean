
theorem lwB13 : lwCB 13 lf13 := ZSnd.alt (sn_M_cst0.up (by decide)) (sn_M_cst.up (by decide)) (by
  rintro args I L R S Q hz ⟨σ, a1, a2, a3, a4, a5, he, hr, hS, hc, hP, hQ⟩
  have hB : bB (lwBo σ) I L R S := hP.2.2.2.2.1
  have hI : iB (lwBo σ) := hP.1.2.2.1
  by_cases hb : (lwBo σ).1 = 0
  · rw [show lf13 σ a1 a2 a3 a4 a5 = (lwd σ 3, 0) from if_pos hb] at hQ
    refine Or.inl ⟨a1, a2, a3, a4, he, hS, hP.2.1.1, (hB.2.1 hb).1, ?_⟩
    intro I' h3 hf
    exact hQ _ _ _ _ (lwB_d hP (by decide) h3 hf) (zfB_I (fun c j w => hf c j (by omega)))
  · obtain ⟨g, q, ⟨g1, g2, g3⟩, ⟨g4, g5, g6, g7⟩, ⟨g8, g9⟩, g10, g11⟩ := hB.2.2 hb
    refine Or.inr ⟨g, (lwBo σ).2.1, a1, a2, a3, a4, he, hS, hP.2.1.1, g1, g2, g3, g8, (hI.2.2 hb).1.1, ⟨hr.1, hr.2.1, hr.2.2.1, hr.2.2.2.1⟩, ?_⟩
    rintro v I' hv h3 hB2 hf
    have f9 : ∀ c j : Nat, ¬ (c = 165 ∧ j = 0) → ¬ (g ≤ c ∧ c ≤ g + 9) → I' c j = I c j := fun c j w1 w2 => hf c j (by omega) (by omega) (by omega) (by omega) (by omega)
    by_cases hs : 0 ≤ a1 ∧ a1 < bD (lwBo σ).2.1 ∧ 0 ≤ a2 ∧ a2 ≤ 50 ∧ 0 ≤ a3 ∧ a3 ≤ 50 ∧ 0 ≤ a4 ∧ a4 ≤ 50
    · rw [show lf13 σ a1 a2 a3 a4 a5 = (lwb σ 0 ((lwBo σ).1, bCst (lwBo σ).2.1 a1.toNat a2.toNat a3.toNat a4.toNat, (lwBo σ).2.2), 1) from (if_neg hb).trans (if_pos hs)] at hQ
      rw [if_pos hs] at hv h3 hB2
      subst hv
      have p9 : zPB (lwBo σ).2.1 I' := zPB_fr g9 (fun c j w => f9 c j (by omega) (by omega))
      exact hQ _ _ _ _ (lwB_b (g := g) (q := q) hP (by decide) (iB_cst hI hb hs) rfl g1 g4 ⟨g6, g7⟩ h3 ⟨(f9 _ _ (by omega) (by omega)).trans hB.1, fun w => absurd w hb, fun _ => ⟨g, q, ⟨g1, g2, g3⟩, ⟨g4, g5, g6, g7⟩, ⟨hB2, p9⟩, zNJ_fr g10 (fun c j w => f9 c j (by omega) (by omega)) (fun _ _ _ => rfl), zJO_fr g11 (fun c j w => f9 c j (by omega) (by omega))⟩⟩ (fun c j w1 w2 w3 w4 w5 => f9 c j (by omega) (by omega)) (fun _ _ _ => rfl)) (zfB_I (fun c j w => f9 c j (by omega) (by omega)))
    · rw [show lf13 σ a1 a2 a3 a4 a5 = (lwd σ 2, 0) from (if_neg hb).trans (if_neg hs)] at hQ
      rw [if_neg hs] at hv h3 hB2
      subst hv
      have p9 : zPB (lwBo σ).2.1 I' := zPB_fr g9 (fun c j w => f9 c j (by omega) (by omega))
      exact hQ _ _ _ _ (lwB_b (y := lwBo σ) (g := g) (q := q) hP (by decide) hI rfl g1 g4 ⟨g6, g7⟩ h3 ⟨(f9 _ _ (by omega) (by omega)).trans hB.1, fun w => absurd w hb, fun _ => ⟨g, q, ⟨g1, g2, g3⟩, ⟨g4, g5, g6, g7⟩, ⟨hB2, p9⟩, zNJ_fr g10 (fun c j w => f9 c j (by omega) (by omega)) (fun _ _ _ => rfl), zJO_fr g11 (fun c j w => f9 c j (by omega) (by omega))⟩⟩ (fun c j w1 w2 w3 w4 w5 => f9 c j (by omega) (by omega)) (fun _ _ _ => rfl)) (zfB_I (fun c j w => f9 c j (by omega) (by omega))))
