
/-- demand -/
abbrev lwS (σ : LwS) : ScL := σ.2.2.2.2.2.1
noncomputable def lf33 : ZSpf := fun σ a _ _ _ _ => (σ, if 0 ≤ a ∧ a < (lwS σ).2.1.2.2.1 then scDj (lwS σ).1 (lwS σ).2.1 a.toNat else -1)
theorem lwA33 : lwCA 33 lf33 := ZSnd.alt3 (sn_Z_dmY.up (by decide)) (sn_Z_dmN.up (by decide)) (sn_Z_dmM.up (by decide)) (by
  rintro args I L R S Q hz ⟨σ, a1, a2, a3, a4, a5, he, hr, hS, hc, hP, hQ⟩
  have hA : scA (lwS σ).1 (lwS σ).2.1 (lwS σ).2.2 I L R := hP.2.2.2.2.2.2.2.1
  by_cases hs : 0 ≤ a1 ∧ a1 < (lwS σ).2.1.2.2.1
  · rw [show lf33 σ a1 a2 a3 a4 a5 = (σ, scDj (lwS σ).1 (lwS σ).2.1 a1.toNat) from congrArg (Prod.mk σ) (if_pos hs)] at hQ
    refine Or.inl ⟨_, _, _, a1.toNat, by rw [Int.toNat_of_nonneg hs.1]; exact he, hS, hP.2.1.1, hA, by omega, ?_⟩
    rintro v I' rfl hf
    exact hQ _ _ _ _ (lwA_s hP (fun c j w => by rcases w with w | w | w | w | w | w | w | w | w <;> exact hf c j (by omega) (by omega))) (zfA_I (fun c j w => hf c j (by omega) (by omega))) (show r32 (scDj _ _ _) from by rcases scDj_b (w := (lwS σ).1) (D := (lwS σ).2.1) (j := a1.toNat) with w | w | w <;> rw [w] <;> exact zRb rfl)
  · rw [show lf33 σ a1 a2 a3 a4 a5 = (σ, -1) from congrArg (Prod.mk σ) (if_neg hs)] at hQ
    have hq := hQ _ _ _ _ hP zfA_0 (zRb rfl)
    by_cases h0 : a1 < 0
    · exact Or.inr (Or.inl ⟨_, _, _, a1, he, hS, hP.2.1.1, hA, hr.1, h0, hq⟩)
    · exact Or.inr (Or.inr ⟨_, _, _, a1, he, hS, hP.2.1.1, hA, hr.1, by omega, hq⟩))
theorem lwB33 : lwCB 33 lf33 := ZSnd.alt3 (sn_Y_dmY.up (by decide)) (sn_Y_dmN.up (by decide)) (sn_Y_dmM.up (by decide)) (by
  rintro args I L R S Q hz ⟨σ, a1, a2, a3, a4, a5, he, hr, hS, hc, hP, hQ⟩
  have hB : scB (lwS σ).1 (lwS σ).2.1 (lwS σ).2.2 I L := hP.2.2.2.2.2.2.2.1
  have hI : iS (lwS σ) := hP.1.2.2.2.2.2.1
  by_cases hs : 0 ≤ a1 ∧ a1 < (lwS σ).2.1.2.2.1
  · rw [show lf33 σ a1 a2 a3 a4 a5 = (σ, scDj (lwS σ).1 (lwS σ).2.1 a1.toNat) from congrArg (Prod.mk σ) (if_pos hs)] at hQ
    refine Or.inl ⟨_, _, _, a1.toNat, by rw [Int.toNat_of_nonneg hs.1]; exact he, hS, hP.2.1.1, hI.1, hB, hI.2, by omega, ?_⟩
    rintro v I' L' rfl hf hl
    exact hQ _ _ _ _ (lwB_s0 hP (fun c j q => by rcases q with (q | q | q | q | q | q | q | q) | q | q | q <;> exact hf c j (by omega) (by omega)) (fun c j q => hl c j (by omega) (by omega))) (zfB_IL (fun c j w => hf c j (by omega) (by omega)) (fun c j w => hl c j (by omega) (by omega)))
  · rw [show lf33 σ a1 a2 a3 a4 a5 = (σ, -1) from congrArg (Prod.mk σ) (if_neg hs)] at hQ
    by_cases h0 : a1 < 0
    · refine Or.inr (Or.inl ⟨_, _, _, a1, he, hS, hP.2.1.1, hB, hr.1, h0, ?_⟩)
      rintro v I' rfl hf
      exact hQ _ _ _ _ (lwB_s0 hP (fun c j q => by rcases q with (q | q | q | q | q | q | q | q) | q | q | q <;> exact hf c j (by omega)) (fun _ _ _ => rfl)) (zfB_I (fun c j w => hf c j (by omega)))
    · refine Or.inr (Or.inr ⟨_, _, _, a1, he, hS, hP.2.1.1, hB, hr.1, by omega, ?_⟩)
      rintro v I' rfl hf
      exact hQ _ _ _ _ (lwB_s0 hP (fun c j q => by rcases q with (q | q | q | q | q | q | q | q) | q | q | q <;> exact hf c j (by omega)) (fun _ _ _ => rfl)) (zfB_I (fun c j w => hf c j (by omega))))
