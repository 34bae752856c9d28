
/-! load -/
theorem ldV_1 {b cr : Nat} (h : b ≠ 0) {t : StS} {g : Nat → Int} {e : Int} {s : BdS} : ldV b cr t g e s = ldV 1 cr t g e s := by
  unfold ldV
  by_cases q : cr = 1
  · rw [if_pos (Or.inr q), if_pos (Or.inr q)]
  · rw [if_neg (show ¬ (b = 0 ∨ cr = 1) by omega), if_neg (show ¬ (1 = 0 ∨ cr = 1) by omega)]
theorem ldS_1 {b cr : Nat} (h : b ≠ 0) {t : StS} {g : Nat → Int} {e : Int} {s : BdS} : ldS b cr t g e s = ldS 1 cr t g e s := by
  unfold ldS
  by_cases q : cr = 1
  · rw [if_pos (Or.inr q), if_pos (Or.inr q)]
  · rw [if_neg (show ¬ (b = 0 ∨ cr = 1) by omega), if_neg (show ¬ (1 = 0 ∨ cr = 1) by omega)]
noncomputable abbrev lwLv (σ : LwS) (e : Int) : Int := ldV 1 (lwX σ).2.1 (lwX σ).1.2.2.1 (lwX σ).1.1 e (lwBo σ).2.1
noncomputable def lf40y (σ : LwS) (e : Int) : LwS × Int := (lwb σ (if 0 ≤ lwLv σ e then 0 else -(lwLv σ e)) ((lwBo σ).1, ldS 1 (lwX σ).2.1 (lwX σ).1.2.2.1 (lwX σ).1.1 e (lwBo σ).2.1, (lwBo σ).2.2), if 0 ≤ lwLv σ e then lwLv σ e else -1)
noncomputable def lf40 : ZSpf := fun σ e _ _ _ _ => if (lwBo σ).1 = 0 then (lwd σ 3, -1) else lf40y σ e
theorem lwA40 : lwCA 40 lf40 := ZSnd.alt (sn_Z_ld0.up (by decide)) (sn_Z_ld.up (by decide)) (by
  rintro args I L R S Q hz ⟨σ, a1, a2, a3, a4, a5, he, hr, hS, hc, hP, hQ⟩
  have hB0 : aB (lwBo σ) I L := hP.2.2.2.2.1
  have hI : iB (lwBo σ) := hP.1.2.2.1
  have hX : aX (lwX σ) I := hP.2.2.2.2.2.2.2.2.1
  have hi : iX (lwX σ) := hP.1.2.2.2.2.2.2.1
  by_cases hb : (lwBo σ).1 = 0
  · rw [show lf40 σ a1 a2 a3 a4 a5 = (lwd σ 3, -1) from if_pos hb] at hQ
    refine Or.inl ⟨a1, he, hS, hP.2.1.1, by rw [hB0.2.1, hb]; rfl, ?_⟩
    intro I' h3 hf
    exact hQ _ _ _ _ (lwA_d hP (by decide) h3 hf) (zfA_I (fun c j w => hf c j (by omega))) (zRb rfl)
  · have hB := hB0.1 hb
    rw [show lf40 σ a1 a2 a3 a4 a5 = lf40y σ a1 from if_neg hb] at hQ
    have h4 : stM4 (lwX σ).1.1 (lwX σ).1.2.2.1 := by rw [hX.2.2.2.2.1.2.2.1]; exact hi.2 _ (Nat.le_refl _)
    refine Or.inr ⟨(lwX σ).1, (lwX σ).2.1, (lwX σ).2.2, (lwBo σ).1, (lwBo σ).2.1, a1, he, hS, hP.2.1.1, hB, (hI.2.2 hb).1.1, hX, hI.1, h4, hr.1, ?_⟩
    intro v I' hv h3 hB2 hf
    rw [ldV_1 hb] at hv h3
    rw [ldS_1 hb] at hB2
    subst hv
    have w : -4 ≤ lwLv σ a1 ∧ lwLv σ a1 ≤ 1000 := ldV_b hX h4 (hI.2.2 hb).1.1 (b := 1) (e := a1)
    refine hQ _ _ _ _ (lwA_b (y := ((lwBo σ).1, ldS 1 (lwX σ).2.1 (lwX σ).1.2.2.1 (lwX σ).1.1 a1 (lwBo σ).2.1, (lwBo σ).2.2)) hP ?_ (iB_ld hI hb) h3 (aB_y hb hB2) (fun c j w1 w2 => hf c j (by omega) (by omega) (by omega) (by omega) (by omega) (by omega) (by omega) (by omega)) (fun _ _ _ => rfl)) (zfA_I (fun c j w => hf c j (by omega) (by omega) (by omega) (by omega) (by omega) (by omega) (by omega) (by omega))) (show r32 (if 0 ≤ lwLv σ a1 then lwLv σ a1 else -1) from ?_)
    · show 0 ≤ (if 0 ≤ lwLv σ a1 then (0 : Int) else -(lwLv σ a1)) ∧ (if 0 ≤ lwLv σ a1 then (0 : Int) else -(lwLv σ a1)) ≤ 5
      split <;> omega
    · split
      · exact ⟨by omega, by omega⟩
      · exact zRb rfl)
theorem lwB40 : lwCB 40 lf40 := ZSnd.alt (sn_Y_ld0.up (by decide)) (sn_Y_ld.up (by decide)) (by
  rintro args I L R S Q hz ⟨σ, a1, a2, a3, a4, a5, he, hr, hS, hc, hP, hQ⟩
  have hB : bB (lwBo σ) I L R S := hP.2.2.2.2.1
  have hI : iB (lwBo σ) := hP.1.2.2.1
  have hX : bX (lwX σ) I := hP.2.2.2.2.2.2.2.2.1
  have hi : iX (lwX σ) := hP.1.2.2.2.2.2.2.1
  have hI2 := hc.2
  by_cases hb : (lwBo σ).1 = 0
  · rw [show lf40 σ a1 a2 a3 a4 a5 = (lwd σ 3, -1) from if_pos hb] at hQ
    refine Or.inl ⟨a1, he, hS, hP.2.1.1, (hB.2.1 hb).1, ?_⟩
    intro I' h3 hf
    exact hQ _ _ _ _ (lwB_d hP (by decide) h3 hf) (zfB_I (fun c j w => hf c j (by omega)))
  · rw [show lf40 σ a1 a2 a3 a4 a5 = lf40y σ a1 from if_neg hb] at hQ hI2
    obtain ⟨g, q, G, K, ⟨g8, g9⟩, g10, g11⟩ := hB.2.2 hb
    have h4 : stM4 (lwX σ).1.1 (lwX σ).1.2.2.1 := by rw [hX.1.2.2.2.1.2.1]; exact hi.2 _ (Nat.le_refl _)
    refine Or.inr ⟨g, q, (lwBo σ).2.1, (lwBo σ).2.2.1, (lwX σ).1, (lwX σ).2.1, a1, he, hS, hP.2.1.1, G.1, G.2.1, G.2.2, K.1, K.2.1, ⟨K.2.2.1, K.2.2.2⟩, g8, (hI.2.2 hb).1.1, g10, (hI.2.2 hb).2.1.1, g11, g9, (hI.2.2 hb).2.1.2, hX.1, h4, hr.1, ?_⟩
    rintro v I' rfl h3 hB2 hPB hf
    have k1 := K.2.2.1
    have k2 := G.2.2
    have f9 : ∀ c j : Nat, ¬ (c = 165 ∧ (j = 0 ∨ j = 15 ∨ j = 22)) → ¬ (197 ≤ c ∧ c ≤ 203) → ¬ (g ≤ c ∧ c ≤ g + 18) → ¬ (c = q ∧ j = 0) → ¬ (268 ≤ c ∧ c ≤ 279 ∧ c ≠ 270 ∧ ¬ (c = 268 ∧ (j = 2 ∨ j = 5))) → I' c j = I c j := fun c j w1 w2 w3 w4 w5 => hf c j (by omega) (by omega) (by omega) (by omega) (by omega) (by omega) (by omega) (by omega) (by omega) (by omega) (by omega) (by omega) (by omega) (by omega) (by omega) (by omega) (by omega) (by omega) (by omega) (by omega) (by omega) (by omega) (by omega) (by omega) (by omega) (by omega) (by omega) (by omega) (by omega) (by omega)
    exact hQ _ _ _ _ (lwB_bb (y := ((lwBo σ).1, ldS 1 (lwX σ).2.1 (lwX σ).1.2.2.1 (lwX σ).1.1 a1 (lwBo σ).2.1, (lwBo σ).2.2)) hP hI2.1.1 (iB_ld hI hb) rfl rfl hb G K g10 g11 hB2 hPB h3 f9 (fun _ _ _ => rfl)) (zfB_I (fun c j w => f9 c j (by omega) (by omega) (by omega) (by omega) (by omega))))
