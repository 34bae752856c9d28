
/-- serial -/
noncomputable def lf44 : ZSpf := fun σ a _ _ _ _ => if 0 ≤ a ∧ a < (lwR σ).1.1 then (if (lwR σ).2.2.2 = 60 then (lwd σ 1, -1) else @ite (LwS × Int) ((lwR σ).2.2.1 a.toNat = 0 ∧ apr ((lwR σ).2.1 a.toNat)) (Classical.propDecidable _) (lwe σ 0 ((lwR σ).1, (lwR σ).2.1, (lwR σ).2.2.1, (lwR σ).2.2.2 + 1), (lwR σ).2.2.2) (lwd σ 5, -1)) else (lwd σ 2, -1)
theorem lwA44 : lwCA 44 lf44 := (sn_Z_ser.up (by decide)).imp (by
  rintro args I L R S Q hz ⟨σ, a1, a2, a3, a4, a5, he, hr, hS, hc, hP, hQ⟩
  have hE : aE (lwR σ) I := hP.2.2.2.2.2.2.2.2.2
  have hI : iE (lwR σ) := hP.1.2.2.2.2.2.2.2
  refine ⟨a1, (lwR σ).1.1, (lwR σ).2.2.2, (lwR σ).2.2.1, (lwR σ).2.1, he, hS, hP.2.1.1, hr.1, hE.1.1, hI.1, hE.2.2.2, hI.2.2.2, fun x w1 => ⟨hE.2.2.1 x w1, hI.2.2.1 x w1⟩, fun x p w1 w2 => ⟨hE.2.1 x p w1 w2, hI.2.1 x p w1 w2⟩, ?_⟩
  intro v I' hv hf
  have k1 := zRA_fr hE.1 (I' := I') (fun c j w => hf c j (by omega) (by omega))
  have k2 : ∀ r p : Nat, r < (lwR σ).1.1 → p < 16 → I' 158 (16 * r + p) = (lwR σ).2.1 r p := fun r p u1 u2 => (hf _ _ (by omega) (by omega)).trans (hE.2.1 r p u1 u2)
  have k3 : ∀ r : Nat, r < (lwR σ).1.1 → I' 159 r = (lwR σ).2.2.1 r := fun r w => (hf _ _ (by omega) (by omega)).trans (hE.2.2.1 r w)
  have k4 : ∀ c j : Nat, ¬ (c = 40 ∧ j = 3) → ¬ (154 ≤ c ∧ c ≤ 164) → I' c j = I c j := fun c j w1 w2 => hf c j (by omega) (by omega)
  have k5 : zfA I L R S I' L R S := zfA_I (fun c j w => hf c j (by omega) (by omega))
  by_cases hs : 0 ≤ a1 ∧ a1 < (lwR σ).1.1
  · by_cases h60 : (lwR σ).2.2.2 = 60
    · rw [show lf44 σ a1 a2 a3 a4 a5 = (lwd σ 1, -1) from (if_pos hs).trans (if_pos h60)] at hQ
      rcases hv with w1 | ⟨w1, ⟨w2, rfl, w3, w4⟩ | ⟨w2, _⟩⟩
      · exact absurd hs w1.1
      · exact hQ I' _ _ _ (lwA_e hP (by decide) hI w3 ⟨k1, k2, k3, w4⟩ k4) k5 (zRb rfl)
      · exact absurd h60 (by intro y; rw [y] at w2; exact absurd w2 (by decide))
    · by_cases hw : (lwR σ).2.2.1 a1.toNat = 0 ∧ apr ((lwR σ).2.1 a1.toNat)
      · rw [show lf44 σ a1 a2 a3 a4 a5 = (lwe σ 0 ((lwR σ).1, (lwR σ).2.1, (lwR σ).2.2.1, (lwR σ).2.2.2 + 1), (lwR σ).2.2.2) from (if_pos hs).trans ((if_neg h60).trans (if_pos hw))] at hQ
        rcases hv with w1 | ⟨w1, ⟨w2, _⟩ | ⟨w2, ⟨w5, w6, rfl, w7, w8⟩ | ⟨w5, _⟩⟩⟩
        · exact absurd hs w1.1
        · exact absurd w2 h60
        · exact hQ I' _ _ _ (lwA_e hP (by decide) ⟨hI.1, hI.2.1, hI.2.2.1, by have := hI.2.2.2.1; show 0 ≤ (lwR σ).2.2.2 + 1; omega, by show (lwR σ).2.2.2 + 1 ≤ 60; omega⟩ w7 ⟨k1, k2, k3, w8⟩ k4) k5 (show r32 (lwR σ).2.2.2 from ⟨by have := hI.2.2.2.1; omega, by omega⟩)
        · exact absurd hw w5
      · rw [show lf44 σ a1 a2 a3 a4 a5 = (lwd σ 5, -1) from (if_pos hs).trans ((if_neg h60).trans (if_neg hw))] at hQ
        rcases hv with w1 | ⟨w1, ⟨w2, _⟩ | ⟨w2, ⟨w5, w6, _⟩ | ⟨w5, rfl, w7, w8⟩⟩⟩
        · exact absurd hs w1.1
        · exact absurd w2 h60
        · exact absurd ⟨w5, w6⟩ hw
        · exact hQ I' _ _ _ (lwA_e hP (by decide) hI w7 ⟨k1, k2, k3, w8⟩ k4) k5 (zRb rfl)
  · rw [show lf44 σ a1 a2 a3 a4 a5 = (lwd σ 2, -1) from if_neg hs] at hQ
    rcases hv with ⟨w1, rfl, w3, w4⟩ | w1
    · exact hQ I' _ _ _ (lwA_e hP (by decide) hI w3 ⟨k1, k2, k3, w4⟩ k4) k5 (zRb rfl)
    · exact absurd w1.1 hs)
theorem lwB44 : lwCB 44 lf44 := (sn_Y_ser.up (by decide)).imp (by
  rintro args I L R S Q hz ⟨σ, a1, a2, a3, a4, a5, he, hr, hS, hc, hP, hQ⟩
  have hE : bE (lwR σ) I := hP.2.2.2.2.2.2.2.2.2
  have hI : iE (lwR σ) := hP.1.2.2.2.2.2.2.2
  have hn := bE_z hE
  obtain ⟨⟨e1, e2, e3⟩, e4, e5, e6, ⟨e7, e8⟩, e9, e10⟩ := id hE
  refine ⟨a1, _, (lwR σ).2.2.2, (lwR σ).1.1, (lwR σ).2.2.1, (lwR σ).2.1, he, hS, hP.2.1.1, hr.1, e1.1, hI.1, rfl, ⟨e9, e10⟩, e7, hI.2.2.2, fun x w1 => ⟨e5 x w1, hI.2.2.1 x w1⟩, fun x p w1 w2 => ⟨e4 x p w1 w2, hI.2.1 x p w1 w2⟩, ?_⟩
  intro v I' hv he2 hf
  have k1 := zRB_fr e1 (I' := I') ((hf _ _ (by omega) (by omega) (by omega) (by omega) (by omega) (by omega) (by omega) (by omega) (by omega)).trans e1.2.2.1) (fun c j w => hf c j (by omega) (by omega) (by omega) (by omega) (by omega) (by omega) (by omega) (by omega) (by omega))
  have k2 := zRC_fr e2 (I' := I') hn (fun c j w => hf c j (by omega) (by omega) (by omega) (by omega) (by omega) (by omega) (by omega) (by omega) (by omega))
  have k3 : I' 287 10 = 0 := (hf _ _ (by omega) (by omega) (by omega) (by omega) (by omega) (by omega) (by omega) (by omega) (by omega)).trans e3
  have k6 : ∀ r p : Nat, r < (lwR σ).1.1 → p < 16 → I' 295 (16 * r + p) = (lwR σ).2.1 r p + 1 := fun r p u1 u2 => (hf _ _ (by omega) (by omega) (by omega) (by omega) (by omega) (by omega) (by omega) (by omega) (by omega)).trans (e4 r p u1 u2)
  have k7 : ∀ r : Nat, r < (lwR σ).1.1 → I' 296 r = (lwR σ).2.2.1 r := fun r w => (hf _ _ (by omega) (by omega) (by omega) (by omega) (by omega) (by omega) (by omega) (by omega) (by omega)).trans (e5 r w)
  have k8 : ∀ r : Nat, (lwR σ).1.1 ≤ r → r < 10 → I' 296 r = 0 ∧ ∀ p : Nat, p < 16 → I' 295 (16 * r + p) = 0 := fun r w1 w2 => ⟨(hf _ _ (by omega) (by omega) (by omega) (by omega) (by omega) (by omega) (by omega) (by omega) (by omega)).trans (e6 r w1 w2).1, fun p w3 => (hf _ _ (by omega) (by omega) (by omega) (by omega) (by omega) (by omega) (by omega) (by omega) (by omega)).trans ((e6 r w1 w2).2 p w3)⟩
  have k9 : I' 280 21 = lwW (lwR σ).2.2.1 (lwR σ).1.1 := (hf _ _ (by omega) (by omega) (by omega) (by omega) (by omega) (by omega) (by omega) (by omega) (by omega)).trans e8
  have k4 : ∀ c j : Nat, ¬ (c = 165 ∧ j = 0) → ¬ (280 ≤ c ∧ c ≤ 301) → I' c j = I c j := fun c j w1 w2 => hf c j (by omega) (by omega) (by omega) (by omega) (by omega) (by omega) (by omega) (by omega) (by omega)
  have k5 : zfB I L R S I' L R S := zfB_I (fun c j w => hf c j (by omega) (by omega) (by omega) (by omega) (by omega) (by omega) (by omega) (by omega) (by omega))
  by_cases hs : 0 ≤ a1 ∧ a1 < (lwR σ).1.1
  · by_cases h60 : (lwR σ).2.2.2 = 60
    · rw [show lf44 σ a1 a2 a3 a4 a5 = (lwd σ 1, -1) from (if_pos hs).trans (if_pos h60)] at hQ
      rcases hv with w1 | ⟨w1, ⟨w2, rfl, w3, w4⟩ | ⟨w2, _⟩⟩
      · exact absurd hs w1.1
      · exact hQ I' _ _ _ (lwB_e hP (by decide) hI w3 ⟨⟨k1, k2, k3⟩, k6, k7, k8, ⟨w4, k9⟩, he2⟩ k4) k5
      · exact absurd h60 (by intro y; rw [y] at w2; exact absurd w2 (by decide))
    · by_cases hw : (lwR σ).2.2.1 a1.toNat = 0 ∧ apr ((lwR σ).2.1 a1.toNat)
      · rw [show lf44 σ a1 a2 a3 a4 a5 = (lwe σ 0 ((lwR σ).1, (lwR σ).2.1, (lwR σ).2.2.1, (lwR σ).2.2.2 + 1), (lwR σ).2.2.2) from (if_pos hs).trans ((if_neg h60).trans (if_pos hw))] at hQ
        rcases hv with w1 | ⟨w1, ⟨w2, _⟩ | ⟨w2, ⟨w5, w6, rfl, w7, w8⟩ | ⟨w5, _⟩⟩⟩
        · exact absurd hs w1.1
        · exact absurd w2 h60
        · exact hQ I' _ _ _ (lwB_e hP (by decide) ⟨hI.1, hI.2.1, hI.2.2.1, by have := hI.2.2.2.1; show 0 ≤ (lwR σ).2.2.2 + 1; omega, by show (lwR σ).2.2.2 + 1 ≤ 60; omega⟩ w7 ⟨⟨k1, k2, k3⟩, k6, k7, k8, ⟨w8, k9⟩, he2⟩ k4) k5
        · exact absurd hw w5
      · rw [show lf44 σ a1 a2 a3 a4 a5 = (lwd σ 5, -1) from (if_pos hs).trans ((if_neg h60).trans (if_neg hw))] at hQ
        rcases hv with w1 | ⟨w1, ⟨w2, _⟩ | ⟨w2, ⟨w5, w6, _⟩ | ⟨w5, rfl, w7, w8⟩⟩⟩
        · exact absurd hs w1.1
        · exact absurd w2 h60
        · exact absurd ⟨w5, w6⟩ hw
        · exact hQ I' _ _ _ (lwB_e hP (by decide) hI w7 ⟨⟨k1, k2, k3⟩, k6, k7, k8, ⟨w8, k9⟩, he2⟩ k4) k5
  · rw [show lf44 σ a1 a2 a3 a4 a5 = (lwd σ 2, -1) from if_neg hs] at hQ
    rcases hv with ⟨w1, rfl, w3, w4⟩ | w1
    · exact hQ I' _ _ _ (lwB_e hP (by decide) hI w3 ⟨⟨k1, k2, k3⟩, k6, k7, k8, ⟨w4, k9⟩, he2⟩ k4) k5
    · exact absurd w1.1 hs)
