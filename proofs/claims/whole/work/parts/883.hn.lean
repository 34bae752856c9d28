
theorem zDy_106 {R : ZR} {S : ZS} (hR : zRs R) (hS : zSh S) : zDy zT1 zF1 106 R S := zDy_st hR hS rfl rfl (by decide +kernel) (by decide +kernel)
theorem zDy_118 {R : ZR} {S : ZS} (hR : zRs R) (hS : zSh S) : zDy zT1 zF1 118 R S := zDy_st hR hS rfl rfl (by decide +kernel) (by decide +kernel)
abbrev lwC (σ : LwS) : CuL := σ.2.2.2.2.1
abbrev lwP (x : CuL) : Nat → Prop := cuAl x.2.1 x.2.2.2.1.1 x.2.2.2.1.2
theorem lwA_u {σ : LwS} {I L : ZI} {R : ZR} {S : ZS} (h : lwA σ I L R S) (hS : zSh S) (hm : (lwC σ).1 ≠ 0) : ∃ k : Nat, R 40 12 = some k ∧ zDy zT1 zF1 k R S ∧ (k = 106 ∨ k = 118) ∧ zUC k (lwC σ).2.1 (lwC σ).2.2.1 (lwC σ).2.2.2.1.1 (lwC σ).2.2.2.1.2 (((lwC σ).2.2.2.2.1 : Int) - 1) (lwC σ).2.2.2.2.2 I ∧ I 40 14 = (lwC σ).1 ∧ (1 ≤ (lwC σ).1 ∧ (lwC σ).1 ≤ 10) := by
  obtain ⟨h1, ⟨k, u, hk, ⟨r1, r2⟩, h2, h3⟩, _⟩ := h.2.2.2.2.2.2.1
  refine ⟨k, r1, ?_, by omega, h3 hm, h1, by omega, h.1.2.2.2.2.1.1.1⟩
  rcases hk with q | q
  · rw [q.1]; exact zDy_106 h.2.1.1 hS
  · rw [q.1]; exact zDy_118 h.2.1.1 hS
theorem lwA_u0 {σ : LwS} {I L : ZI} {R : ZR} {S : ZS} (h : lwA σ I L R S) (hm : (lwC σ).1 = 0) : I 40 14 = 0 := by rw [h.2.2.2.2.2.2.1.1]; show (((lwC σ).1 : Nat) : Int) = 0; rw [hm]; rfl
/-- violations -/
noncomputable def lf20 : ZSpf := fun σ _ _ _ _ _ => (σ, if (lwC σ).1 = 0 then -1 else viN (lwP (lwC σ)))
theorem lwB20 : lwCB 20 lf20 := ZSnd.alt (sn_Y_vs0.up (by decide)) (sn_Y_vs.up (by decide)) (by
  rintro args I L R S Q hz ⟨σ, a1, a2, a3, a4, a5, he, hr, hS, hc, hP, hQ⟩
  have hC := hP.2.2.2.2.2.2.1
  by_cases hm : (lwC σ).1 = 0
  · rw [show lf20 σ a1 a2 a3 a4 a5 = (σ, -1) from congrArg (Prod.mk σ) (if_pos hm)] at hQ
    exact Or.inl ⟨he, hS, hP.2.1.1, hC.2.1 hm, hQ _ _ _ _ hP zfB_0⟩
  · rw [show lf20 σ a1 a2 a3 a4 a5 = (σ, viN (lwP (lwC σ))) from congrArg (Prod.mk σ) (if_neg hm)] at hQ
    obtain ⟨q, ⟨g1, g2, g3, g4, g5⟩, ⟨g6, g7, g8⟩, ⟨g9, g10⟩, g11, g12⟩ := hC.2.2 hm
    refine Or.inr ⟨q, _, he, hS, hP.2.1.1, g1, g3, g8.trans (zFY_n g7), ?_⟩
    rintro v rfl
    exact hQ _ _ _ _ hP zfB_0)
theorem lwA20 : lwCA 20 lf20 := ZSnd.alt (sn_Z_vs0.up (by decide)) (sn_Z_vs.up (by decide)) (by
  rintro args I L R S Q hz ⟨σ, a1, a2, a3, a4, a5, he, hr, hS, hc, hP, hQ⟩
  by_cases hm : (lwC σ).1 = 0
  · rw [show lf20 σ a1 a2 a3 a4 a5 = (σ, -1) from congrArg (Prod.mk σ) (if_pos hm)] at hQ
    exact Or.inl ⟨he, hS, hP.2.1.1, lwA_u0 hP hm, hQ _ _ _ _ hP zfA_0 (zRb rfl)⟩
  · rw [show lf20 σ a1 a2 a3 a4 a5 = (σ, viN (lwP (lwC σ))) from congrArg (Prod.mk σ) (if_neg hm)] at hQ
    obtain ⟨k, r1, hd, hk, hU, h14, hm2⟩ := lwA_u hP hS hm
    refine Or.inr ⟨k, _, _, _, _, _, _, _, he, hS, hP.2.1.1, h14, hm2, r1, hd, hk, hU, ?_⟩
    rintro v rfl
    exact hQ _ _ _ _ hP zfA_0 (show r32 (viN _) from by rw [← zUC_n hU]; exact hz.1 _ _))
/-- violation -/
noncomputable def lf21 : ZSpf := fun σ a b _ _ _ => (σ, if (lwC σ).1 = 0 then -1 else viV (lwP (lwC σ)) (viN (lwP (lwC σ))) a b)
theorem lwB21 : lwCB 21 lf21 := ZSnd.alt (sn_Y_vi0.up (by decide)) (sn_Y_vi.up (by decide)) (by
  rintro args I L R S Q hz ⟨σ, a1, a2, a3, a4, a5, he, hr, hS, hc, hP, hQ⟩
  have hC := hP.2.2.2.2.2.2.1
  by_cases hm : (lwC σ).1 = 0
  · rw [show lf21 σ a1 a2 a3 a4 a5 = (σ, -1) from congrArg (Prod.mk σ) (if_pos hm)] at hQ
    exact Or.inl ⟨a1, a2, he, hS, hP.2.1.1, hC.2.1 hm, hQ _ _ _ _ hP zfB_0⟩
  · rw [show lf21 σ a1 a2 a3 a4 a5 = (σ, viV (lwP (lwC σ)) (viN (lwP (lwC σ))) a1 a2) from congrArg (Prod.mk σ) (if_neg hm)] at hQ
    obtain ⟨q, ⟨g1, g2, g3, g4, g5⟩, ⟨g6, g7, g8⟩, ⟨g9, g10⟩, g11, g12⟩ := hC.2.2 hm
    refine Or.inr ⟨q, q + 14, _, _, a1, a2, viN (lwP (lwC σ)), he, hS, hP.2.1.1, g2, g4, g1, g3, g7, g8.trans (zFY_n g7), (zFY_n g7).symm, by omega, ⟨hr.1, hr.2.1⟩, ?_⟩
    intro v I' hv hf
    have e : v = viV (lwP (lwC σ)) (viN (lwP (lwC σ))) a1 a2 := by
      unfold viV
      rcases hv with ⟨w1, w2⟩ | ⟨w1, w2⟩
      · rw [if_pos ⟨w1.1, w1.2.1⟩]; exact w2
      · by_cases w3 : 0 ≤ a1 ∧ a1 < viN (lwP (lwC σ))
        · rw [if_pos w3, w2]
          unfold cuDc
          rw [if_neg (by omega), if_neg (by omega), if_neg (by omega)]
        · rw [if_neg w3]; exact w2
    subst e
    exact hQ _ _ _ _ (lwB_c hP g1 g5 (fun c j w => hf c j (by omega)) (fun _ _ _ => rfl)) (zfB_I (fun c j w => hf c j (by omega))))
theorem lwA21 : lwCA 21 lf21 := ZSnd.alt (sn_Z_vi0.up (by decide)) (sn_Z_vi.up (by decide)) (by
  rintro args I L R S Q hz ⟨σ, a1, a2, a3, a4, a5, he, hr, hS, hc, hP, hQ⟩
  by_cases hm : (lwC σ).1 = 0
  · rw [show lf21 σ a1 a2 a3 a4 a5 = (σ, -1) from congrArg (Prod.mk σ) (if_pos hm)] at hQ
    exact Or.inl ⟨a1, a2, he, hS, hP.2.1.1, lwA_u0 hP hm, hQ _ _ _ _ hP zfA_0 (zRb rfl)⟩
  · rw [show lf21 σ a1 a2 a3 a4 a5 = (σ, viV (lwP (lwC σ)) (viN (lwP (lwC σ))) a1 a2) from congrArg (Prod.mk σ) (if_neg hm)] at hQ
    obtain ⟨k, r1, hd, hk, hU, h14, hm2⟩ := lwA_u hP hS hm
    refine Or.inr ⟨k, _, _, _, _, _, _, _, a1, a2, he, hS, hP.2.1.1, h14, hm2, r1, hd, hk, hU, ⟨hr.1, hr.2.1⟩, ?_⟩
    rintro v rfl
    refine hQ _ _ _ _ hP zfA_0 (show r32 (viV _ _ _ _) from ?_)
    unfold viV
    split
    · rename_i w
      rw [← zUC_n hU] at w
      rw [← zUC_v hU (j := a1.toNat) (by omega)]
      have w2 := hz.1 (k + 7) a1.toNat
      unfold cuDc
      split
      · exact ⟨by omega, by omega⟩
      · split
        · exact ⟨by omega, by omega⟩
        · split
          · exact ⟨by omega, by omega⟩
          · exact zRb rfl
    · exact zRb rfl)
/-- copper -/
noncomputable def lf22 : ZSpf := fun σ a _ _ _ _ => (σ, if (lwC σ).1 = 0 then -1 else cuCp (lwC σ).2.1 a)
theorem lwB22 : lwCB 22 lf22 := ZSnd.alt (sn_Y_co0.up (by decide)) (sn_Y_cof.up (by decide)) (by
  rintro args I L R S Q hz ⟨σ, a1, a2, a3, a4, a5, he, hr, hS, hc, hP, hQ⟩
  have hC := hP.2.2.2.2.2.2.1
  by_cases hm : (lwC σ).1 = 0
  · rw [show lf22 σ a1 a2 a3 a4 a5 = (σ, -1) from congrArg (Prod.mk σ) (if_pos hm)] at hQ
    exact Or.inl ⟨a1, he, hS, hP.2.1.1, hC.2.1 hm, hQ _ _ _ _ hP zfB_0⟩
  · rw [show lf22 σ a1 a2 a3 a4 a5 = (σ, cuCp (lwC σ).2.1 a1) from congrArg (Prod.mk σ) (if_neg hm)] at hQ
    obtain ⟨q, ⟨g1, g2, g3, g4, g5⟩, ⟨g6, g7, g8⟩, ⟨g9, g10⟩, g11, g12⟩ := hC.2.2 hm
    have hI := hP.1.2.2.2.2.1.2 hm
    refine Or.inr ⟨q, _, _, a1, he, hS, hP.2.1.1, g1, g3, g6, hI.2.1, hI.2.2.1, hI.2.2.2.1, g5, hr.1, ?_⟩
    intro v I' hv hf
    have e : v = cuCp (lwC σ).2.1 a1 := by
      unfold cuCp
      rcases hv with ⟨w1, w2⟩ | ⟨w1, w2⟩
      · rw [if_pos w1]; exact w2
      · rw [if_neg w1]; exact w2
    subst e
    exact hQ _ _ _ _ (lwB_c hP g1 g5 (fun c j w => hf c j (by omega) (by omega) (by omega) (by omega) (by omega) (by omega)) (fun _ _ _ => rfl)) (zfB_I (fun c j w => hf c j (by omega) (by omega) (by omega) (by omega) (by omega) (by omega))))
theorem lwA22 : lwCA 22 lf22 := ZSnd.alt (sn_Z_co0.up (by decide)) (sn_Z_co.up (by decide)) (by
  rintro args I L R S Q hz ⟨σ, a1, a2, a3, a4, a5, he, hr, hS, hc, hP, hQ⟩
  by_cases hm : (lwC σ).1 = 0
  · rw [show lf22 σ a1 a2 a3 a4 a5 = (σ, -1) from congrArg (Prod.mk σ) (if_pos hm)] at hQ
    exact Or.inl ⟨a1, he, hS, hP.2.1.1, lwA_u0 hP hm, hQ _ _ _ _ hP zfA_0 (zRb rfl)⟩
  · rw [show lf22 σ a1 a2 a3 a4 a5 = (σ, cuCp (lwC σ).2.1 a1) from congrArg (Prod.mk σ) (if_neg hm)] at hQ
    obtain ⟨k, r1, hd, hk, hU, h14, hm2⟩ := lwA_u hP hS hm
    refine Or.inr ⟨k, _, _, _, _, _, _, _, a1, he, hS, hP.2.1.1, h14, hm2, r1, hd, hk, hU, hr.1, ?_⟩
    rintro v rfl
    refine hQ _ _ _ _ hP zfA_0 (show r32 (cuCp _ _) from ?_)
    unfold cuCp
    split
    · rw [← hU.2.2.1.2.2 a1.toNat (by omega)]; exact hz.1 _ _
    · exact zRb rfl)
/-- shorts -/
noncomputable def lf24 : ZSpf := fun σ _ _ _ _ _ => (σ, if (lwC σ).1 = 0 then -1 else (cuSc (lwC σ).2.1 (lwC σ).2.2.1 : Int))
theorem lwB24 : lwCB 24 lf24 := ZSnd.alt (sn_Y_ss0.up (by decide)) (sn_Y_ssf.up (by decide)) (by
  rintro args I L R S Q hz ⟨σ, a1, a2, a3, a4, a5, he, hr, hS, hc, hP, hQ⟩
  have hC := hP.2.2.2.2.2.2.1
  by_cases hm : (lwC σ).1 = 0
  · rw [show lf24 σ a1 a2 a3 a4 a5 = (σ, -1) from congrArg (Prod.mk σ) (if_pos hm)] at hQ
    exact Or.inl ⟨he, hS, hP.2.1.1, hC.2.1 hm, hQ _ _ _ _ hP zfB_0⟩
  · rw [show lf24 σ a1 a2 a3 a4 a5 = (σ, (cuSc (lwC σ).2.1 (lwC σ).2.2.1 : Int)) from congrArg (Prod.mk σ) (if_neg hm)] at hQ
    obtain ⟨q, ⟨g1, g2, g3, g4, g5⟩, ⟨g6, g7, g8⟩, ⟨g9, g10⟩, g11, g12⟩ := hC.2.2 hm
    have hI := hP.1.2.2.2.2.1.2 hm
    refine Or.inr ⟨q, _, _, he, hS, hP.2.1.1, g1, g3, g6, hI.2.1, hI.2.2.1, hI.2.2.2.1, g5, ?_⟩
    rintro v I' rfl hf
    exact hQ _ _ _ _ (lwB_c hP g1 g5 (fun c j w => hf c j (by omega) (by omega) (by omega) (by omega) (by omega) (by omega)) (fun _ _ _ => rfl)) (zfB_I (fun c j w => hf c j (by omega) (by omega) (by omega) (by omega) (by omega) (by omega))))
theorem lwA24 : lwCA 24 lf24 := ZSnd.alt (sn_Z_ss0.up (by decide)) (sn_Z_ss.up (by decide)) (by
  rintro args I L R S Q hz ⟨σ, a1, a2, a3, a4, a5, he, hr, hS, hc, hP, hQ⟩
  by_cases hm : (lwC σ).1 = 0
  · rw [show lf24 σ a1 a2 a3 a4 a5 = (σ, -1) from congrArg (Prod.mk σ) (if_pos hm)] at hQ
    exact Or.inl ⟨he, hS, hP.2.1.1, lwA_u0 hP hm, hQ _ _ _ _ hP zfA_0 (zRb rfl)⟩
  · rw [show lf24 σ a1 a2 a3 a4 a5 = (σ, (cuSc (lwC σ).2.1 (lwC σ).2.2.1 : Int)) from congrArg (Prod.mk σ) (if_neg hm)] at hQ
    obtain ⟨k, r1, hd, hk, hU, h14, hm2⟩ := lwA_u hP hS hm
    refine Or.inr ⟨k, _, _, _, _, _, _, _, he, hS, hP.2.1.1, h14, hm2, r1, hd, hk, hU, ?_⟩
    rintro v rfl
    exact hQ _ _ _ _ hP zfA_0 (show r32 ((cuSc (lwC σ).2.1 (lwC σ).2.2.1 : Nat) : Int) from by rw [← hU.2.2.2.2.1]; exact hz.1 _ _))
