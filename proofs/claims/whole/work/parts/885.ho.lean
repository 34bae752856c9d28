
/-- the class's side behind a call that tells only -/
def lwKa (c j : Nat) : Prop := (1 ≤ c ∧ c ≤ 5) ∨ ((c = 40 ∧ (j = 1 ∨ j = 3)) ∨ c = 41) ∨ ((c = 40 ∧ j = 7) ∨ (43 ≤ c ∧ c ≤ 60) ∨ (c = 63 ∧ (13 ≤ j ∧ j ≤ 15)) ∨ (65 ≤ c ∧ c ≤ 81)) ∨ (82 ≤ c ∧ c ≤ 97) ∨ ((c = 104 ∧ (j = 1 ∨ j = 2)) ∨ c = 105) ∨ ((c = 40 ∧ j = 14) ∨ ((c = 106 ∨ c = 118) ∧ j ≠ 17 ∧ j ≠ 18) ∨ (107 ≤ c ∧ c ≤ 115) ∨ (119 ≤ c ∧ c ≤ 127)) ∨ ((c = 138 ∧ (j = 3 ∨ j = 6 ∨ j = 8 ∨ j = 10 ∨ (13 ≤ j ∧ j ≤ 15))) ∨ c = 144 ∨ (130 ≤ c ∧ c ≤ 137)) ∨ ((c = 145 ∧ (j = 1 ∨ j = 5 ∨ j = 9 ∨ j = 10 ∨ j = 11)) ∨ (146 ≤ c ∧ c ≤ 152)) ∨ ((c = 154 ∧ (j = 0 ∨ j = 6)) ∨ (155 ≤ c ∧ c ≤ 159))
theorem lwA_s {σ : LwS} {I L I' : ZI} {R : ZR} {S : ZS} (h : lwA σ I L R S) (hf : ∀ c j : Nat, lwKa c j → I' c j = I c j) : lwA σ I' L R S := by
  obtain ⟨h0, ⟨h1, h2⟩, h3, h4, h5, h6, h7, h8, h9, h10⟩ := h
  exact ⟨h0, ⟨h1, zStf h2 (fun c j q1 q2 => ⟨hf c j (Or.inl ⟨q1, q2⟩), rfl⟩)⟩, aT_fr h3 (fun c j q => hf c j (Or.inr (Or.inl q))), aR_fr h4 (fun c j q => hf c j (Or.inr (Or.inr (Or.inl q)))) (fun _ _ _ => rfl) ⟨rfl, rfl⟩, aB_fr h5 (fun c j q => hf c j (Or.inr (Or.inr (Or.inr (Or.inl q))))) (fun _ _ _ => rfl), aU_fr h6 (fun c j q => hf c j (Or.inr (Or.inr (Or.inr (Or.inr (Or.inl q)))))), aC_fr h7 (fun c j q => hf c j (Or.inr (Or.inr (Or.inr (Or.inr (Or.inr (Or.inl q))))))) ⟨rfl, rfl⟩, aS_fr h8 (fun c j q => hf c j (Or.inr (Or.inr (Or.inr (Or.inr (Or.inr (Or.inr (Or.inl q)))))))) (fun _ _ _ => rfl) ⟨rfl, rfl, rfl⟩, aX_fr h9 (fun c j q => hf c j (Or.inr (Or.inr (Or.inr (Or.inr (Or.inr (Or.inr (Or.inr (Or.inl q))))))))), aE_fr h10 (fun c j q => hf c j (Or.inr (Or.inr (Or.inr (Or.inr (Or.inr (Or.inr (Or.inr (Or.inr q)))))))))⟩
/-- exact -/
noncomputable def lf25 : ZSpf := fun σ _ _ _ _ _ => (σ, if (lwC σ).1 = 0 then 0 else lwE (lwC σ))
theorem lwE_b (x : CuL) : lwE x = 0 ∨ lwE x = 1 := by
  unfold lwE
  split
  · exact Or.inr rfl
  · exact Or.inl rfl
theorem lwB25 : lwCB 25 lf25 := ZSnd.alt (sn_Y_ex0.up (by decide)) (sn_Y_ex.up (by decide)) (by
  rintro args I L R S Q hz ⟨σ, a1, a2, a3, a4, a5, he, hr, hS, hc, hP, hQ⟩
  have hC := hP.2.2.2.2.2.2.1
  by_cases hm : (lwC σ).1 = 0
  · rw [show lf25 σ a1 a2 a3 a4 a5 = (σ, 0) from congrArg (Prod.mk σ) (if_pos hm)] at hQ
    exact Or.inl ⟨he, hS, hP.2.1.1, hC.2.1 hm, hQ _ _ _ _ hP zfB_0⟩
  · rw [show lf25 σ a1 a2 a3 a4 a5 = (σ, lwE (lwC σ)) from congrArg (Prod.mk σ) (if_neg hm)] at hQ
    obtain ⟨q, ⟨g1, g2, g3, g4, g5⟩, ⟨g6, g7, g8⟩, ⟨g9, g10⟩, g11, g12⟩ := hC.2.2 hm
    refine Or.inr ⟨q, _, he, hS, hP.2.1.1, g1, g3, g11, lwE_b _, ?_⟩
    rintro v rfl
    exact hQ _ _ _ _ hP zfB_0)
theorem lwA25 : lwCA 25 lf25 := ZSnd.alt (sn_Z_ex0.up (by decide)) (sn_Z_ex.up (by decide)) (by
  rintro args I L R S Q hz ⟨σ, a1, a2, a3, a4, a5, he, hr, hS, hc, hP, hQ⟩
  by_cases hm : (lwC σ).1 = 0
  · rw [show lf25 σ a1 a2 a3 a4 a5 = (σ, 0) from congrArg (Prod.mk σ) (if_pos hm)] at hQ
    exact Or.inl ⟨he, hS, hP.2.1.1, lwA_u0 hP hm, hQ _ _ _ _ hP zfA_0 (zRb rfl)⟩
  · rw [show lf25 σ a1 a2 a3 a4 a5 = (σ, lwE (lwC σ)) from congrArg (Prod.mk σ) (if_neg hm)] at hQ
    obtain ⟨k, r1, hd, hk, hU, h14, hm2⟩ := lwA_u hP hS hm
    refine Or.inr ⟨k, _, _, _, _, _, _, _, he, hS, hP.2.1.1, h14, hm2, r1, hd, hk, hU, hP.1.2.2.2.2.1.1.2.2.2, ?_⟩
    intro v hv
    have e : v = lwE (lwC σ) := by
      rw [hv]
      unfold lwE
      split <;> rfl
    subst e
    exact hQ _ _ _ _ hP zfA_0 (show r32 (lwE _) from by rcases lwE_b (lwC σ) with w | w <;> rw [w] <;> exact zRb rfl))
/-- drill -/
noncomputable def lwDr (w : List CuR) (a b : Int) : Int := if (0 ≤ a ∧ a ≤ 6) ∧ 0 ≤ b ∧ b < (dTx w a).length then wAt (dTx w a) b.toNat else -1
noncomputable def lf26 : ZSpf := fun σ a b _ _ _ => (σ, if (lwC σ).1 = 0 then -1 else lwDr (lwC σ).2.1 a b)
theorem lwB26 : lwCB 26 lf26 := ZSnd.alt (sn_Y_dr0.up (by decide)) (sn_Y_drh.up (by decide)) (by
  rintro args I L R S Q hz ⟨σ, a1, a2, a3, a4, a5, he, hr, hS, hc, hP, hQ⟩
  have hC := hP.2.2.2.2.2.2.1
  by_cases hm : (lwC σ).1 = 0
  · rw [show lf26 σ a1 a2 a3 a4 a5 = (σ, -1) from congrArg (Prod.mk σ) (if_pos hm)] at hQ
    exact Or.inl ⟨a1, a2, he, hS, hP.2.1.1, hC.2.1 hm, hQ _ _ _ _ hP zfB_0⟩
  · rw [show lf26 σ a1 a2 a3 a4 a5 = (σ, lwDr (lwC σ).2.1 a1 a2) from congrArg (Prod.mk σ) (if_neg hm)] at hQ
    obtain ⟨q, ⟨g1, g2, g3, g4, g5⟩, ⟨g6, g7, g8⟩, ⟨g9, g10⟩, g11, g12⟩ := hC.2.2 hm
    have hI := hP.1.2.2.2.2.1.2 hm
    refine Or.inr ⟨q, _, a1, a2, he, hS, hP.2.1.1, g1, g3, g9, g10, hI.2.2.2.2.1, hI.2.1, ⟨hr.1, hr.2.1⟩, hC.1.2.1, ?_⟩
    rintro v I' rfl h44 hf
    exact hQ _ _ _ _ (lwB_s hP (fun c j w => by rcases w with w | w | w | w | w | w | w | w <;> exact hf c j (by omega) (by omega) (by omega)) (fun _ _ _ => rfl) h44 (fun j w => by rw [hf _ _ (by omega) (by omega) (by omega)]; exact hC.1.2.2 j w) (fun q _ w => ⟨fun c j y => hf c j (by omega) (by omega) (by omega), fun c j y => rfl⟩) (fun g q _ _ w1 w2 => ⟨fun c j y => hf c j (by omega) (by omega) (by omega), fun c j y => rfl⟩) (fun q _ w => ⟨fun c j y => hf c j (by omega) (by omega) (by omega), fun c j y => rfl⟩)) (zfB_I (fun c j w => hf c j (by omega) (by omega) (by omega))))
theorem lwA26 : lwCA 26 lf26 := ZSnd.alt (sn_Z_dr0.up (by decide)) (sn_Z_dr.up (by decide)) (by
  rintro args I L R S Q hz ⟨σ, a1, a2, a3, a4, a5, he, hr, hS, hc, hP, hQ⟩
  by_cases hm : (lwC σ).1 = 0
  · rw [show lf26 σ a1 a2 a3 a4 a5 = (σ, -1) from congrArg (Prod.mk σ) (if_pos hm)] at hQ
    exact Or.inl ⟨a1, a2, he, hS, hP.2.1.1, lwA_u0 hP hm, hQ _ _ _ _ hP zfA_0 (zRb rfl)⟩
  · rw [show lf26 σ a1 a2 a3 a4 a5 = (σ, lwDr (lwC σ).2.1 a1 a2) from congrArg (Prod.mk σ) (if_neg hm)] at hQ
    obtain ⟨k, r1, hd, hk, hU, h14, hm2⟩ := lwA_u hP hS hm
    refine Or.inr ⟨k, _, _, _, _, _, _, _, a1, a2, he, hS, hP.2.1.1, h14, hm2, r1, hd, hk, hU, ⟨hr.1, hr.2.1⟩, ?_⟩
    rintro v I' rfl hf
    refine hQ _ _ _ _ (lwA_s hP (fun c j w => by rcases w with w | w | w | w | w | w | w | w | w <;> exact hf c j (by omega) (by omega))) (zfA_I (fun c j w => hf c j (by omega) (by omega))) (show r32 (lwDr _ _ _) from ?_)
    unfold lwDr
    split
    · have w := dTx_by (w := (lwC σ).2.1) (l := a1) (i := a2.toNat) (by omega)
      exact ⟨by omega, by omega⟩
    · exact zRb rfl)
/-- reread -/
def lf27 : ZSpf := fun σ a _ _ _ _ => (σ, if (lwC σ).1 = 0 then -1 else if 0 ≤ a ∧ a ≤ 6 then 1 else -1)
theorem lwB27 : lwCB 27 lf27 := ZSnd.alt (sn_Y_re0.up (by decide)) (sn_Y_reh.up (by decide)) (by
  rintro args I L R S Q hz ⟨σ, a1, a2, a3, a4, a5, he, hr, hS, hc, hP, hQ⟩
  have hC := hP.2.2.2.2.2.2.1
  by_cases hm : (lwC σ).1 = 0
  · rw [show lf27 σ a1 a2 a3 a4 a5 = (σ, -1) from congrArg (Prod.mk σ) (if_pos hm)] at hQ
    exact Or.inl ⟨a1, he, hS, hP.2.1.1, hC.2.1 hm, hQ _ _ _ _ hP zfB_0⟩
  · rw [show lf27 σ a1 a2 a3 a4 a5 = (σ, if 0 ≤ a1 ∧ a1 ≤ 6 then 1 else -1) from congrArg (Prod.mk σ) (if_neg hm)] at hQ
    obtain ⟨q, ⟨g1, g2, g3, g4, g5⟩, ⟨g6, g7, g8⟩, ⟨g9, g10⟩, g11, g12⟩ := hC.2.2 hm
    have hI := hP.1.2.2.2.2.1.2 hm
    refine Or.inr ⟨q, _, a1, he, hS, hP.2.1.1, g1, g3, g9, g10, hI.2.2.2.2.1, hI.2.1, hC.1.2.2, hr.1, hC.1.2.1, ?_⟩
    rintro v I' L' rfl h44 h215 hf hl
    exact hQ _ _ _ _ (lwB_s hP (fun c j w => by rcases w with w | w | w | w | w | w | w | w <;> exact hf c j (by omega) (by omega) (by omega) (by omega)) (fun c j w => hl c j (by omega)) h44 h215 (fun q _ w => ⟨fun c j y => hf c j (by omega) (by omega) (by omega) (by omega), fun c j y => hl c j (by omega)⟩) (fun g q _ _ w1 w2 => ⟨fun c j y => hf c j (by omega) (by omega) (by omega) (by omega), fun c j y => hl c j (by omega)⟩) (fun q _ w => ⟨fun c j y => hf c j (by omega) (by omega) (by omega) (by omega), fun c j y => hl c j (by omega)⟩)) (zfB_IL (fun c j w => hf c j (by omega) (by omega) (by omega) (by omega)) (fun c j w => hl c j (by omega))))
theorem lwA27 : lwCA 27 lf27 := ZSnd.alt (sn_Z_re0.up (by decide)) (sn_Z_re.up (by decide)) (by
  rintro args I L R S Q hz ⟨σ, a1, a2, a3, a4, a5, he, hr, hS, hc, hP, hQ⟩
  by_cases hm : (lwC σ).1 = 0
  · rw [show lf27 σ a1 a2 a3 a4 a5 = (σ, -1) from congrArg (Prod.mk σ) (if_pos hm)] at hQ
    exact Or.inl ⟨a1, he, hS, hP.2.1.1, lwA_u0 hP hm, hQ _ _ _ _ hP zfA_0 (zRb rfl)⟩
  · rw [show lf27 σ a1 a2 a3 a4 a5 = (σ, if 0 ≤ a1 ∧ a1 ≤ 6 then 1 else -1) from congrArg (Prod.mk σ) (if_neg hm)] at hQ
    obtain ⟨k, r1, hd, hk, hU, h14, hm2⟩ := lwA_u hP hS hm
    refine Or.inr ⟨k, _, _, _, _, _, _, _, a1, he, hS, hP.2.1.1, h14, hm2, r1, hd, hk, hU, hr.1, ?_⟩
    rintro v I' rfl hf
    refine hQ _ _ _ _ (lwA_s hP (fun c j w => by rcases w with w | w | w | w | w | w | w | w | w <;> exact hf c j (by omega) (by omega) (by omega))) (zfA_I (fun c j w => hf c j (by omega) (by omega) (by omega))) (show r32 (if 0 ≤ a1 ∧ a1 ≤ 6 then 1 else -1) from ?_)
    split
    · exact zRb rfl
    · exact zRb rfl)
