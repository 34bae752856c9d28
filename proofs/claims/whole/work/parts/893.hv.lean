
/-- drop, sweep and what is told of the store: the store is new -/
def lwx (σ : LwS) (d : Int) (y : StL) : LwS := ((d, σ.1.2), σ.2.1, σ.2.2.1, σ.2.2.2.1, σ.2.2.2.2.1, σ.2.2.2.2.2.1, y, σ.2.2.2.2.2.2.2)
abbrev lwX (σ : LwS) : StL := σ.2.2.2.2.2.2.1
/-- saved -/
noncomputable def lf39 : ZSpf := fun σ e i _ _ _ => (σ, stQ (lwX σ).1.1 (lwX σ).1.2.2.1 (lwX σ).2.1 e i)
theorem lwB39 : lwCB 39 lf39 := (sn_Y_svd.up (by decide)).imp (by
  rintro args I L R S Q hz ⟨σ, a1, a2, a3, a4, a5, he, hr, hS, hc, hP, hQ⟩
  have hX : bX (lwX σ) I := hP.2.2.2.2.2.2.2.2.1
  refine ⟨(lwX σ).1, (lwX σ).2.1, a1, a2, he, hS, hP.2.1.1, hX.1, ⟨hr.1, hr.2.1⟩, ?_⟩
  rintro v I' rfl hf
  exact hQ _ _ _ _ (lwB_s0 hP (fun c j q => by rcases q with (q | q | q | q | q | q | q | q) | q | q | q <;> exact hf c j (by omega) (by omega) (by omega) (by omega) (by omega) (by omega) (by omega) (by omega) (by omega) (by omega) (by omega)) (fun _ _ _ => rfl)) (zfB_I (fun c j w => hf c j (by omega) (by omega) (by omega) (by omega) (by omega) (by omega) (by omega) (by omega) (by omega) (by omega) (by omega))))
/-- airline, the reference -/
noncomputable def lf23 : ZSpf := fun σ a k w _ _ => (σ, if (lwC σ).1 = 0 then -1 else cuAe (lwC σ).2.1 (lwC σ).2.2.1 a k w)
theorem lwB23 : lwCB 23 lf23 := ZSnd.alt (sn_Y_ai0.up (by decide)) (sn_Y_aif.up (by decide)) (by
  rintro args I L R S Q hz ⟨σ, a1, a2, a3, a4, a5, he, hr, hS, hc, hP, hQ⟩
  have hC := hP.2.2.2.2.2.2.1
  by_cases hm : (lwC σ).1 = 0
  · rw [show lf23 σ a1 a2 a3 a4 a5 = (σ, -1) from congrArg (Prod.mk σ) (if_pos hm)] at hQ
    exact Or.inl ⟨a1, a2, a3, he, hS, hP.2.1.1, hC.2.1 hm, hQ _ _ _ _ hP zfB_0⟩
  · rw [show lf23 σ a1 a2 a3 a4 a5 = (σ, cuAe (lwC σ).2.1 (lwC σ).2.2.1 a1 a2 a3) from congrArg (Prod.mk σ) (if_neg hm)] at hQ
    obtain ⟨q, ⟨g1, g2, g3, g4, g5⟩, ⟨g6, g7, g8⟩, ⟨g9, g10⟩, g11, g12⟩ := hC.2.2 hm
    have hI := hP.1.2.2.2.2.1.2 hm
    refine Or.inr ⟨q, _, _, a1, a2, a3, he, hS, hP.2.1.1, g1, g3, g6, hI.2.1, hI.2.2.1, hI.2.2.2.1, g5, ⟨hr.1, hr.2.1, hr.2.2.1⟩, ?_⟩
    rintro v I' L' rfl hf hl
    exact hQ _ _ _ _ (lwB_c hP g1 g5 (fun c j w => hf c j (by omega) (by omega) (by omega) (by omega) (by omega) (by omega)) (fun c j w => hl c j (by omega))) (zfB_IL (fun c j w => hf c j (by omega) (by omega) (by omega) (by omega) (by omega) (by omega)) (fun c j w => hl c j (by omega))))
