
/-- nets -/
noncomputable def lf6 : ZSpf := fun σ _ _ _ _ _ => (σ, (zct (jFst (oD σ.2.1.2.2.1)) 960 : Nat))
theorem lwB6 : lwCB 6 lf6 := ZSnd.alt (sn_Y_nts0.up (by decide)) (sn_Y_nts.up (by decide)) (by
  rintro args I L R S Q hz ⟨σ, a1, a2, a3, a4, a5, he, hr, hS, hc, hP, hQ⟩
  have hj := hP.1.2.1.2.1.2.2.2.1
  rcases lwB_r hP with ⟨q0, q1, q2, q3, q4⟩ | ⟨q0, _, q, g1, g2, g3, g4, g5⟩
  · rw [show lf6 σ a1 a2 a3 a4 a5 = (σ, 0) from congrArg (Prod.mk σ) (by rw [(jFst_E hj (by rw [q3]; rfl)).2.2]; rfl)] at hQ
    exact Or.inl ⟨he, hS, hP.2.1.1, q2, hQ _ _ _ _ hP zfB_0⟩
  · refine Or.inr ⟨q, _, he, hS, hP.2.1.1, g1, g2, g3, g4, hj, g5, ?_⟩
    rintro v I' rfl hf
    exact hQ _ _ _ _ (lwB_q hP g1 g3 hf) (zfB_I (fun c j w => hf c j (by omega))))
theorem lwA6 : lwCA 6 lf6 := (sn_Z_nts.up (by decide)).imp (by
  rintro args I L R S Q hz ⟨σ, a1, a2, a3, a4, a5, he, hr, hS, hc, hP, hQ⟩
  obtain ⟨_, _, ⟨ob, hda⟩, hcf, hcw⟩ := hP.2.2.2.1
  refine ⟨_, he, hS, hP.2.1.1, hcf.1, ?_⟩
  rintro v rfl
  exact hQ _ _ _ _ hP zfA_0 (show r32 ((zct (jFst (oD σ.2.1.2.2.1)) 960 : Nat) : Int) from by rw [← hcf.1]; exact hz.1 _ _))
/-- written -/
def lf5 : ZSpf := fun σ i _ _ _ _ => (σ, pgV σ.2.1.2.2.2.2 i)
theorem lwO_p {i : Int} : pgV [] i = -1 := if_neg (fun q => by have : i < ((0 : Nat) : Int) := q.2; omega)
theorem lwA5 : lwCA 5 lf5 := (sn_Z_wrt.up (by decide)).imp (by
  rintro args I L R S Q hz ⟨σ, a1, a2, a3, a4, a5, he, hr, hS, hc, hP, hQ⟩
  obtain ⟨k, r4, hd, hk, ho, hp⟩ := lwA_k hP hS
  have hl : σ.2.1.2.2.2.2.length ≤ 26000 := hP.1.2.1.2.1.2.2.2.2
  refine ⟨k, _, a1, he, hS, hP.2.1.1, r4, hd, hk, hp, hl, hr.1, ?_⟩
  rintro v rfl
  refine hQ _ _ _ _ hP zfA_0 (show r32 (pgV σ.2.1.2.2.2.2 a1) from ?_)
  unfold pgV
  split
  · rw [← hp.2 a1.toNat (by omega)]; exact hz.1 _ _
  · exact zRb rfl)
