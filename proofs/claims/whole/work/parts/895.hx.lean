
theorem lwB_rd {σ : LwS} {I L I' : ZI} {R : ZR} {S : ZS} (h : lwB σ I L R S) (hR : bR σ.2.1 I' L R S) (hf : ∀ c j : Nat, ¬ (168 ≤ c ∧ c ≤ 193) → I' c j = I c j) : lwB σ I' L R S := by
  obtain ⟨h0, h1, h3, h4, h5, h6, h7, h8, h9, h10⟩ := h
  exact ⟨h0, h1, bT_fr h3 (fun c j q => hf c j (by omega)), hR, bB_fr h5 (zSg_r _) (fun c j q => hf c j (by omega)) ⟨rfl, rfl⟩ (fun g q _ _ w1 w2 w3 => ⟨fun c j w => hf c j (by omega), fun c j w => ⟨rfl, rfl⟩⟩), bU_fr h6 (fun c j q => hf c j (by omega)), bC_fr h7 (zSg_r _) (by rw [hf _ _ (by omega)]; exact h7.1.2.1) (fun j q => by rw [hf _ _ (by omega)]; exact h7.1.2.2 j q) (fun c j q => hf c j (by omega)) ⟨rfl, rfl⟩ (fun q _ w1 w2 => ⟨fun c j w => hf c j (by omega), fun c j w => rfl, fun c j w => rfl⟩), bS_fr h8 (fun c j q => hf c j (by omega)) (fun c j q => rfl), bX_fr h9 (fun c j q => hf c j (by omega)), bE_fr h10 (fun c j q => hf c j (by omega))⟩
theorem lwB5 : lwCB 5 lf5 := ZSnd.alt3 (sn_Y_wrt0.up (by decide)) (sn_Y_wrt1.up (by decide)) (sn_Y_wrt2.up (by decide)) (by
  rintro args I L R S Q hz ⟨σ, a1, a2, a3, a4, a5, he, hr, hS, hc, hP, hQ⟩
  have hI : iR σ.2.1 := hP.1.2.1
  obtain ⟨b1, b2, b3⟩ : bR σ.2.1 I L R S := hP.2.2.2.1
  rcases lwB_r hP with ⟨q0, q1, q2, q3, q4⟩ | ⟨q0, ⟨q1, q2, q3, q4, q5⟩ | ⟨q1, q2, q3, q4, q5⟩, qd⟩
  · rw [show lf5 σ a1 a2 a3 a4 a5 = (σ, -1) from congrArg (Prod.mk σ) (by rw [q4]; exact lwO_p)] at hQ
    exact Or.inl ⟨a1, he, hS, hP.2.1.1, q1, hQ _ _ _ _ hP zfB_0⟩
  · obtain ⟨o1, dp, o2, o3, o4, o5⟩ := hI.2.2.2 q0
    obtain ⟨c1, c2, c3, q, c4, c5, c6, c7, c8⟩ := b3 q0
    have q5' : zPS 168 σ.2.1.2.2.1 (wPg σ.2.1.2.2.1 dp σ.2.1.2.2.2.1) I := by rw [← o2]; exact q5
    refine Or.inr (Or.inl ⟨σ.2.1.2.2.1, dp, σ.2.1.2.2.2.1, a1, he, hS, hP.2.1.1, q1, q3, hI.2.1.1, hI.2.1.2.1, q4, b1.2.1.trans q2.symm, ⟨hI.1.2.2.1, hI.1.2.2.2⟩, o3, o4, o5, q5', by have := hI.2.1.2.2.2.2; rw [← o2]; omega, o1, hr.1, ?_⟩)
    intro v I' hv hp hf
    have e : lf5 σ a1 a2 a3 a4 a5 = (σ, v) := congrArg (Prod.mk σ) (by rw [hv, ← o2])
    rw [e] at hQ
    refine hQ _ _ _ _ (lwB_rd hP ⟨⟨⟨(hf _ _ (by omega) (by omega) (by omega) (by omega)).trans b1.1.1, (hf _ _ (by omega) (by omega) (by omega) (by omega)).trans b1.1.2⟩, (hf _ _ (by omega) (by omega) (by omega) (by omega)).trans b1.2.1, (hf _ _ (by omega) (by omega) (by omega) (by omega)).trans b1.2.2⟩, fun y => absurd y q0, fun _ => ⟨(hf _ _ (by omega) (by omega) (by omega) (by omega)).trans c1, fun _ => ⟨zOM_fr q3 (fun c j w => hf c j (by omega) (by omega) (by omega) (by omega)) (fun _ _ _ => rfl), zOU_fr q4 (fun c j w => hf c j (by omega) (by omega) (by omega) (by omega)), by rw [o2]; exact hp⟩, fun y => absurd (q2.symm.trans y) (by decide), q, c4, c5, c6, zNJ_fr c7 (fun c j w => hf c j (by omega) (by omega) (by omega) (by omega)) (fun _ _ _ => rfl), zJO_fr c8 (fun c j w => hf c j (by omega) (by omega) (by omega) (by omega))⟩⟩ (fun c j w => hf c j (by omega) (by omega) (by omega) (by omega))) (zfB_I (fun c j w => hf c j (by omega) (by omega) (by omega) (by omega)))
  · obtain ⟨o1, dp, o2, o3, o4, o5⟩ := hI.2.2.2 q0
    obtain ⟨c1, c2, c3, q, c4, c5, c6, c7, c8⟩ := b3 q0
    have q5' : zPS 181 σ.2.1.2.2.1 (wPg σ.2.1.2.2.1 dp σ.2.1.2.2.2.1) I := by rw [← o2]; exact q5
    refine Or.inr (Or.inr ⟨σ.2.1.2.2.1, dp, σ.2.1.2.2.2.1, a1, he, hS, hP.2.1.1, q1, q3, hI.2.1.1, hI.2.1.2.1, q4, b1.2.2.trans q2.symm, ⟨hI.1.2.2.1, hI.1.2.2.2⟩, o3, o4, o5, q5', by have := hI.2.1.2.2.2.2; rw [← o2]; omega, o1, hr.1, ?_⟩)
    intro v I' hv hp hf
    have e : lf5 σ a1 a2 a3 a4 a5 = (σ, v) := congrArg (Prod.mk σ) (by rw [hv, ← o2])
    rw [e] at hQ
    refine hQ _ _ _ _ (lwB_rd hP ⟨⟨⟨(hf _ _ (by omega) (by omega) (by omega) (by omega)).trans b1.1.1, (hf _ _ (by omega) (by omega) (by omega) (by omega)).trans b1.1.2⟩, (hf _ _ (by omega) (by omega) (by omega) (by omega)).trans b1.2.1, (hf _ _ (by omega) (by omega) (by omega) (by omega)).trans b1.2.2⟩, fun y => absurd y q0, fun _ => ⟨(hf _ _ (by omega) (by omega) (by omega) (by omega)).trans c1, fun y => absurd (q2.symm.trans y) (by decide), fun _ => ⟨zOM_fr q3 (fun c j w => hf c j (by omega) (by omega) (by omega) (by omega)) (fun _ _ _ => rfl), zOU_fr q4 (fun c j w => hf c j (by omega) (by omega) (by omega) (by omega)), by rw [o2]; exact hp⟩, q, c4, c5, c6, zNJ_fr c7 (fun c j w => hf c j (by omega) (by omega) (by omega) (by omega)) (fun _ _ _ => rfl), zJO_fr c8 (fun c j w => hf c j (by omega) (by omega) (by omega) (by omega))⟩⟩ (fun c j w => hf c j (by omega) (by omega) (by omega) (by omega))) (zfB_I (fun c j w => hf c j (by omega) (by omega) (by omega) (by omega))))
