
theorem ZSnd.alt3 {h c i : Nat} {T1 T2 T3 T' : ZT} (h1 : ZSnd h c i T1) (h2 : ZSnd h c i T2) (h3 : ZSnd h c i T3) (hi : ∀ args I L R S Q, zok I L → T' args I L R S Q → T1 args I L R S Q ∨ T2 args I L R S Q ∨ T3 args I L R S Q) : ZSnd h c i T' := fun d hd args I L R S Q hz g => by
  rcases hi args I L R S Q hz g with q | q | q
  · exact h1 d hd args I L R S Q hz q
  · exact h2 d hd args I L R S Q hz q
  · exact h3 d hd args I L R S Q hz q
theorem lwO_k {j : Int} : kdV lwO j = -1 := if_neg (fun q => by have : j < ((0 : Nat) : Int) := q.2; omega)
theorem lwO_n {j w : Int} : nmV lwO j w = 0 := if_neg (fun q => by have : j < ((0 : Nat) : Int) := q.1.2; omega)
/-- what the reference holds of a drawing read -/
theorem lwB_r {σ : LwS} {I L : ZI} {R : ZR} {S : ZS} (h : lwB σ I L R S) : (σ.2.1.2.1 = 0 ∧ I 165 4 = -1 ∧ R 165 7 = none ∧ σ.2.1.2.2.1 = lwO ∧ σ.2.1.2.2.2.2 = []) ∨ (σ.2.1.2.1 ≠ 0 ∧ ((I 165 4 = 0 ∧ σ.2.1.2.2.2.1 = 0 ∧ zOM 168 σ.2.1.2.2.1 I L ∧ zOU 168 σ.2.1.2.2.1 I ∧ zPS 168 σ.2.1.2.2.1 σ.2.1.2.2.2.2 I) ∨ (I 165 4 = 1 ∧ σ.2.1.2.2.2.1 = 1 ∧ zOM 181 σ.2.1.2.2.1 I L ∧ zOU 181 σ.2.1.2.2.1 I ∧ zPS 181 σ.2.1.2.2.1 σ.2.1.2.2.2.2 I)) ∧ ∃ q : Nat, R 165 7 = some q ∧ zDy zT18 zF18 q R S ∧ 302 ≤ q ∧ zNJ q (oD σ.2.1.2.2.1) I L ∧ zJO q (oD σ.2.1.2.2.1) I) := by
  obtain ⟨h1, h2, h3⟩ := h.2.2.2.1
  have hI := h.1.2.1
  by_cases q : σ.2.1.2.1 = 0
  · exact Or.inl ⟨q, (h2 q).1, (h2 q).2, (hI.2.2.1 q).1, (hI.2.2.1 q).2⟩
  · obtain ⟨g1, g2, g3, g4⟩ := h3 q
    have b := hI.1
    refine Or.inr ⟨q, ?_, g4⟩
    rcases (show σ.2.1.2.2.2.1 = 0 ∨ σ.2.1.2.2.2.1 = 1 by omega) with w | w
    · exact Or.inl ⟨g1.trans w, w, g2 w⟩
    · exact Or.inr ⟨g1.trans w, w, g3 w⟩
theorem lwB_6 {σ : LwS} {I L I' : ZI} {R : ZR} {S : ZS} (h : lwB σ I L R S) (hf : ∀ c j : Nat, ¬ ((c = 168 ∨ c = 181) ∧ j = 0) → I' c j = I c j) : lwB σ I' L R S := lwB_s0 h (fun c j q => by rcases q with (q | q | q | q | q | q | q | q) | q | q | q <;> exact hf c j (by omega)) (fun _ _ _ => rfl)
/-- kind -/
def lf3 : ZSpf := fun σ j _ _ _ _ => (σ, kdV σ.2.1.2.2.1 j)
theorem lwB3 : lwCB 3 lf3 := ZSnd.alt3 (sn_Y_knd0.up (by decide)) (sn_Y_knd1.up (by decide)) (sn_Y_knd2.up (by decide)) (by
  rintro args I L R S Q hz ⟨σ, a1, a2, a3, a4, a5, he, hr, hS, hc, hP, hQ⟩
  rcases lwB_r hP with ⟨q0, q1, q2, q3, q4⟩ | ⟨q0, ⟨q1, q2, q3, q4⟩ | ⟨q1, q2, q3, q4⟩, _⟩
  · rw [show lf3 σ a1 a2 a3 a4 a5 = (σ, -1) from congrArg (Prod.mk σ) (by rw [q3]; exact lwO_k)] at hQ
    exact Or.inl ⟨a1, he, hS, hP.2.1.1, q1, hQ _ _ _ _ hP zfB_0⟩
  · refine Or.inr (Or.inl ⟨_, a1, he, hS, hP.2.1.1, q1, q3, hP.1.2.1.2.1.1, hr.1, ?_⟩)
    rintro v I' rfl hf
    exact hQ _ _ _ _ (lwB_6 hP (fun c j w => hf c j (by omega))) (zfB_I (fun c j w => hf c j (by omega)))
  · refine Or.inr (Or.inr ⟨_, a1, he, hS, hP.2.1.1, q1, q3, hP.1.2.1.2.1.1, hr.1, ?_⟩)
    rintro v I' rfl hf
    exact hQ _ _ _ _ (lwB_6 hP (fun c j w => hf c j (by omega))) (zfB_I (fun c j w => hf c j (by omega))))
def lf4 : ZSpf := fun σ j w _ _ _ => (σ, nmV σ.2.1.2.2.1 j w)
theorem lwB4 : lwCB 4 lf4 := ZSnd.alt3 (sn_Y_nbr0.up (by decide)) (sn_Y_nbr1.up (by decide)) (sn_Y_nbr2.up (by decide)) (by
  rintro args I L R S Q hz ⟨σ, a1, a2, a3, a4, a5, he, hr, hS, hc, hP, hQ⟩
  rcases lwB_r hP with ⟨q0, q1, q2, q3, q4⟩ | ⟨q0, ⟨q1, q2, q3, q4⟩ | ⟨q1, q2, q3, q4⟩, _⟩
  · rw [show lf4 σ a1 a2 a3 a4 a5 = (σ, 0) from congrArg (Prod.mk σ) (by rw [q3]; exact lwO_n)] at hQ
    exact Or.inl ⟨a1, a2, he, hS, hP.2.1.1, q1, hQ _ _ _ _ hP zfB_0⟩
  · refine Or.inr (Or.inl ⟨_, a1, a2, he, hS, hP.2.1.1, q1, q3, hP.1.2.1.2.1.1, hP.1.2.1.2.1.2.2.1, ⟨hr.1, hr.2.1⟩, ?_⟩)
    rintro v I' rfl hf
    exact hQ _ _ _ _ (lwB_6 hP (fun c j w => hf c j (by omega))) (zfB_I (fun c j w => hf c j (by omega)))
  · refine Or.inr (Or.inr ⟨_, a1, a2, he, hS, hP.2.1.1, q1, q3, hP.1.2.1.2.1.1, hP.1.2.1.2.1.2.2.1, ⟨hr.1, hr.2.1⟩, ?_⟩)
    rintro v I' rfl hf
    exact hQ _ _ _ _ (lwB_6 hP (fun c j w => hf c j (by omega))) (zfB_I (fun c j w => hf c j (by omega))))
theorem lwA_k {σ : LwS} {I L : ZI} {R : ZR} {S : ZS} (h : lwA σ I L R S) (hS : zSh S) : ∃ k : Nat, R 40 4 = some k ∧ zDy zT2 zF2 k R S ∧ (43 ≤ k ∧ k ≤ 52) ∧ zOB k σ.2.1.2.2.1 I L ∧ zPG k σ.2.1.2.2.2.2 I := by
  obtain ⟨_, ⟨k, u, hk, ⟨r4, r5⟩, ho, hp⟩, _⟩ := h.2.2.2.1
  refine ⟨k, r4, ?_, by omega, ho, hp⟩
  rcases hk with q | q
  · rw [q.1]; exact zDy_43 h.2.1.1 hS
  · rw [q.1]; exact zDy_52 h.2.1.1 hS
theorem lwA3 : lwCA 3 lf3 := (sn_Z_knd.up (by decide)).imp (by
  rintro args I L R S Q hz ⟨σ, a1, a2, a3, a4, a5, he, hr, hS, hc, hP, hQ⟩
  obtain ⟨k, r4, hd, hk, ho, hp⟩ := lwA_k hP hS
  refine ⟨k, _, a1, he, hS, hP.2.1.1, r4, hd, hk, ho, hP.1.2.1.2.1.1, hr.1, ?_⟩
  rintro v rfl
  refine hQ _ _ _ _ hP zfA_0 (show r32 (kdV σ.2.1.2.2.1 a1) from ?_)
  unfold kdV
  split
  · rw [← (ho.2.1 a1.toNat (by omega)).1]; exact hz.1 _ _
  · exact zRb rfl)
theorem lwA4 : lwCA 4 lf4 := (sn_Z_nbr.up (by decide)).imp (by
  rintro args I L R S Q hz ⟨σ, a1, a2, a3, a4, a5, he, hr, hS, hc, hP, hQ⟩
  obtain ⟨k, r4, hd, hk, ho, hp⟩ := lwA_k hP hS
  refine ⟨k, _, a1, a2, he, hS, hP.2.1.1, r4, hd, hk, ho, hP.1.2.1.2.1.1, ⟨hr.1, hr.2.1⟩, ?_⟩
  rintro v rfl
  refine hQ _ _ _ _ hP zfA_0 (show r64 (nmV σ.2.1.2.2.1 a1 a2) from ?_)
  unfold nmV
  split
  · rw [← ho.2.2.1 a1.toNat a2.toNat (by omega) (by omega)]; exact hz.2 _ _
  · exact ⟨by decide, by decide⟩)
/-- netOf -/
noncomputable def lf7 : ZSpf := fun σ x y _ _ _ => (σ, jOf (oD σ.2.1.2.2.1) x y)
theorem lwB7 : lwCB 7 lf7 := ZSnd.alt (sn_Y_nto0.up (by decide)) (sn_Y_nto.up (by decide)) (by
  rintro args I L R S Q hz ⟨σ, a1, a2, a3, a4, a5, he, hr, hS, hc, hP, hQ⟩
  have hj := hP.1.2.1.2.1.2.2.2.1
  rcases lwB_r hP with ⟨q0, q1, q2, q3, q4⟩ | ⟨q0, _, q, g1, g2, g3, g4, g5⟩
  · rw [show lf7 σ a1 a2 a3 a4 a5 = (σ, -1) from congrArg (Prod.mk σ) (jOf_E hj (by rw [q3]; rfl))] at hQ
    exact Or.inl ⟨a1, a2, he, hS, hP.2.1.1, q2, hQ _ _ _ _ hP zfB_0⟩
  · refine Or.inr ⟨q, _, a1, a2, he, hS, hP.2.1.1, g1, g2, g3, g4, hj, g5, ⟨hr.1, hr.2.1⟩, ?_⟩
    rintro v I' rfl hf
    exact hQ _ _ _ _ (lwB_q hP g1 g3 hf) (zfB_I (fun c j w => hf c j (by omega))))
theorem lwA7 : lwCA 7 lf7 := (sn_Z_nto.up (by decide)).imp (by
  rintro args I L R S Q hz ⟨σ, a1, a2, a3, a4, a5, he, hr, hS, hc, hP, hQ⟩
  obtain ⟨_, _, ⟨ob, hda⟩, hcf, hcw⟩ := hP.2.2.2.1
  have hj := hP.1.2.1.2.1.2.2.2.1
  refine ⟨_, ob, a1, a2, he, hS, hP.2.1.1, hda, hj, hcw, ⟨hr.1, hr.2.1⟩, ?_⟩
  rintro v rfl
  exact hQ _ _ _ _ hP zfA_0 (show r32 (jOf (oD σ.2.1.2.2.1) a1 a2) from ⟨by have := jOf_b (x := a1) (y := a2) hj; omega, by have := jOf_b (x := a1) (y := a2) hj; omega⟩))
/-- nameOf, remark -/
noncomputable def lf8 : ZSpf := fun σ x _ _ _ _ => (σ, jNmI (oD σ.2.1.2.2.1) x)
theorem lwB8 : lwCB 8 lf8 := ZSnd.alt3 (sn_Y_nmo0.up (by decide)) (sn_Y_nmo.up (by decide)) (sn_Y_nmoE.up (by decide)) (by
  rintro args I L R S Q hz ⟨σ, a1, a2, a3, a4, a5, he, hr, hS, hc, hP, hQ⟩
  have hj := hP.1.2.1.2.1.2.2.2.1
  rcases lwB_r hP with ⟨q0, q1, q2, q3, q4⟩ | ⟨q0, _, q, g1, g2, g3, g4, g5 | g5⟩
  · rw [show lf8 σ a1 a2 a3 a4 a5 = (σ, -1000) from congrArg (Prod.mk σ) (jNmI_E hj (by rw [q3]; rfl))] at hQ
    exact Or.inl ⟨a1, he, hS, hP.2.1.1, q2, hQ _ _ _ _ hP zfB_0⟩
  · refine Or.inr (Or.inl ⟨q, _, a1, he, hS, hP.2.1.1, g1, g2, g3, g4, hj, g5, hr.1, ?_⟩)
    rintro v I' rfl hf
    exact hQ _ _ _ _ (lwB_q hP g1 g3 hf) (zfB_I (fun c j w => hf c j (by omega)))
  · refine Or.inr (Or.inr ⟨q, _, a1, he, hS, hP.2.1.1, g1, g2, g3, g4, hj, g5.1, g5.2, hr.1, ?_⟩)
    rintro v I' rfl hf
    exact hQ _ _ _ _ (lwB_q hP g1 g3 hf) (zfB_I (fun c j w => hf c j (by omega))))
theorem lwA8 : lwCA 8 lf8 := (sn_Z_nmo.up (by decide)).imp (by
  rintro args I L R S Q hz ⟨σ, a1, a2, a3, a4, a5, he, hr, hS, hc, hP, hQ⟩
  obtain ⟨_, _, ⟨ob, hda⟩, hcf, hcw⟩ := hP.2.2.2.1
  refine ⟨_, a1, he, hS, hP.2.1.1, hcf, hr.1, ?_⟩
  rintro v rfl
  refine hQ _ _ _ _ hP zfA_0 (show r32 (jNmI (oD σ.2.1.2.2.1) a1) from ?_)
  unfold jNmI
  split
  · rw [← hcf.2.1 a1.toNat (by omega)]; exact hz.1 _ _
  · exact zRb rfl)
noncomputable def lf9 : ZSpf := fun σ x _ _ _ _ => (σ, jRm (oD σ.2.1.2.2.1) x)
theorem lwB9 : lwCB 9 lf9 := ZSnd.alt3 (sn_Y_rmk0.up (by decide)) (sn_Y_rmk.up (by decide)) (sn_Y_rmkE.up (by decide)) (by
  rintro args I L R S Q hz ⟨σ, a1, a2, a3, a4, a5, he, hr, hS, hc, hP, hQ⟩
  have hj := hP.1.2.1.2.1.2.2.2.1
  rcases lwB_r hP with ⟨q0, q1, q2, q3, q4⟩ | ⟨q0, _, q, g1, g2, g3, g4, g5 | g5⟩
  · rw [show lf9 σ a1 a2 a3 a4 a5 = (σ, -1) from congrArg (Prod.mk σ) (jRm_E hj (by rw [q3]; rfl))] at hQ
    exact Or.inl ⟨a1, he, hS, hP.2.1.1, q2, hQ _ _ _ _ hP zfB_0⟩
  · refine Or.inr (Or.inl ⟨q, _, a1, he, hS, hP.2.1.1, g1, g2, g3, g4, hj, g5, hr.1, ?_⟩)
    rintro v I' rfl hf
    exact hQ _ _ _ _ (lwB_q hP g1 g3 hf) (zfB_I (fun c j w => hf c j (by omega)))
  · refine Or.inr (Or.inr ⟨q, _, a1, he, hS, hP.2.1.1, g1, g2, g3, g4, hj, g5.1, g5.2, hr.1, ?_⟩)
    rintro v I' rfl hf
    exact hQ _ _ _ _ (lwB_q hP g1 g3 hf) (zfB_I (fun c j w => hf c j (by omega))))
theorem lwA9 : lwCA 9 lf9 := (sn_Z_rmk.up (by decide)).imp (by
  rintro args I L R S Q hz ⟨σ, a1, a2, a3, a4, a5, he, hr, hS, hc, hP, hQ⟩
  obtain ⟨_, _, ⟨ob, hda⟩, hcf, hcw⟩ := hP.2.2.2.1
  refine ⟨_, a1, he, hS, hP.2.1.1, hcf, hr.1, ?_⟩
  rintro v rfl
  refine hQ _ _ _ _ hP zfA_0 (show r32 (jRm (oD σ.2.1.2.2.1) a1) from ?_)
  by_cases q : a1 < 0 ∨ (cTot (oD σ.2.1.2.2.1) : Int) ≤ a1
  · rw [jRm_no q]; exact zRb rfl
  · have z := hcf.2.2.2.2 a1.toNat (by omega)
    rw [show a1 = (a1.toNat : Int) by omega, ← z]
    exact hz.1 _ _)
