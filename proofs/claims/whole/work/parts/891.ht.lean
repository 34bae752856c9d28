
/-- proof, check -/
def lwPk (x : ReL) (a k i : Int) : Prop := 0 ≤ a ∧ a < x.1.1 ∧ 0 ≤ k ∧ k < rW (x.1.2.2 a.toNat) 0 ∧ 0 ≤ i ∧ i < 1 + 33 * pfN (x.1.2.2 a.toNat) k.toNat (rT (x.1.2.2 a.toNat))
noncomputable def lf46 : ZSpf := fun σ a k i _ _ => (σ, @ite Int (lwPk (lwR σ) a k i) (Classical.propDecidable _) (pfB ((lwR σ).1.2.1 a.toNat) ((lwR σ).1.2.2 a.toNat) k.toNat (rT ((lwR σ).1.2.2 a.toNat)) i.toNat) (-1))
theorem lf46_e {σ : LwS} {a k i b c v : Int} (hv : v = if 0 ≤ a ∧ a < (lwR σ).1.1 ∧ 0 ≤ k ∧ k < rW ((lwR σ).1.2.2 a.toNat) 0 ∧ 0 ≤ i ∧ i < 1 + 33 * pfN ((lwR σ).1.2.2 a.toNat) k.toNat (rT ((lwR σ).1.2.2 a.toNat)) then pfB ((lwR σ).1.2.1 a.toNat) ((lwR σ).1.2.2 a.toNat) k.toNat (rT ((lwR σ).1.2.2 a.toNat)) i.toNat else -1) : lf46 σ a k i b c = (σ, v) := by
  refine congrArg (Prod.mk σ) ?_
  rw [hv]
  by_cases h : lwPk (lwR σ) a k i
  · rw [if_pos h]; exact (if_pos h).symm
  · rw [if_neg h]; exact (if_neg h).symm
theorem lwA46 : lwCA 46 lf46 := (sn_Z_prf.up (by decide)).imp (by
  rintro args I L R S Q hz ⟨σ, a1, a2, a3, a4, a5, he, hr, hS, hc, hP, hQ⟩
  refine ⟨a1, a2, a3, (lwR σ).1.1, (lwR σ).1.2.1, (lwR σ).1.2.2, he, hS, hP.2.1.1, ⟨hr.1, hr.2.1, hr.2.2.1⟩, hP.2.2.2.2.2.2.2.2.2.1, ?_⟩
  intro v I' hv hf
  rw [lf46_e hv] at hQ
  refine hQ _ _ _ _ (lwA_s hP (fun c j w => by rcases w with w | w | w | w | w | w | w | w | w <;> exact hf c j (by omega) (by omega))) (zfA_I (fun c j w => hf c j (by omega) (by omega))) (show r32 v from ?_)
  rw [hv]
  split
  · have w := pfB_b ((lwR σ).1.2.1 a1.toNat) ((lwR σ).1.2.2 a1.toNat) a2.toNat (rT ((lwR σ).1.2.2 a1.toNat)) a3.toNat (rT_le _)
    exact ⟨by omega, by omega⟩
  · exact zRb rfl)
theorem lwB46 : lwCB 46 lf46 := (sn_Y_prf.up (by decide)).imp (by
  rintro args I L R S Q hz ⟨σ, a1, a2, a3, a4, a5, he, hr, hS, hc, hP, hQ⟩
  have hE : bE (lwR σ) I := hP.2.2.2.2.2.2.2.2.2
  refine ⟨a1, a2, a3, (lwR σ).1.1, (lwR σ).1.2.1, (lwR σ).1.2.2, he, hS, hP.2.1.1, ⟨hr.1, hr.2.1, hr.2.2.1⟩, hE.1.1, ?_⟩
  intro v I' hv h2 hf
  rw [lf46_e hv] at hQ
  have h2e : I' 280 2 = I 280 2 := h2.trans hE.1.1.2.2.1.symm
  have hf' : ∀ c j : Nat, ¬ (282 ≤ c ∧ c ≤ 286) → ¬ c = 293 → ¬ c = 294 → ¬ (c = 280 ∧ (j = 15 ∨ j = 0 ∨ (29 ≤ j ∧ j ≤ 31) ∨ j = 17)) → I' c j = I c j := fun c j w1 w2 w3 w4 => by
    by_cases y : c = 280 ∧ j = 2
    · rw [y.1, y.2]; exact h2e
    · exact hf c j (by omega) (by omega) (by omega) (by omega) (by omega) (by omega) (by omega) (by omega) (by omega) (by omega) (by omega) (by omega)
  exact hQ _ _ _ _ (lwB_s0 hP (fun c j q => by rcases q with (q | q | q | q | q | q | q | q) | q | q | q <;> exact hf' c j (by omega) (by omega) (by omega) (by omega)) (fun _ _ _ => rfl)) (zfB_I (fun c j w => hf' c j (by omega) (by omega) (by omega) (by omega))))
def lwCk (x : ReL) (a k q : Int) : Prop := 0 ≤ a ∧ a < x.1.1 ∧ 0 ≤ k ∧ k < rW (x.1.2.2 a.toNat) 0 ∧ -1 ≤ q ∧ q < ckC (x.1.2.2 a.toNat) k.toNat
def lwCh (x : ReL) (a k q m : Int) : Prop := ckH x.1.1 x.1.2.1 x.1.2.2 (ckP (ckB (x.1.2.1 a.toNat) (x.1.2.2 a.toNat) a.toNat k.toNat) q m) (ckC (x.1.2.2 a.toNat) k.toNat)
noncomputable def lf47 : ZSpf := fun σ a k q m _ => (σ, @ite Int (lwCk (lwR σ) a k q) (Classical.propDecidable _) (@ite Int (lwCh (lwR σ) a k q m) (Classical.propDecidable _) 1 0) (-1))
theorem lf47_e {σ : LwS} {a k q m b v : Int} (hv : (¬ lwCk (lwR σ) a k q ∧ v = -1) ∨ (lwCk (lwR σ) a k q ∧ ((v = 1 ∧ lwCh (lwR σ) a k q m) ∨ (v = 0 ∧ ¬ lwCh (lwR σ) a k q m)))) : lf47 σ a k q m b = (σ, v) ∧ -1 ≤ v ∧ v ≤ 1 := by
  rcases hv with ⟨w1, rfl⟩ | ⟨w1, ⟨rfl, w2⟩ | ⟨rfl, w2⟩⟩
  · exact ⟨congrArg (Prod.mk σ) (if_neg w1), by decide, by decide⟩
  · exact ⟨congrArg (Prod.mk σ) ((if_pos w1).trans (if_pos w2)), by decide, by decide⟩
  · exact ⟨congrArg (Prod.mk σ) ((if_pos w1).trans (if_neg w2)), by decide, by decide⟩
theorem lwA47 : lwCA 47 lf47 := (sn_Z_chk.up (by decide)).imp (by
  rintro args I L R S Q hz ⟨σ, a1, a2, a3, a4, a5, he, hr, hS, hc, hP, hQ⟩
  refine ⟨a1, a2, a3, a4, (lwR σ).1.1, (lwR σ).1.2.1, (lwR σ).1.2.2, he, hS, hP.2.1.1, hP.2.1.2, ⟨hr.1, hr.2.1, hr.2.2.1, hr.2.2.2.1⟩, hP.2.2.2.2.2.2.2.2.2.1, ?_⟩
  intro v I' hv hf
  have z := lf47_e (b := a5) (m := a4) hv
  rw [z.1] at hQ
  exact hQ _ _ _ _ (lwA_s hP (fun c j w => by rcases w with w | w | w | w | w | w | w | w | w <;> exact hf c j (by omega) (by omega) (by omega) (by omega) (by omega) (by omega) (by omega))) (zfA_I (fun c j w => hf c j (by omega) (by omega) (by omega) (by omega) (by omega) (by omega) (by omega))) (show r32 v from ⟨by omega, by omega⟩))
theorem lwB47 : lwCB 47 lf47 := (sn_Y_chk.up (by decide)).imp (by
  rintro args I L R S Q hz ⟨σ, a1, a2, a3, a4, a5, he, hr, hS, hc, hP, hQ⟩
  have hE : bE (lwR σ) I := hP.2.2.2.2.2.2.2.2.2
  refine ⟨a1, a2, a3, a4, (lwR σ).1.1, (lwR σ).1.2.1, (lwR σ).1.2.2, he, hS, hP.2.1.1, ⟨hr.1, hr.2.1, hr.2.2.1, hr.2.2.2.1⟩, hE.1.1, hE.1.2.1, ?_⟩
  intro v I' hv h2 hf
  have z := lf47_e (b := a5) (m := a4) hv
  rw [z.1] at hQ
  have h2e : I' 280 2 = I 280 2 := h2.trans hE.1.1.2.2.1.symm
  have hf' : ∀ c j : Nat, ¬ (282 ≤ c ∧ c ≤ 286) → ¬ c = 293 → ¬ c = 294 → ¬ (c = 280 ∧ (j = 15 ∨ j = 0 ∨ (29 ≤ j ∧ j ≤ 31) ∨ j = 17)) → I' c j = I c j := fun c j w1 w2 w3 w4 => by
    by_cases y : c = 280 ∧ j = 2
    · rw [y.1, y.2]; exact h2e
    · exact hf c j (by omega) (by omega) (by omega) (by omega) (by omega) (by omega) (by omega) (by omega) (by omega) (by omega) (by omega) (by omega) (by omega) (by omega)
  exact hQ _ _ _ _ (lwB_s0 hP (fun c j q => by rcases q with (q | q | q | q | q | q | q | q) | q | q | q <;> exact hf' c j (by omega) (by omega) (by omega) (by omega)) (fun _ _ _ => rfl)) (zfB_I (fun c j w => hf' c j (by omega) (by omega) (by omega) (by omega))))
