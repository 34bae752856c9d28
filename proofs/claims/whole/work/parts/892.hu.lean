
/-- rules: what is told, and the rules, are new -/
def lwu (σ : LwS) (d : Int) (y : RuL) : LwS := ((d, σ.1.2), σ.2.1, σ.2.2.1, y, σ.2.2.2.2)
abbrev lwU (σ : LwS) : RuL := σ.2.2.2.1
theorem lwI_u {σ : LwS} {d : Int} {y : RuL} (h : lwI σ) (hd : 0 ≤ d ∧ d ≤ 5) (hy : iU y) : lwI (lwu σ d y) := ⟨⟨hd, h.1.2⟩, h.2.1, h.2.2.1, hy, h.2.2.2.2⟩
theorem lwA_w {σ : LwS} {I L I' : ZI} {R : ZR} {S : ZS} {d : Int} {y : RuL} (h : lwA σ I L R S) (hd : 0 ≤ d ∧ d ≤ 5) (hy : iU y) (h3 : I' 40 3 = d) (hU : aU y I') (hf : ∀ c j : Nat, ¬ (c = 40 ∧ j = 3) → ¬ (c = 104 ∨ c = 105) → I' c j = I c j) : lwA (lwu σ d y) I' L R S := by
  obtain ⟨h0, ⟨h1, h2⟩, h3', h4, h5, h6, h7, h8, h9, h10⟩ := h
  exact ⟨lwI_u h0 hd hy, ⟨h1, zStf h2 (fun c j q1 q2 => ⟨hf c j (by omega) (by omega), rfl⟩)⟩, ⟨h3, zTA_fr h3'.2 (fun c j q => hf c j (by omega) (by omega))⟩, aR_fr h4 (fun c j q => hf c j (by omega) (by omega)) (fun _ _ _ => rfl) ⟨rfl, rfl⟩, aB_fr h5 (fun c j q => hf c j (by omega) (by omega)) (fun _ _ _ => rfl), hU, aC_fr h7 (fun c j q => hf c j (by omega) (by omega)) ⟨rfl, rfl⟩, aS_fr h8 (fun c j q => hf c j (by unfold scK at q; omega) (by unfold scK at q; omega)) (fun _ _ _ => rfl) ⟨rfl, rfl, rfl⟩, aX_fr h9 (fun c j q => hf c j (by omega) (by omega)), aE_fr h10 (fun c j q => hf c j (by omega) (by omega))⟩
theorem lwB_w {σ : LwS} {I L I' : ZI} {R : ZR} {S : ZS} {d : Int} {y : RuL} (h : lwB σ I L R S) (hd : 0 ≤ d ∧ d ≤ 5) (hy : iU y) (h3 : I' 165 0 = d) (hU : bU y I') (hf : ∀ c j : Nat, ¬ (c = 165 ∧ (j = 0 ∨ j = 24)) → ¬ (204 ≤ c ∧ c ≤ 207) → I' c j = I c j) : lwB (lwu σ d y) I' L R S := by
  obtain ⟨h0, h1, h3', h4, h5, h6, h7, h8, h9, h10⟩ := h
  have f2 : ∀ c j : Nat, 208 ≤ c → I' c j = I c j := fun c j q => hf c j (by omega) (by omega)
  exact ⟨lwI_u h0 hd hy, h1, ⟨h3, zTB_fr h3'.2 (fun c j q => hf c j (by omega) (by omega))⟩, bR_fr h4 (zSg_r _) (fun c j q => hf c j (by omega) (by omega)) (fun _ _ _ => rfl) rfl (fun q _ w1 w2 => ⟨fun c j w => f2 c j (by omega), fun c j w => ⟨rfl, rfl⟩⟩), bB_fr h5 (zSg_r _) (fun c j q => hf c j (by omega) (by omega)) ⟨rfl, rfl⟩ (fun g q _ _ w1 w2 w3 => ⟨fun c j w => f2 c j (by omega), fun c j w => ⟨rfl, rfl⟩⟩), hU, bC_fr h7 (zSg_r _) (by rw [hf _ _ (by omega) (by omega)]; exact h7.1.2.1) (fun j q => by rw [hf _ _ (by omega) (by omega)]; exact h7.1.2.2 j q) (fun c j q => hf c j (by omega) (by omega)) ⟨rfl, rfl⟩ (fun q _ w1 w2 => ⟨fun c j w => f2 c j (by omega), fun c j w => rfl, fun c j w => rfl⟩), bS_fr h8 (fun c j q => f2 c j (by omega)) (fun c j q => rfl), bX_fr h9 (fun c j q => hf c j (by omega) (by omega)), bE_fr h10 (fun c j q => f2 c j (by omega))⟩
/-- rule -/
noncomputable def lf18 : ZSpf := fun σ kd a b u _ => (lwu σ (if 0 ≤ ruV (lwU σ).1 kd a b u then 0 else -(ruV (lwU σ).1 kd a b u)) (ruN (lwU σ).1 kd a b u, ruF (lwU σ).1 (lwU σ).2 kd a b u), if 0 ≤ ruV (lwU σ).1 kd a b u then ruV (lwU σ).1 kd a b u else -1)
theorem ruV_b {nr : Nat} {kd a b u : Int} (h : nr ≤ 30) : -5 ≤ ruV nr kd a b u ∧ ruV nr kd a b u ≤ 30 := by
  unfold ruV
  repeat' split
  all_goals omega
theorem lwA18 : lwCA 18 lf18 := (sn_Z_rul.up (by decide)).imp (by
  rintro args I L R S Q hz ⟨σ, a1, a2, a3, a4, a5, he, hr, hS, hc, hP, hQ⟩
  have hU : aU (lwU σ) I := hP.2.2.2.2.2.1
  have hI : iU (lwU σ) := hP.1.2.2.2.1
  have hb := ruV_b (kd := a1) (a := a2) (b := a3) (u := a4) hU.2.2.1
  refine ⟨(lwU σ).1, (lwU σ).2, a1, a2, a3, a4, he, hS, hP.2.1.1, hU, ⟨hr.1, hr.2.1, hr.2.2.1, hr.2.2.2.1⟩, ?_⟩
  rintro v I' rfl h3 hU2 hf
  exact hQ _ _ _ _ (lwA_w hP (by split <;> omega) (cuRg_a hI) h3 hU2 (fun c j w1 w2 => hf c j (by omega) (by omega) (by omega))) (zfA_I (fun c j w => hf c j (by omega) (by omega) (by omega))) (show r32 (if 0 ≤ ruV (lwU σ).1 a1 a2 a3 a4 then ruV (lwU σ).1 a1 a2 a3 a4 else -1) from by split <;> exact ⟨by omega, by omega⟩))
theorem lwB18 : lwCB 18 lf18 := (sn_Y_rul.up (by decide)).imp (by
  rintro args I L R S Q hz ⟨σ, a1, a2, a3, a4, a5, he, hr, hS, hc, hP, hQ⟩
  have hU : bU (lwU σ) I := hP.2.2.2.2.2.1
  have hI : iU (lwU σ) := hP.1.2.2.2.1
  have hb := ruV_b (kd := a1) (a := a2) (b := a3) (u := a4) hU.1.2
  refine ⟨(lwU σ).1, (lwU σ).2, a1, a2, a3, a4, he, hS, hP.2.1.1, hU, ⟨hr.1, hr.2.1, hr.2.2.1, hr.2.2.2.1⟩, ?_⟩
  rintro v I' rfl h3 hU2 hf
  exact hQ _ _ _ _ (lwB_w hP (by split <;> omega) (cuRg_a hI) h3 hU2 (fun c j w1 w2 => hf c j (by omega) (by omega) (by omega) (by omega) (by omega) (by omega))) (zfB_I (fun c j w => hf c j (by omega) (by omega) (by omega) (by omega) (by omega) (by omega))))
