
/-! drop, sweep, crash, reopen -/
theorem stDv_o {s : StS} {z cr : Nat} {e : Int} : stDv s z cr e = 0 ∨ (-5 ≤ stDv s z cr e ∧ stDv s z cr e < 0) := by
  unfold stDv
  repeat' split
  all_goals omega
noncomputable def lf35y (σ : LwS) (e : Int) : LwS × Int := (lwx σ 0 ((lg2 (lwX σ).1.1 (lwX σ).1.2.2.2 4 e, (lwX σ).1.2.1 + 1, stDrp e.toNat (lwX σ).1.2.2.1, (lwX σ).1.2.2.2 + 2), 0, (lwX σ).2.2), 1)
abbrev lwDv (σ : LwS) (e : Int) : Int := stDv (lwX σ).1.2.2.1 (lwX σ).1.2.2.2 (lwX σ).2.1 e
theorem lwDv_o (σ : LwS) (e : Int) : lwDv σ e = 0 ∨ (-5 ≤ lwDv σ e ∧ lwDv σ e < 0) := stDv_o
noncomputable def lf35 : ZSpf := fun σ e _ _ _ _ => if lwDv σ e = 0 then lf35y σ e else (lwx σ (-(lwDv σ e)) (lwX σ), 0)
theorem stDv_cr {s : StS} {z cr : Nat} {e : Int} (h : stDv s z cr e = 0) : ¬ cr = 1 := fun w => by
  unfold stDv at h
  rw [if_pos w] at h
  exact absurd h (by decide)
theorem iX_drp {y : StL} {e : Int} (hi : iX y) (h : stDv y.1.2.2.1 y.1.2.2.2 y.2.1 e = 0) (ha : y.2.1 = 0 → stAl y.1.1 y.1.2.1 y.1.2.2.1 y.1.2.2.2) : iX ((lg2 y.1.1 y.1.2.2.2 4 e, y.1.2.1 + 1, stDrp e.toNat y.1.2.2.1, y.1.2.2.2 + 2), 0, y.2.2) := by
  have w := stDv_cr h
  have := hi.1.1
  exact ⟨⟨Nat.zero_le _, hi.1.2⟩, (stAl_drp (ha (by omega)) h).2⟩
theorem lwA35 : lwCA 35 lf35 := (sn_Z_drp.up (by decide)).imp (by
  rintro args I L R S Q hz ⟨σ, a1, a2, a3, a4, a5, he, hr, hS, hc, hP, hQ⟩
  have hX : aX (lwX σ) I := hP.2.2.2.2.2.2.2.2.1
  have hi : iX (lwX σ) := hP.1.2.2.2.2.2.2.1
  refine ⟨(lwX σ).1, (lwX σ).2.1, (lwX σ).2.2, a1, he, hS, hP.2.1.1, hX, hr.1, ?_⟩
  intro v I' hv h3 hx hf
  have f9 : ∀ c j : Nat, ¬ (c = 40 ∧ j = 3) → ¬ (145 ≤ c ∧ c ≤ 153) → I' c j = I c j := fun c j w1 w2 => hf c j (by omega) (by omega) (by omega) (by omega) (by omega) (by omega) (by omega) (by omega) (by omega) (by omega) (by omega)
  have zf : zfA I L R S I' L R S := zfA_I (fun c j w => f9 c j (by omega) (by omega))
  by_cases hp : lwDv σ a1 = 0
  · rw [show lf35 σ a1 a2 a3 a4 a5 = lf35y σ a1 from if_pos hp] at hQ
    rw [if_pos (Int.le_of_eq hp.symm)] at hv h3
    rw [if_pos hp] at hx
    subst hv
    exact hQ _ _ _ _ (lwA_x hP (by decide) (iX_drp hi hp (stAl_c hX hi)) h3 hx f9) zf (zRb rfl)
  · have hn : ¬ 0 ≤ lwDv σ a1 := by rcases lwDv_o σ a1 with w | w <;> omega
    rw [show lf35 σ a1 a2 a3 a4 a5 = (lwx σ (-(lwDv σ a1)) (lwX σ), 0) from if_neg hp] at hQ
    rw [if_neg hn] at hv h3
    rw [if_neg hp] at hx
    subst hv
    exact hQ _ _ _ _ (lwA_x hP (by rcases lwDv_o σ a1 with w | w <;> omega) hi h3 hx f9) zf (zRb rfl))
theorem lwB35 : lwCB 35 lf35 := (sn_Y_drp.up (by decide)).imp (by
  rintro args I L R S Q hz ⟨σ, a1, a2, a3, a4, a5, he, hr, hS, hc, hP, hQ⟩
  have hX : bX (lwX σ) I := hP.2.2.2.2.2.2.2.2.1
  have hI2 := hc.2
  refine ⟨(lwX σ).1, (lwX σ).2.1, a1, he, hS, hP.2.1.1, hX.1, hr.1, ?_⟩
  intro v I' hv h3 hx hf
  have f9 : ∀ c j : Nat, ¬ (c = 165 ∧ (j = 0 ∨ j = 49)) → ¬ (268 ≤ c ∧ c ≤ 279) → I' c j = I c j := fun c j w1 w2 => hf c j (by omega) (by omega) (by omega) (by omega) (by omega) (by omega) (by omega) (by omega) (by omega) (by omega) (by omega) (by omega) (by omega) (by omega)
  have f49 : I' 165 49 = I 165 49 := hf _ _ (by omega) (by omega) (by omega) (by omega) (by omega) (by omega) (by omega) (by omega) (by omega) (by omega) (by omega) (by omega) (by omega) (by omega)
  have zf : zfB I L R S I' L R S := zfB_I (fun c j w => f9 c j (by omega) (by omega))
  by_cases hp : lwDv σ a1 = 0
  · rw [show lf35 σ a1 a2 a3 a4 a5 = lf35y σ a1 from if_pos hp] at hQ hI2
    rw [if_pos (Int.le_of_eq hp.symm)] at hv h3
    rw [if_pos hp] at hx
    subst hv
    exact hQ _ _ _ _ (lwB_x hP hI2 h3 ⟨hx, f49.trans hX.2⟩ f9) zf
  · have hn : ¬ 0 ≤ lwDv σ a1 := by rcases lwDv_o σ a1 with w | w <;> omega
    rw [show lf35 σ a1 a2 a3 a4 a5 = (lwx σ (-(lwDv σ a1)) (lwX σ), 0) from if_neg hp] at hQ hI2
    rw [if_neg hn] at hv h3
    rw [if_neg hp] at hx
    subst hv
    exact hQ _ _ _ _ (lwB_x hP hI2 h3 ⟨hx, f49.trans hX.2⟩ f9) zf)
/-- sweep -/
noncomputable abbrev lwWv (σ : LwS) : Int := stWv (lwX σ).1.2.2.1 (lwX σ).1.2.2.2 (lwX σ).2.1
noncomputable def lf36y (σ : LwS) : LwS × Int := (lwx σ 0 ((lg2 (lwX σ).1.1 (lwX σ).1.2.2.2 5 (-1), (lwX σ).1.2.1 + 1, stSwp (lwX σ).1.2.2.1, (lwX σ).1.2.2.2 + 1), (lwX σ).2.1, (lwX σ).2.2), lwWv σ)
noncomputable def lf36 : ZSpf := fun σ _ _ _ _ _ => if (lwX σ).2.1 = 0 ∧ (lwX σ).1.2.2.2 < 400 then lf36y σ else (lwx σ (-(lwWv σ)) (lwX σ), -1)
theorem stWv_y {s : StS} {z cr : Nat} (h : cr = 0 ∧ z < 400) : 0 ≤ stWv s z cr ∧ stWv s z cr ≤ sB s := by
  have w := stSwN_le s (sB s)
  unfold stWv
  rw [if_neg (by omega), if_neg (by omega)]
  omega
theorem stWv_n {s : StS} {z cr : Nat} (hc : cr ≤ 1) (h : ¬ (cr = 0 ∧ z < 400)) : -3 ≤ stWv s z cr ∧ stWv s z cr < 0 := by
  unfold stWv
  split
  · omega
  · rw [if_pos (by omega)]; omega
theorem lwA36 : lwCA 36 lf36 := (sn_Z_swp.up (by decide)).imp (by
  rintro args I L R S Q hz ⟨σ, a1, a2, a3, a4, a5, he, hr, hS, hc, hP, hQ⟩
  have hX : aX (lwX σ) I := hP.2.2.2.2.2.2.2.2.1
  have hi : iX (lwX σ) := hP.1.2.2.2.2.2.2.1
  refine ⟨(lwX σ).1, (lwX σ).2.1, (lwX σ).2.2, he, hS, hP.2.1.1, hX, ?_⟩
  intro v I' hv h3 hx hf
  have f9 : ∀ c j : Nat, ¬ (c = 40 ∧ j = 3) → ¬ (145 ≤ c ∧ c ≤ 153) → I' c j = I c j := fun c j w1 w2 => hf c j (by omega) (by omega) (by omega) (by omega)
  have zf : zfA I L R S I' L R S := zfA_I (fun c j w => f9 c j (by omega) (by omega))
  by_cases hp : (lwX σ).2.1 = 0 ∧ (lwX σ).1.2.2.2 < 400
  · have w : 0 ≤ lwWv σ ∧ lwWv σ ≤ sB (lwX σ).1.2.2.1 := stWv_y (s := (lwX σ).1.2.2.1) hp
    rw [show lf36 σ a1 a2 a3 a4 a5 = lf36y σ from if_pos hp] at hQ
    rw [if_pos w.1] at hv h3
    rw [if_pos hp] at hx
    subst hv
    have hG := stLg_G hX.2.2.2.2.1.2.2.2
    have e := hX.2.2.2.2.1.2.2.1
    rw [← e] at hG
    have h24 := hG.1
    exact hQ _ _ _ _ (lwA_x hP (by decide) ⟨hi.1, (stAl_swp (stAl_c hX hi hp.1) hp.2).2⟩ h3 hx f9) zf (show r32 (lwWv σ) from ⟨by omega, by omega⟩)
  · have w : -3 ≤ lwWv σ ∧ lwWv σ < 0 := stWv_n (s := (lwX σ).1.2.2.1) hi.1.1 hp
    have w' : ¬ 0 ≤ lwWv σ := by omega
    rw [show lf36 σ a1 a2 a3 a4 a5 = (lwx σ (-(lwWv σ)) (lwX σ), -1) from if_neg hp] at hQ
    rw [if_neg w'] at hv h3
    rw [if_neg hp] at hx
    subst hv
    exact hQ _ _ _ _ (lwA_x hP (by omega) hi h3 hx f9) zf (zRb rfl))
theorem lwB36 : lwCB 36 lf36 := (sn_Y_swp.up (by decide)).imp (by
  rintro args I L R S Q hz ⟨σ, a1, a2, a3, a4, a5, he, hr, hS, hc, hP, hQ⟩
  have hX : bX (lwX σ) I := hP.2.2.2.2.2.2.2.2.1
  have hi : iX (lwX σ) := hP.1.2.2.2.2.2.2.1
  have hI2 := hc.2
  refine ⟨(lwX σ).1, (lwX σ).2.1, he, hS, hP.2.1.1, hX.1, ?_⟩
  intro v I' hv h3 hx hf
  have f9 : ∀ c j : Nat, ¬ (c = 165 ∧ (j = 0 ∨ j = 49)) → ¬ (268 ≤ c ∧ c ≤ 279) → I' c j = I c j := fun c j w1 w2 => hf c j (by omega) (by omega) (by omega) (by omega) (by omega) (by omega) (by omega) (by omega) (by omega) (by omega) (by omega) (by omega) (by omega) (by omega)
  have f49 : I' 165 49 = I 165 49 := hf _ _ (by omega) (by omega) (by omega) (by omega) (by omega) (by omega) (by omega) (by omega) (by omega) (by omega) (by omega) (by omega) (by omega) (by omega)
  have zf : zfB I L R S I' L R S := zfB_I (fun c j w => f9 c j (by omega) (by omega))
  by_cases hp : (lwX σ).2.1 = 0 ∧ (lwX σ).1.2.2.2 < 400
  · have w : 0 ≤ lwWv σ ∧ lwWv σ ≤ sB (lwX σ).1.2.2.1 := stWv_y (s := (lwX σ).1.2.2.1) hp
    rw [show lf36 σ a1 a2 a3 a4 a5 = lf36y σ from if_pos hp] at hQ hI2
    rw [if_pos w.1] at hv h3
    rw [if_pos hp] at hx
    subst hv
    exact hQ _ _ _ _ (lwB_x hP hI2 h3 ⟨hx, f49.trans hX.2⟩ f9) zf
  · have w : -3 ≤ lwWv σ ∧ lwWv σ < 0 := stWv_n (s := (lwX σ).1.2.2.1) hi.1.1 hp
    have w' : ¬ 0 ≤ lwWv σ := by omega
    rw [show lf36 σ a1 a2 a3 a4 a5 = (lwx σ (-(lwWv σ)) (lwX σ), -1) from if_neg hp] at hQ hI2
    rw [if_neg w'] at hv h3
    rw [if_neg hp] at hx
    subst hv
    exact hQ _ _ _ _ (lwB_x hP hI2 h3 ⟨hx, f49.trans hX.2⟩ f9) zf)
/-- crash -/
abbrev lwCv (σ : LwS) (k : Int) : Int := stCv (lwX σ).1.2.2.2 (lwX σ).2.1 (lwX σ).2.2 k
noncomputable def lf37y (σ : LwS) (k : Int) : LwS × Int := (lwx σ 0 (((lwX σ).1.1, lwCm (lwX σ).1.1 k.toNat, (stN (lwX σ).1.1 (lwCm (lwX σ).1.1 k.toNat)).2, k.toNat), 1, (lwX σ).2.2 + 1), 1)
noncomputable def lf37 : ZSpf := fun σ k _ _ _ _ => if lwCv σ k = 0 then lf37y σ k else (lwx σ (-(lwCv σ k)) (lwX σ), 0)
theorem stCv_o {z cr cn : Nat} {k : Int} : (stCv z cr cn k = 0 ∧ 0 ≤ k ∧ k ≤ z ∧ cn < 16) ∨ (-3 ≤ stCv z cr cn k ∧ stCv z cr cn k < 0) := by
  unfold stCv
  repeat' split
  all_goals omega
theorem lwA37 : lwCA 37 lf37 := (sn_Z_cra.up (by decide)).imp (by
  rintro args I L R S Q hz ⟨σ, a1, a2, a3, a4, a5, he, hr, hS, hc, hP, hQ⟩
  have hX : aX (lwX σ) I := hP.2.2.2.2.2.2.2.2.1
  have hi : iX (lwX σ) := hP.1.2.2.2.2.2.2.1
  refine ⟨(lwX σ).1, (lwX σ).2.1, (lwX σ).2.2, a1, he, hS, hP.2.1.1, hX, hr.1, ?_⟩
  intro v I' hv h3 hx hf
  have f9 : ∀ c j : Nat, ¬ (c = 40 ∧ j = 3) → ¬ (145 ≤ c ∧ c ≤ 153) → I' c j = I c j := fun c j w1 w2 => hf c j (by omega) (by omega) (by omega) (by omega)
  have zf : zfA I L R S I' L R S := zfA_I (fun c j w => f9 c j (by omega) (by omega))
  have w0 : (lwCv σ a1 = 0 ∧ 0 ≤ a1 ∧ a1 ≤ (lwX σ).1.2.2.2 ∧ (lwX σ).2.2 < 16) ∨ (-3 ≤ lwCv σ a1 ∧ lwCv σ a1 < 0) := stCv_o
  by_cases hp : lwCv σ a1 = 0
  · rw [show lf37 σ a1 a2 a3 a4 a5 = lf37y σ a1 from if_pos hp] at hQ
    rw [if_pos (Int.le_of_eq hp.symm)] at hv h3
    rw [if_pos hp] at hx
    subst hv
    obtain ⟨m', hm⟩ := hx
    have hm2 := hm.2.2.2.2.1.2.2.2
    have e := lwCm_e hm2
    refine hQ _ _ _ _ (lwA_x hP (by decide) ?_ h3 ?_ f9) zf (zRb rfl)
    · have hle := stLg_le hX.2.2.2.2.1.2.2.2 hm2 (by omega)
      refine ⟨⟨Nat.le_refl 1, by show (lwX σ).2.2 + 1 ≤ 16; omega⟩, ?_⟩
      show ∀ m, m ≤ lwCm (lwX σ).1.1 a1.toNat → stM4 (lwX σ).1.1 (stN (lwX σ).1.1 m).2
      rw [e]
      exact fun m hm3 => hi.2 m (Nat.le_trans hm3 hle)
    · show zCL (lwX σ).1.1 (lwCm (lwX σ).1.1 a1.toNat) (stN (lwX σ).1.1 (lwCm (lwX σ).1.1 a1.toNat)).2 a1.toNat 1 ((lwX σ).2.2 + 1) I'
      rw [e]
      exact hm
  · have w' : ¬ 0 ≤ lwCv σ a1 := by omega
    rw [show lf37 σ a1 a2 a3 a4 a5 = (lwx σ (-(lwCv σ a1)) (lwX σ), 0) from if_neg hp] at hQ
    rw [if_neg w'] at hv h3
    rw [if_neg hp] at hx
    subst hv
    exact hQ _ _ _ _ (lwA_x hP (by omega) hi h3 hx f9) zf (zRb rfl))
theorem lwB37 : lwCB 37 lf37 := (sn_Y_cra.up (by decide)).imp (by
  rintro args I L R S Q hz ⟨σ, a1, a2, a3, a4, a5, he, hr, hS, hc, hP, hQ⟩
  have hX : bX (lwX σ) I := hP.2.2.2.2.2.2.2.2.1
  have hi : iX (lwX σ) := hP.1.2.2.2.2.2.2.1
  have hI2 := hc.2
  refine ⟨(lwX σ).1, (lwX σ).2.1, (lwX σ).2.2, a1, he, hS, hP.2.1.1, hX.1, ⟨hX.2, hi.1.2⟩, hr.1, ?_⟩
  intro v I' hv h3 hx hf
  have f9 : ∀ c j : Nat, ¬ (c = 165 ∧ (j = 0 ∨ j = 49)) → ¬ (268 ≤ c ∧ c ≤ 279) → I' c j = I c j := fun c j w1 w2 => hf c j (by omega) (by omega) (by omega) (by omega) (by omega) (by omega) (by omega) (by omega) (by omega) (by omega) (by omega) (by omega) (by omega) (by omega) (by omega) (by omega) (by omega) (by omega) (by omega)
  have zf : zfB I L R S I' L R S := zfB_I (fun c j w => f9 c j (by omega) (by omega))
  have w0 : (lwCv σ a1 = 0 ∧ 0 ≤ a1 ∧ a1 ≤ (lwX σ).1.2.2.2 ∧ (lwX σ).2.2 < 16) ∨ (-3 ≤ lwCv σ a1 ∧ lwCv σ a1 < 0) := stCv_o
  by_cases hp : lwCv σ a1 = 0
  · rw [show lf37 σ a1 a2 a3 a4 a5 = lf37y σ a1 from if_pos hp] at hQ hI2
    rw [if_pos (Int.le_of_eq hp.symm)] at hv h3
    rw [if_pos hp] at hx
    subst hv
    obtain ⟨⟨m', hm⟩, h49⟩ := hx
    have e := lwCm_e hm.2.2.2.1.2.2
    refine hQ _ _ _ _ (lwB_x hP hI2 h3 ⟨?_, h49⟩ f9) zf
    show zML (lwX σ).1.1 (lwCm (lwX σ).1.1 a1.toNat) (stN (lwX σ).1.1 (lwCm (lwX σ).1.1 a1.toNat)).2 a1.toNat 1 I'
    rw [e]
    exact hm
  · have w' : ¬ 0 ≤ lwCv σ a1 := by omega
    rw [show lf37 σ a1 a2 a3 a4 a5 = (lwx σ (-(lwCv σ a1)) (lwX σ), 0) from if_neg hp] at hQ hI2
    rw [if_neg w'] at hv h3
    rw [if_neg hp] at hx
    subst hv
    exact hQ _ _ _ _ (lwB_x hP hI2 h3 hx f9) zf)
/-- reopen -/
noncomputable def lf38y (σ : LwS) : LwS × Int := (lwx σ 0 (((lwX σ).1.1, (lwX σ).1.2.1, (lwX σ).1.2.2.1, (stN (lwX σ).1.1 (lwX σ).1.2.1).1), 0, (lwX σ).2.2), (sV (lwX σ).1.2.2.1 : Int))
noncomputable def lf38 : ZSpf := fun σ _ _ _ _ _ => if (lwX σ).2.1 = 0 then (lwx σ 3 (lwX σ), -1) else lf38y σ
theorem lwA38 : lwCA 38 lf38 := (sn_Z_reo.up (by decide)).imp (by
  rintro args I L R S Q hz ⟨σ, a1, a2, a3, a4, a5, he, hr, hS, hc, hP, hQ⟩
  have hX : aX (lwX σ) I := hP.2.2.2.2.2.2.2.2.1
  have hi : iX (lwX σ) := hP.1.2.2.2.2.2.2.1
  refine ⟨(lwX σ).1, (lwX σ).2.1, (lwX σ).2.2, he, hS, hP.2.1.1, hX, ?_⟩
  intro v z2 I' hv hx hf
  have f9 : ∀ c j : Nat, ¬ (c = 40 ∧ j = 3) → ¬ (145 ≤ c ∧ c ≤ 153) → I' c j = I c j := fun c j w1 w2 => hf c j (by omega) (by omega) (by omega) (by omega) (by omega) (by omega) (by omega) (by omega) (by omega) (by omega) (by omega)
  have zf : zfA I L R S I' L R S := zfA_I (fun c j w => f9 c j (by omega) (by omega))
  rcases hv with ⟨w1, w2, w3, w4⟩ | ⟨w1, w2, w3, w4⟩
  · rw [show lf38 σ a1 a2 a3 a4 a5 = (lwx σ 3 (lwX σ), -1) from if_pos w1] at hQ
    subst w2
    rw [w4] at hx
    refine hQ _ _ _ _ (lwA_x hP (by decide) hi w3 ?_ f9) zf (zRb rfl)
    show zCL (lwX σ).1.1 (lwX σ).1.2.1 (lwX σ).1.2.2.1 (lwX σ).1.2.2.2 (lwX σ).2.1 (lwX σ).2.2 I'
    rw [w1]
    exact hx
  · rw [show lf38 σ a1 a2 a3 a4 a5 = lf38y σ from if_neg (by omega)] at hQ
    subst w2
    rw [w4] at hx
    have hG := stLg_G hX.2.2.2.2.1.2.2.2
    have e := hX.2.2.2.2.1.2.2.1
    rw [← e] at hG
    have h12 := hG.2.1
    exact hQ _ _ _ _ (lwA_x hP (by decide) ⟨⟨Nat.zero_le _, hi.1.2⟩, hi.2⟩ w3 hx f9) zf (show r32 ((sV (lwX σ).1.2.2.1 : Nat) : Int) from ⟨by omega, by omega⟩))
theorem lwB38 : lwCB 38 lf38 := (sn_Y_reo.up (by decide)).imp (by
  rintro args I L R S Q hz ⟨σ, a1, a2, a3, a4, a5, he, hr, hS, hc, hP, hQ⟩
  have hX : bX (lwX σ) I := hP.2.2.2.2.2.2.2.2.1
  have hI2 := hc.2
  refine ⟨(lwX σ).1, (lwX σ).2.1, he, hS, hP.2.1.1, hX.1, ?_⟩
  intro v I' hv hx hf
  have f9 : ∀ c j : Nat, ¬ (c = 165 ∧ (j = 0 ∨ j = 49)) → ¬ (268 ≤ c ∧ c ≤ 279) → I' c j = I c j := fun c j w1 w2 => hf c j (by omega) (by omega) (by omega) (by omega) (by omega) (by omega) (by omega) (by omega) (by omega) (by omega) (by omega) (by omega) (by omega) (by omega)
  have f49 : I' 165 49 = I 165 49 := hf _ _ (by omega) (by omega) (by omega) (by omega) (by omega) (by omega) (by omega) (by omega) (by omega) (by omega) (by omega) (by omega) (by omega) (by omega)
  have zf : zfB I L R S I' L R S := zfB_I (fun c j w => f9 c j (by omega) (by omega))
  rcases hv with ⟨w1, w2, w3⟩ | ⟨w1, w2, w3⟩
  · rw [show lf38 σ a1 a2 a3 a4 a5 = (lwx σ 3 (lwX σ), -1) from if_pos w1] at hQ hI2
    subst w2
    rw [if_pos w1] at hx
    refine hQ _ _ _ _ (lwB_x hP hI2 w3 ⟨?_, f49.trans hX.2⟩ f9) zf
    show zML (lwX σ).1.1 (lwX σ).1.2.1 (lwX σ).1.2.2.1 (lwX σ).1.2.2.2 (lwX σ).2.1 I'
    rw [w1]
    exact hx
  · rw [show lf38 σ a1 a2 a3 a4 a5 = lf38y σ from if_neg (by omega)] at hQ hI2
    subst w2
    rw [if_neg (by omega)] at hx
    exact hQ _ _ _ _ (lwB_x hP hI2 w3 ⟨hx, f49.trans hX.2⟩ f9) zf)
