
/-! save, drop, sweep, crash, reopen, saved, load -/
theorem lwI_x {σ : LwS} {d : Int} {y : StL} (h : lwI σ) (hd : 0 ≤ d ∧ d ≤ 5) (hy : iX y) : lwI (lwx σ d y) := ⟨⟨hd, h.1.2⟩, h.2.1, h.2.2.1, h.2.2.2.1, h.2.2.2.2.1, h.2.2.2.2.2.1, hy, h.2.2.2.2.2.2.2⟩
theorem lwA_x {σ : LwS} {I L I' : ZI} {R : ZR} {S : ZS} {d : Int} {y : StL} (h : lwA σ I L R S) (hd : 0 ≤ d ∧ d ≤ 5) (hy : iX y) (h3 : I' 40 3 = d) (hX : aX y I') (hf : ∀ c j : Nat, ¬ (c = 40 ∧ j = 3) → ¬ (145 ≤ c ∧ c ≤ 153) → I' c j = I c j) : lwA (lwx σ d y) I' L R S := by
  obtain ⟨h0, ⟨h1, h2⟩, h3', h4, h5, h6, h7, h8, h9, h10⟩ := h
  exact ⟨lwI_x h0 hd hy, ⟨h1, zStf h2 (fun c j q1 q2 => ⟨hf c j (by omega) (by omega), rfl⟩)⟩, ⟨h3, zTA_fr h3'.2 (fun c j q => hf c j (by omega) (by omega))⟩, aR_fr h4 (fun c j q => hf c j (by omega) (by omega)) (fun _ _ _ => rfl) ⟨rfl, rfl⟩, aB_fr h5 (fun c j q => hf c j (by omega) (by omega)) (fun _ _ _ => rfl), aU_fr h6 (fun c j q => hf c j (by omega) (by omega)), aC_fr h7 (fun c j q => hf c j (by omega) (by omega)) ⟨rfl, rfl⟩, aS_fr h8 (fun c j q => hf c j (by unfold scK at q; omega) (by unfold scK at q; omega)) (fun _ _ _ => rfl) ⟨rfl, rfl, rfl⟩, hX, aE_fr h10 (fun c j q => hf c j (by omega) (by omega))⟩
theorem lwB_x {σ : LwS} {I L I' : ZI} {R : ZR} {S : ZS} {d : Int} {y : StL} (h : lwB σ I L R S) (hI : lwI (lwx σ d y)) (h3 : I' 165 0 = d) (hX : bX y I') (hf : ∀ c j : Nat, ¬ (c = 165 ∧ (j = 0 ∨ j = 49)) → ¬ (268 ≤ c ∧ c ≤ 279) → I' c j = I c j) : lwB (lwx σ d y) I' L R S := by
  obtain ⟨h0, h1, h3', h4, h5, h6, h7, h8, h9, h10⟩ := h
  exact ⟨hI, h1, ⟨h3, zTB_fr h3'.2 (fun c j q => hf c j (by omega) (by omega))⟩, bR_fr h4 (zSg_r _) (fun c j q => hf c j (by omega) (by omega)) (fun _ _ _ => rfl) rfl (fun q _ w1 w2 => ⟨fun c j w => hf c j (by omega) (by omega), fun c j w => ⟨rfl, rfl⟩⟩), bB_fr h5 (zSg_r _) (fun c j q => hf c j (by omega) (by omega)) ⟨rfl, rfl⟩ (fun g q _ _ w1 w2 w3 => ⟨fun c j w => hf c j (by omega) (by omega), fun c j w => ⟨rfl, rfl⟩⟩), bU_fr h6 (fun c j q => hf c j (by omega) (by omega)), bC_fr h7 (zSg_r _) (by rw [hf _ _ (by omega) (by omega)]; exact h7.1.2.1) (fun j q => by rw [hf _ _ (by omega) (by omega)]; exact h7.1.2.2 j q) (fun c j q => hf c j (by omega) (by omega)) ⟨rfl, rfl⟩ (fun q _ w1 w2 => ⟨fun c j w => hf c j (by omega) (by omega), fun c j w => rfl, fun c j w => rfl⟩), bS_fr h8 (fun c j q => hf c j (by omega) (by omega)) (fun c j q => rfl), hX, bE_fr h10 (fun c j q => hf c j (by omega) (by omega))⟩
/-- saved, the class -/
theorem lwA39 : lwCA 39 lf39 := (sn_Z_svd.up (by decide)).imp (by
  rintro args I L R S Q hz ⟨σ, a1, a2, a3, a4, a5, he, hr, hS, hc, hP, hQ⟩
  have hX : aX (lwX σ) I := hP.2.2.2.2.2.2.2.2.1
  have hi : iX (lwX σ) := hP.1.2.2.2.2.2.2.1
  refine ⟨(lwX σ).1, (lwX σ).2.1, (lwX σ).2.2, a1, a2, he, hS, hP.2.1.1, hX, ⟨hr.1, hr.2.1⟩, ?_⟩
  rintro v rfl
  have e := hX.2.2.2.2.1.2.2.1
  have hG := stLg_G hX.2.2.2.2.1.2.2.2
  rw [← e] at hG
  refine hQ _ _ _ _ hP zfA_0 (show r32 (stQ _ _ _ _ _) from stQ_r hG ?_)
  rw [e]
  exact hi.2 _ (Nat.le_refl _))
/-- save -/
noncomputable def lf34y (σ : LwS) : LwS × Int := (lwx σ 0 (svE (lwBo σ).2.1 (lwX σ).1, 0, (lwX σ).2.2), svV 1 (lwX σ).2.1 (lwBo σ).2.1 (lwX σ).1)
noncomputable def lf34 : ZSpf := fun σ _ _ _ _ _ => if (lwBo σ).1 = 0 then (lwd σ 3, -1) else if 0 ≤ svV 1 (lwX σ).2.1 (lwBo σ).2.1 (lwX σ).1 then lf34y σ else (lwx σ (-(svV 1 (lwX σ).2.1 (lwBo σ).2.1 (lwX σ).1)) (lwX σ), -1)
theorem svV_1 {b cr : Nat} (h : b ≠ 0) {s : BdS} {x : SvK} : svV b cr s x = svV 1 cr s x := by
  unfold svV
  by_cases q : cr = 1
  · rw [if_pos (Or.inr q), if_pos (Or.inr q)]
  · rw [if_neg (show ¬ (b = 0 ∨ cr = 1) by omega), if_neg (show ¬ (1 = 0 ∨ cr = 1) by omega)]
theorem svV_p {cr : Nat} {s : BdS} {x : SvK} (h : 0 ≤ svV 1 cr s x) : ¬ cr = 1 ∧ svFit s x := by
  by_cases hc : cr = 1
  · rw [svV_3 (Or.inr hc)] at h; exact absurd h (by decide)
  · refine ⟨hc, Classical.byContradiction (fun k => ?_)⟩
    rw [svV_n (by omega) k] at h
    exact absurd h (by decide)
theorem iX_svE {y : StL} {s : BdS} (hi : iX y) (hg : bGd s) (h : 0 ≤ svV 1 y.2.1 s y.1) (ha : y.2.1 = 0 → stAl y.1.1 y.1.2.1 y.1.2.2.1 y.1.2.2.2) : iX (svE s y.1, 0, y.2.2) := by
  obtain ⟨h1, h2⟩ := svV_p h
  have := hi.1.1
  exact ⟨⟨Nat.zero_le _, hi.1.2⟩, (stAl_svE hg h2 (ha (by omega))).2⟩
theorem svV_neg {cr : Nat} {s : BdS} {x : SvK} (h : ¬ 0 ≤ svV 1 cr s x) : 0 ≤ -(svV 1 cr s x) ∧ -(svV 1 cr s x) ≤ 5 := by
  rcases svV_b (b := 1) (cr := cr) (s := s) (x := x) with w | w | w <;> omega
theorem lwA34 : lwCA 34 lf34 := ZSnd.alt (sn_Z_sav0.up (by decide)) (sn_Z_sav.up (by decide)) (by
  rintro args I L R S Q hz ⟨σ, a1, a2, a3, a4, a5, he, hr, hS, hc, hP, hQ⟩
  have hB0 : aB (lwBo σ) I L := hP.2.2.2.2.1
  have hI : iB (lwBo σ) := hP.1.2.2.1
  have hX : aX (lwX σ) I := hP.2.2.2.2.2.2.2.2.1
  have hi : iX (lwX σ) := hP.1.2.2.2.2.2.2.1
  by_cases hb : (lwBo σ).1 = 0
  · rw [show lf34 σ a1 a2 a3 a4 a5 = (lwd σ 3, -1) from if_pos hb] at hQ
    refine Or.inl ⟨he, hS, hP.2.1.1, by rw [hB0.2.1, hb]; rfl, ?_⟩
    intro I' h3 hf
    exact hQ _ _ _ _ (lwA_d hP (by decide) h3 hf) (zfA_I (fun c j w => hf c j (by omega))) (zRb rfl)
  · have hB := hB0.1 hb
    refine Or.inr ⟨(lwX σ).1, (lwX σ).2.1, (lwX σ).2.2, (lwBo σ).1, (lwBo σ).2.1, he, hS, hP.2.1.1, hB, (hI.2.2 hb).1.1, hX, ?_⟩
    intro v I' hv h3 hx hf
    rw [svV_1 hb] at hv h3 hx
    have f9 : ∀ c j : Nat, ¬ (c = 40 ∧ j = 3) → ¬ (145 ≤ c ∧ c ≤ 153) → I' c j = I c j := fun c j w1 w2 => hf c j (by omega) (by omega) (by omega) (by omega) (by omega) (by omega) (by omega) (by omega) (by omega) (by omega) (by omega) (by omega)
    have zf : zfA I L R S I' L R S := zfA_I (fun c j w => f9 c j (by omega) (by omega))
    by_cases hp : 0 ≤ svV 1 (lwX σ).2.1 (lwBo σ).2.1 (lwX σ).1
    · rw [show lf34 σ a1 a2 a3 a4 a5 = lf34y σ from (if_neg hb).trans (if_pos hp)] at hQ
      rw [if_pos hp] at hv h3 hx
      subst hv
      refine hQ _ _ _ _ (lwA_x hP (by decide) (iX_svE hi (hI.2.2 hb).1.1 hp (stAl_c hX hi)) h3 hx f9) zf (show r32 (svV _ _ _ _) from ?_)
      have hG := stLg_G hX.2.2.2.2.1.2.2.2
      have e := hX.2.2.2.2.1.2.2.1
      rw [← e] at hG
      have h12 := hG.2.1
      rcases svV_b (b := 1) (cr := (lwX σ).2.1) (s := (lwBo σ).2.1) (x := (lwX σ).1) with w | w | w <;> exact ⟨by omega, by omega⟩
    · rw [show lf34 σ a1 a2 a3 a4 a5 = (lwx σ (-(svV 1 (lwX σ).2.1 (lwBo σ).2.1 (lwX σ).1)) (lwX σ), -1) from (if_neg hb).trans (if_neg hp)] at hQ
      rw [if_neg hp] at hv h3 hx
      subst hv
      exact hQ _ _ _ _ (lwA_x hP (svV_neg hp) hi h3 hx f9) zf (zRb rfl))
theorem lwB34 : lwCB 34 lf34 := ZSnd.alt (sn_Y_sav0.up (by decide)) (sn_Y_sav.up (by decide)) (by
  rintro args I L R S Q hz ⟨σ, a1, a2, a3, a4, a5, he, hr, hS, hc, hP, hQ⟩
  have hB : bB (lwBo σ) I L R S := hP.2.2.2.2.1
  have hI : iB (lwBo σ) := hP.1.2.2.1
  have hX : bX (lwX σ) I := hP.2.2.2.2.2.2.2.2.1
  have hI2 := hc.2
  by_cases hb : (lwBo σ).1 = 0
  · rw [show lf34 σ a1 a2 a3 a4 a5 = (lwd σ 3, -1) from if_pos hb] at hQ
    refine Or.inl ⟨he, hS, hP.2.1.1, (hB.2.1 hb).1, ?_⟩
    intro I' h3 hf
    exact hQ _ _ _ _ (lwB_d hP (by decide) h3 hf) (zfB_I (fun c j w => hf c j (by omega)))
  · obtain ⟨g, q, G, K, ⟨g8, g9⟩, g10, g11⟩ := hB.2.2 hb
    refine Or.inr ⟨(lwX σ).1, (lwX σ).2.1, (lwBo σ).2.1, g, he, hS, hP.2.1.1, G.1, (hI.2.2 hb).1.1, g9, hX.1, ?_⟩
    intro v I' hv h3 hx hf
    have f9 : ∀ c j : Nat, ¬ (c = 165 ∧ (j = 0 ∨ j = 49)) → ¬ (268 ≤ c ∧ c ≤ 279) → I' c j = I c j := fun c j w1 w2 => hf c j (by omega) (by omega) (by omega) (by omega) (by omega) (by omega) (by omega) (by omega) (by omega) (by omega) (by omega) (by omega) (by omega) (by omega) (by omega) (by omega)
    have f49 : I' 165 49 = I 165 49 := hf _ _ (by omega) (by omega) (by omega) (by omega) (by omega) (by omega) (by omega) (by omega) (by omega) (by omega) (by omega) (by omega) (by omega) (by omega) (by omega) (by omega)
    have zf : zfB I L R S I' L R S := zfB_I (fun c j w => f9 c j (by omega) (by omega))
    by_cases hp : 0 ≤ svV 1 (lwX σ).2.1 (lwBo σ).2.1 (lwX σ).1
    · rw [show lf34 σ a1 a2 a3 a4 a5 = lf34y σ from (if_neg hb).trans (if_pos hp)] at hQ hI2
      rw [if_pos hp] at hv h3 hx
      subst hv
      exact hQ _ _ _ _ (lwB_x hP hI2 h3 ⟨hx, f49.trans hX.2⟩ f9) zf
    · rw [show lf34 σ a1 a2 a3 a4 a5 = (lwx σ (-(svV 1 (lwX σ).2.1 (lwBo σ).2.1 (lwX σ).1)) (lwX σ), -1) from (if_neg hb).trans (if_neg hp)] at hQ hI2
      rw [if_neg hp] at hv h3 hx
      subst hv
      exact hQ _ _ _ _ (lwB_x hP hI2 h3 ⟨hx, f49.trans hX.2⟩ f9) zf)
