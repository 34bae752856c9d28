
/-! release -/
abbrev lwRe (σ : LwS) : ReL := σ.2.2.2.2.2.2.2
noncomputable def lwRv (σ : LwS) : Int := rlV (lwRe σ).1.1 (dTx (lwC σ).2.1 0).length (scDu (lwSc σ).1 (lwSc σ).2.1 (lwE (lwC σ)))
noncomputable def lwRn (σ : LwS) : ReL := (((lwRe σ).1.1 + 1, upF (lwRe σ).1.2.1 (lwRe σ).1.1 (wAt (dTx (lwC σ).2.1 0)), upF (lwRe σ).1.2.2 (lwRe σ).1.1 (dTx (lwC σ).2.1 0).length), upF (lwRe σ).2.1 (lwRe σ).1.1 (fun _ => -1), upF (lwRe σ).2.2.1 (lwRe σ).1.1 0, (lwRe σ).2.2.2)
noncomputable def lf41y (σ : LwS) : LwS × Int := (lwe σ 0 (lwRn σ), lwRv σ)
noncomputable def lf41 : ZSpf := fun σ _ _ _ _ _ => if (lwC σ).1 = 0 then (lwd σ 3, -1) else if 0 ≤ lwRv σ then lf41y σ else (lwe σ (-(lwRv σ)) (lwRe σ), -1)
theorem rlV_o {cn N : Nat} {du : Int} : (rlV cn N du = cn ∧ cn ≠ 10) ∨ rlV cn N du = -1 ∨ rlV cn N du = -5 := by
  unfold rlV
  split
  · exact Or.inr (Or.inl rfl)
  · split
    · exact Or.inr (Or.inr rfl)
    · rename_i h _
      exact Or.inl ⟨rfl, fun w => h (Or.inl w)⟩
theorem lwRv_o (σ : LwS) : (lwRv σ = (lwRe σ).1.1 ∧ (lwRe σ).1.1 ≠ 10) ∨ lwRv σ = -1 ∨ lwRv σ = -5 := rlV_o
theorem lwRn_i {σ : LwS} (h : iE (lwRe σ)) (hn : (lwRe σ).1.1 ≠ 10) : iE (lwRn σ) := by
  obtain ⟨h1, h2, h3, h4⟩ := h
  refine ⟨by show (lwRe σ).1.1 + 1 ≤ 10; omega, fun r p hr hp => ?_, fun r hr => ?_, h4⟩
  · have hr2 : r < (lwRe σ).1.1 + 1 := hr
    show -1 ≤ upF (lwRe σ).2.1 (lwRe σ).1.1 (fun _ => (-1 : Int)) r p ∧ upF (lwRe σ).2.1 (lwRe σ).1.1 (fun _ => (-1 : Int)) r p ≤ 3
    by_cases e : r = (lwRe σ).1.1
    · rw [e, upF_at]; decide
    · rw [upF_ne e]; exact h2 r p (by omega) hp
  · have hr2 : r < (lwRe σ).1.1 + 1 := hr
    show upF (lwRe σ).2.2.1 (lwRe σ).1.1 0 r = 0 ∨ upF (lwRe σ).2.2.1 (lwRe σ).1.1 0 r = 1
    by_cases e : r = (lwRe σ).1.1
    · rw [e, upF_at]; exact Or.inl rfl
    · rw [upF_ne e]; exact h3 r (by omega)
theorem lwA_rl {σ : LwS} {I L I' : ZI} {R : ZR} {S : ZS} {d : Int} {y : ReL} (h : lwA σ I L R S) (hd : 0 ≤ d ∧ d ≤ 5) (hy : iE y) (h3 : I' 40 3 = d) (hE : aE y I') (hf : ∀ c j : Nat, ¬ (c = 40 ∧ j = 3) → ¬ (154 ≤ c ∧ c ≤ 164) → ¬ (c = 138 ∧ (j = 16 ∨ j = 17)) → ¬ ((c = 106 ∨ c = 118) ∧ j = 17) → ¬ (c = 117 ∨ c = 129) → I' c j = I c j) : lwA (lwe σ d y) I' L R S := by
  obtain ⟨h0, ⟨h1, h2⟩, h3', h4, h5, h6, h7, h8, h9, h10⟩ := h
  exact ⟨lwI_e h0 hd hy, ⟨h1, zStf h2 (fun c j q1 q2 => ⟨hf c j (by omega) (by omega) (by omega) (by omega) (by omega), rfl⟩)⟩, ⟨h3, zTA_fr h3'.2 (fun c j q => hf c j (by omega) (by omega) (by omega) (by omega) (by omega))⟩, aR_fr h4 (fun c j q => hf c j (by omega) (by omega) (by omega) (by omega) (by omega)) (fun _ _ _ => rfl) ⟨rfl, rfl⟩, aB_fr h5 (fun c j q => hf c j (by omega) (by omega) (by omega) (by omega) (by omega)) (fun _ _ _ => rfl), aU_fr h6 (fun c j q => hf c j (by omega) (by omega) (by omega) (by omega) (by omega)), aC_fr h7 (fun c j q => hf c j (by omega) (by omega) (by omega) (by omega) (by omega)) ⟨rfl, rfl⟩, aS_fr h8 (fun c j q => hf c j (by unfold scK at q; omega) (by unfold scK at q; omega) (by unfold scK at q; omega) (by unfold scK at q; omega) (by unfold scK at q; omega)) (fun _ _ _ => rfl) ⟨rfl, rfl, rfl⟩, aX_fr h9 (fun c j q => hf c j (by omega) (by omega) (by omega) (by omega) (by omega)), hE⟩
theorem lwA41 : lwCA 41 lf41 := ZSnd.alt (sn_Z_rel0.up (by decide)) (sn_Z_rel.up (by decide)) (by
  rintro args I L R S Q hz ⟨σ, a1, a2, a3, a4, a5, he, hr, hS, hcc, hP, hQ⟩
  by_cases hm : (lwC σ).1 = 0
  · rw [show lf41 σ a1 a2 a3 a4 a5 = (lwd σ 3, -1) from if_pos hm] at hQ
    refine Or.inl ⟨he, hS, hP.2.1.1, lwA_u0 hP hm, ?_⟩
    intro I' h3 hf
    exact hQ _ _ _ _ (lwA_d hP (by decide) h3 hf) (zfA_I (fun c j w => hf c j (by omega))) (zRb rfl)
  · obtain ⟨k, r1, hd, hk, hU, h14, hm2⟩ := lwA_u hP hS hm
    have hE : aE (lwRe σ) I := hP.2.2.2.2.2.2.2.2.2
    have hi : iE (lwRe σ) := hP.1.2.2.2.2.2.2.2
    have hsc : scA (lwSc σ).1 (lwSc σ).2.1 (lwSc σ).2.2 I L R := hP.2.2.2.2.2.2.2.1
    obtain ⟨e1, e2, e3, e4⟩ := id hE
    have ro := lwRv_o σ
    refine Or.inr ⟨k, _, _, _, _, _, _, _, (lwSc σ).1, (lwSc σ).2.1, (lwSc σ).2.2, lwE (lwC σ), (lwRe σ).1.1, (lwRe σ).1.2.1, (lwRe σ).1.2.2, he, hS, hP.2.1.1, h14, hm2, r1, hd, hk, hP.2.1.2, hU, hsc, e1, hP.1.2.2.2.2.1.1.2.2.2, ?_, ?_⟩
    · unfold lwE
      split <;> rfl
    · intro v I' hv h3 hx hf
      have f9 : ∀ c j : Nat, ¬ (c = 40 ∧ j = 3) → ¬ (154 ≤ c ∧ c ≤ 164) → ¬ (c = 138 ∧ (j = 16 ∨ j = 17)) → ¬ ((c = 106 ∨ c = 118) ∧ j = 17) → ¬ (c = 117 ∨ c = 129) → I' c j = I c j := fun c j w1 w2 w3 w4 w5 => hf c j (by omega) (by omega) (by omega) (by omega) (by omega) (by omega) (by omega) (by omega) (by omega) (by omega) (by omega) (by omega) (by omega) (by omega) (by omega) (by omega)
      have zf : zfA I L R S I' L R S := zfA_I (fun c j w => f9 c j (by omega) (by omega) (by omega) (by omega) (by omega))
      have f6 : I' 154 6 = I 154 6 := hf _ _ (by omega) (by omega) (by omega) (by omega) (by omega) (by omega) (by omega) (by omega) (by omega) (by omega) (by omega) (by omega) (by omega) (by omega) (by omega) (by omega)
      have hv' : v = if 0 ≤ lwRv σ then lwRv σ else -1 := hv
      have h3' : I' 40 3 = if 0 ≤ lwRv σ then 0 else -(lwRv σ) := h3
      by_cases hp : 0 ≤ lwRv σ
      · rw [show lf41 σ a1 a2 a3 a4 a5 = lf41y σ from (if_neg hm).trans (if_pos hp)] at hQ
        rw [if_pos hp] at hv' h3'
        have hx' := hx
        rw [if_pos (show 0 ≤ rlV (lwRe σ).1.1 (dTx (lwC σ).2.1 0).length (scDu (lwSc σ).1 (lwSc σ).2.1 (lwE (lwC σ))) from hp)] at hx'
        subst hv'
        have hn : (lwRe σ).1.1 ≠ 10 := by omega
        refine hQ _ _ _ _ (lwA_rl hP (by decide) (lwRn_i hi hn) h3' ⟨hx'.1, fun r p hr hp2 => ?_, fun r hr => ?_, f6.trans e4⟩ f9) zf (show r32 (lwRv σ) from ⟨by have := hi.1; omega, by have := hi.1; omega⟩)
        · have hr2 : r < (lwRe σ).1.1 + 1 := hr
          show I' 158 (16 * r + p) = upF (lwRe σ).2.1 (lwRe σ).1.1 (fun _ => (-1 : Int)) r p
          by_cases e : r = (lwRe σ).1.1
          · rw [e, upF_at]; exact hx'.2.1 p hp2
          · rw [upF_ne e]
            exact (hf _ _ (by omega) (by omega) (by omega) (by omega) (by omega) (by omega) (by omega) (by omega) (by omega) (by omega) (by omega) (by omega) (by omega) (by omega) (by omega) (by omega)).trans (e2 r p (by omega) hp2)
        · have hr2 : r < (lwRe σ).1.1 + 1 := hr
          show I' 159 r = upF (lwRe σ).2.2.1 (lwRe σ).1.1 0 r
          by_cases e : r = (lwRe σ).1.1
          · rw [e, upF_at]; exact hx'.2.2
          · rw [upF_ne e]
            exact (hf _ _ (by omega) (by omega) (by omega) (by omega) (by omega) (by omega) (by omega) (by omega) (by omega) (by omega) (by omega) (by omega) (by omega) (by omega) (by omega) (by omega)).trans (e3 r (by omega))
      · rw [show lf41 σ a1 a2 a3 a4 a5 = (lwe σ (-(lwRv σ)) (lwRe σ), -1) from (if_neg hm).trans (if_neg hp)] at hQ
        rw [if_neg hp] at hv' h3'
        have hx' := hx
        rw [if_neg (show ¬ 0 ≤ rlV (lwRe σ).1.1 (dTx (lwC σ).2.1 0).length (scDu (lwSc σ).1 (lwSc σ).2.1 (lwE (lwC σ))) from hp)] at hx'
        subst hv'
        exact hQ _ _ _ _ (lwA_rl hP (by omega) hi h3' ⟨hx'.1, fun r p hr hp2 => (hx'.2.2 _ _ (by omega)).trans (e2 r p hr hp2), fun r hr => (hx'.2.2 _ _ (by omega)).trans (e3 r hr), f6.trans e4⟩ f9) zf (zRb rfl))
theorem lwW_up {w : Nat → Int} {n : Nat} {x : Int} : ∀ m : Nat, m ≤ n → lwW (upF w n x) m = lwW w m
  | 0, _ => rfl
  | m + 1, h => by
    show lwW (upF w n x) m + upF w n x m = lwW w m + w m
    rw [lwW_up m (by omega), upF_ne (by omega)]
theorem lwB41 : lwCB 41 lf41 := ZSnd.alt (sn_Y_rel0.up (by decide)) (sn_Y_rel.up (by decide)) (by
  rintro args I L R S Q hz ⟨σ, a1, a2, a3, a4, a5, he, hr, hS, hcc, hP, hQ⟩
  have hC : bC (lwC σ) I L R S := hP.2.2.2.2.2.2.1
  have hI2 := hcc.2
  by_cases hm : (lwC σ).1 = 0
  · rw [show lf41 σ a1 a2 a3 a4 a5 = (lwd σ 3, -1) from if_pos hm] at hQ
    refine Or.inl ⟨he, hS, hP.2.1.1, hC.2.1 hm, ?_⟩
    intro I' h3 hf
    exact hQ _ _ _ _ (lwB_d hP (by decide) h3 hf) (zfB_I (fun c j w => hf c j (by omega)))
  · obtain ⟨q, ⟨k1, k2, k3, k4, k5⟩, ⟨k6, k7, k8⟩, ⟨k9, k10⟩, k11, k12⟩ := hC.2.2 hm
    have hIC := hP.1.2.2.2.2.1.2 hm
    have hE : bE (lwRe σ) I := hP.2.2.2.2.2.2.2.2.2
    have hi : iE (lwRe σ) := hP.1.2.2.2.2.2.2.2
    have hs : iS (lwSc σ) := hP.1.2.2.2.2.2.1
    have hsc : scB (lwSc σ).1 (lwSc σ).2.1 (lwSc σ).2.2 I L := hP.2.2.2.2.2.2.2.1
    obtain ⟨⟨e1, e2, e3⟩, e4, e5, e6, ⟨e7, e8⟩, e9, e10⟩ := id hE
    have ro := lwRv_o σ
    have z44 := hz.1 165 44
    refine Or.inr ⟨(lwSc σ).1, (lwSc σ).2.1, (lwSc σ).2.2, q, (lwC σ).2.1, lwE (lwC σ), _, _, (lwRe σ).1.1, (lwRe σ).1.2.1, (lwRe σ).1.2.2, _, he, hS, hP.2.1.1, k1, k3, k11, lwE_b _, hs.1, hsc, hs.2, rfl, ⟨hC.1.2.1, z44.2⟩, rfl, k9, k10, hIC.2.2.2.2.1, hIC.2.1, e1, e2, e3, rfl, ?_⟩
    intro v I' L' hv h3 hx h44 hf hl
    have f9 : ∀ c j : Nat, ¬ (c = 165 ∧ (j = 0 ∨ j = 44 ∨ j = 45 ∨ j = 46)) → ¬ (c = 234 ∧ (j = 0 ∨ j = 66)) → ¬ (c = 280 ∧ (j = 0 ∨ j = 2 ∨ j = 8 ∨ j = 15)) → ¬ (282 ≤ c ∧ c ≤ 293) → I' c j = I c j := fun c j w1 w2 w3 w4 => hf c j (by omega) (by omega) (by omega) (by omega) (by omega) (by omega) (by omega) (by omega) (by omega) (by omega) (by omega) (by omega) (by omega) (by omega) (by omega) (by omega) (by omega) (by omega) (by omega) (by omega) (by omega) (by omega)
    have l9 : ∀ c j : Nat, ¬ c = 267 → ¬ (c = 234 ∧ j = 65) → L' c j = L c j := hl
    have zf : zfB I L R S I' L' R S := zfB_IL (fun c j w => f9 c j (by omega) (by omega) (by omega) (by omega)) (fun c j w => l9 c j (by omega) (by omega))
    have hv' : v = if 0 ≤ lwRv σ then lwRv σ else -1 := hv
    have h3' : I' 165 0 = if 0 ≤ lwRv σ then 0 else -(lwRv σ) := h3
    obtain ⟨hx, h287⟩ := hx
    have fin : ∀ (d : Int) (y : ReL), lwI (lwe σ d y) → I' 165 0 = d → bE y I' → lwB (lwe σ d y) I' L' R S := fun d y hI h0 hb => by
      obtain ⟨z0, z1, z3, z4, z5, z6, z7, z8, z9, z10⟩ := hP
      exact ⟨hI, z1, ⟨h0, zTB_fr z3.2 (fun c j w => f9 c j (by omega) (by omega) (by omega) (by omega))⟩, bR_fr z4 (zSg_r _) (fun c j w => f9 c j (by omega) (by omega) (by omega) (by omega)) (fun c j w => l9 c j (by omega) (by omega)) rfl (fun p w0 w1 w2 => ⟨fun c j w => f9 c j (by omega) (by omega) (by omega) (by omega), fun c j w => ⟨l9 c j (by omega) (by omega), rfl⟩⟩), bB_fr z5 (zSg_r _) (fun c j w => f9 c j (by omega) (by omega) (by omega) (by omega)) ⟨rfl, rfl⟩ (fun g q _ _ w1 w2 w3 => ⟨fun c j w => f9 c j (by omega) (by omega) (by omega) (by omega), fun c j w => ⟨l9 c j (by omega) (by omega), rfl⟩⟩), bU_fr z6 (fun c j w => f9 c j (by omega) (by omega) (by omega) (by omega)), bC_fr z7 (zSg_r _) h44 (fun j w => by rw [f9 _ _ (by omega) (by omega) (by omega) (by omega)]; exact z7.1.2.2 j w) (fun c j w => f9 c j (by omega) (by omega) (by omega) (by omega)) ⟨rfl, rfl⟩ (fun q _ w1 w2 => ⟨fun c j w => f9 c j (by omega) (by omega) (by omega) (by omega), fun c j w => l9 c j (by omega) (by omega), fun c j w => rfl⟩), bS_fr z8 (fun c j w => f9 c j (by omega) (by omega) (by omega) (by omega)) (fun c j w => l9 c j (by omega) (by omega)), bX_fr z9 (fun c j w => f9 c j (by omega) (by omega) (by omega) (by omega)), hb⟩
    have g9 : ∀ c j : Nat, (c = 280 ∧ (j = 21 ∨ j = 22 ∨ j = 24)) ∨ c = 295 ∨ c = 296 → I' c j = I c j := fun c j w => f9 c j (by omega) (by omega) (by omega) (by omega)
    by_cases hp : 0 ≤ lwRv σ
    · rw [show lf41 σ a1 a2 a3 a4 a5 = lf41y σ from (if_neg hm).trans (if_pos hp)] at hQ hI2
      rw [if_pos hp] at hv' h3'
      have hx' := hx
      rw [if_pos (show 0 ≤ rlV (lwRe σ).1.1 (dTx (lwC σ).2.1 0).length (scDu (lwSc σ).1 (lwSc σ).2.1 (lwE (lwC σ))) from hp)] at hx'
      subst hv'
      have hn : (lwRe σ).1.1 < 10 := by have := hi.1; omega
      obtain ⟨n1, n2⟩ := e6 (lwRe σ).1.1 (Nat.le_refl _) hn
      refine hQ _ _ _ _ (fin 0 (lwRn σ) hI2 h3' ⟨⟨hx'.1, hx'.2, h287⟩, fun r p hr hp2 => ?_, fun r hr => ?_, fun r q1 q2 => ?_, ⟨(g9 _ _ (by omega)).trans e7, ?_⟩, by rw [g9 _ _ (by omega)]; exact e9, by rw [g9 _ _ (by omega)]; exact e10⟩) zf
      · have hr2 : r < (lwRe σ).1.1 + 1 := hr
        show I' 295 (16 * r + p) = upF (lwRe σ).2.1 (lwRe σ).1.1 (fun _ => (-1 : Int)) r p + 1
        rw [g9 _ _ (by omega)]
        by_cases e : r = (lwRe σ).1.1
        · rw [e, upF_at, n2 p hp2]; decide
        · rw [upF_ne e]; exact e4 r p (by omega) hp2
      · have hr2 : r < (lwRe σ).1.1 + 1 := hr
        show I' 296 r = upF (lwRe σ).2.2.1 (lwRe σ).1.1 0 r
        rw [g9 _ _ (by omega)]
        by_cases e : r = (lwRe σ).1.1
        · rw [e, upF_at]; exact n1
        · rw [upF_ne e]; exact e5 r (by omega)
      · have q1' : (lwRe σ).1.1 + 1 ≤ r := q1
        have w := e6 r (by omega) q2
        exact ⟨(g9 _ _ (by omega)).trans w.1, fun p hp2 => (g9 _ _ (by omega)).trans (w.2 p hp2)⟩
      · show I' 280 21 = lwW (upF (lwRe σ).2.2.1 (lwRe σ).1.1 0) (lwRe σ).1.1 + upF (lwRe σ).2.2.1 (lwRe σ).1.1 0 (lwRe σ).1.1
        rw [upF_at, lwW_up _ (Nat.le_refl _), Int.add_zero]
        exact (g9 _ _ (by omega)).trans e8
    · rw [show lf41 σ a1 a2 a3 a4 a5 = (lwe σ (-(lwRv σ)) (lwRe σ), -1) from (if_neg hm).trans (if_neg hp)] at hQ hI2
      rw [if_neg hp] at hv' h3'
      have hx' := hx
      rw [if_neg (show ¬ 0 ≤ rlV (lwRe σ).1.1 (dTx (lwC σ).2.1 0).length (scDu (lwSc σ).1 (lwSc σ).2.1 (lwE (lwC σ))) from hp)] at hx'
      subst hv'
      exact hQ _ _ _ _ (fin _ (lwRe σ) hI2 h3' ⟨⟨hx'.1, hx'.2, h287⟩, fun r p hr hp2 => (g9 _ _ (by omega)).trans (e4 r p hr hp2), fun r hr => (g9 _ _ (by omega)).trans (e5 r hr), fun r q1 q2 => ⟨(g9 _ _ (by omega)).trans (e6 r q1 q2).1, fun p hp2 => (g9 _ _ (by omega)).trans ((e6 r q1 q2).2 p hp2)⟩, ⟨(g9 _ _ (by omega)).trans e7, (g9 _ _ (by omega)).trans e8⟩, by rw [g9 _ _ (by omega)]; exact e9, by rw [g9 _ _ (by omega)]; exact e10⟩) zf)
