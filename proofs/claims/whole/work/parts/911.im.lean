
/-! cut -/
def lwc (σ : LwS) (d : Int) (y : CuL) : LwS := ((d, σ.1.2), σ.2.1, σ.2.2.1, σ.2.2.2.1, y, σ.2.2.2.2.2)
theorem lwI_c {σ : LwS} {d : Int} {y : CuL} (h : lwI σ) (hd : 0 ≤ d ∧ d ≤ 5) (hy : iC y) : lwI (lwc σ d y) := ⟨⟨hd, h.1.2⟩, h.2.1, h.2.2.1, h.2.2.2.1, hy, h.2.2.2.2.2⟩
theorem lwA_c {σ : LwS} {I L I' : ZI} {R R' : ZR} {S : ZS} {d : Int} {y : CuL} (h : lwA σ I L R S) (hd : 0 ≤ d ∧ d ≤ 5) (hy : iC y) (hRs : zRs R') (h3 : I' 40 3 = d) (hC : aC y I' R') (hf : ∀ c j : Nat, ¬ (c = 40 ∧ (j = 3 ∨ j = 14)) → ¬ (106 ≤ c ∧ c ≤ 129) → I' c j = I c j) (hr : ∀ c j : Nat, ¬ (c = 40 ∧ (j = 12 ∨ j = 13)) → R' c j = R c j) : lwA (lwc σ d y) I' L R' S := by
  obtain ⟨h0, ⟨h1, h2⟩, h3', h4, h5, h6, h7, h8, h9, h10⟩ := h
  exact ⟨lwI_c h0 hd hy, ⟨hRs, zStf h2 (fun c j q1 q2 => ⟨hf c j (by omega) (by omega), rfl⟩)⟩, ⟨h3, zTA_fr h3'.2 (fun c j q => hf c j (by omega) (by omega))⟩, aR_fr h4 (fun c j q => hf c j (by omega) (by omega)) (fun _ _ _ => rfl) ⟨hr _ _ (by omega), hr _ _ (by omega)⟩, aB_fr h5 (fun c j q => hf c j (by omega) (by omega)) (fun _ _ _ => rfl), aU_fr h6 (fun c j q => hf c j (by omega) (by omega)), hC, aS_fr h8 (fun c j q => hf c j (by unfold scK at q; omega) (by unfold scK at q; omega)) (fun _ _ _ => rfl) ⟨hr _ _ (by omega), hr _ _ (by omega), hr _ _ (by omega)⟩, aX_fr h9 (fun c j q => hf c j (by omega) (by omega)), aE_fr h10 (fun c j q => hf c j (by omega) (by omega))⟩
noncomputable def lwCn (σ : LwS) : CuL := ((lwC σ).1 + 1, cuS (lwBo σ).2.1, bnp (lwBo σ).2.1, lwU σ, (lwBo σ).1, if bOpn (lwBo σ).2.1 (bnn (lwBo σ).2.1) = 0 then 1 else 0)
noncomputable def lf19y (σ : LwS) : LwS × Int := (lwc σ 0 (lwCn σ), ((cuS (lwBo σ).2.1).length : Int))
noncomputable def lf19 : ZSpf := fun σ _ _ _ _ _ => if (lwBo σ).1 = 0 then (lwd σ 3, -1) else if (lwC σ).1 = 10 then (lwd σ 1, -1) else if 60 < (cuS (lwBo σ).2.1).length then (lwc σ 1 (lwC σ), -1) else lf19y σ
theorem lwCn_i {σ : LwS} (h : lwI σ) (hb : (lwBo σ).1 ≠ 0) (hm : (lwC σ).1 ≠ 10) (hl : (cuS (lwBo σ).2.1).length ≤ 60) (hA : (cuAA (cuS (lwBo σ).2.1) (bnp (lwBo σ).2.1)).length ≤ 40) : iC (lwCn σ) := by
  have hI : iB (lwBo σ) := h.2.2.1
  have hC : iC (lwC σ) := h.2.2.2.2.1
  have hg := (hI.2.2 hb).1.1
  refine ⟨⟨by have := hC.1.1; show (lwC σ).1 + 1 ≤ 10; omega, hI.1, fun w => absurd w (Nat.succ_ne_zero _), ?_⟩, fun _ => ⟨?_, cuS_G hg, hl, cuS_p hg, cuS_20 hg hl, hA⟩⟩
  · show (if bOpn (lwBo σ).2.1 (bnn (lwBo σ).2.1) = 0 then (1 : Int) else 0) = 0 ∨ (if bOpn (lwBo σ).2.1 (bnn (lwBo σ).2.1) = 0 then (1 : Int) else 0) = 1
    split
    · exact Or.inr rfl
    · exact Or.inl rfl
  · show 1 ≤ (lwBo σ).1
    omega
theorem lwA19 : lwCA 19 lf19 := ZSnd.alt4 (sn_Z_cutN.up (by decide)) (sn_Z_cutF.up (by decide)) (sn_Z_cutS.up (by decide)) (sn_Z_cut.up (by decide)) (by
  rintro args I L R S Q hz ⟨σ, a1, a2, a3, a4, a5, he, hr, hS, hcc, hP, hQ⟩
  have hB0 : aB (lwBo σ) I L := hP.2.2.2.2.1
  have hI : iB (lwBo σ) := hP.1.2.2.1
  have hIC : iC (lwC σ) := hP.1.2.2.2.2.1
  have hUr : cuRg (lwU σ).1 (lwU σ).2 := hP.1.2.2.2.1
  have hU0 : zRT 104 30 (lwU σ).1 (lwU σ).2 I := hP.2.2.2.2.2.1
  by_cases hb : (lwBo σ).1 = 0
  · rw [show lf19 σ a1 a2 a3 a4 a5 = (lwd σ 3, -1) from if_pos hb] at hQ
    refine Or.inl ⟨he, hS, hP.2.1.1, by rw [hB0.2.1, hb]; rfl, ?_⟩
    intro I' h3 hf
    exact hQ _ _ _ _ (lwA_d hP (by decide) h3 hf) (zfA_I (fun c j w => hf c j (by omega))) (zRb rfl)
  · have hB := hB0.1 hb
    have hb7 : 1 ≤ (lwBo σ).1 ∧ (lwBo σ).1 ≤ 7 := by have := hI.1; omega
    obtain ⟨h14, ⟨k, u, hk, ⟨r1, r2⟩, k0, kU⟩, ⟨e1, e2⟩, e3, e4⟩ : aC (lwC σ) I R := hP.2.2.2.2.2.2.1
    by_cases hm : (lwC σ).1 = 10
    · rw [show lf19 σ a1 a2 a3 a4 a5 = (lwd σ 1, -1) from (if_neg hb).trans (if_pos hm)] at hQ
      refine Or.inr (Or.inl ⟨(lwBo σ).1, he, hS, hP.2.1.1, hB.1.1, hb7, by rw [h14, hm]; rfl, ?_⟩)
      intro I' h3 hf
      exact hQ _ _ _ _ (lwA_d hP (by decide) h3 hf) (zfA_I (fun c j w => hf c j (by omega))) (zRb rfl)
    · have hdu : zDy zT1 zF1 u R S := by
        rcases hk with w | w
        · rw [w.2]; exact zDy_118 hP.2.1.1 hS
        · rw [w.2]; exact zDy_106 hP.2.1.1 hS
      have hu6 : I (u + 1) 1 = 60 ∧ I (u + 5) 1 = 40 := by
        rcases hk with w | w
        · rw [w.2]; exact ⟨e3, e4⟩
        · rw [w.2]; exact ⟨e1, e2⟩
      have hm9 : (lwC σ).1 ≤ 9 := by have := hIC.1.1; omega
      by_cases hl : 60 < (cuS (lwBo σ).2.1).length
      · rw [show lf19 σ a1 a2 a3 a4 a5 = (lwc σ 1 (lwC σ), -1) from (if_neg hb).trans ((if_neg hm).trans (if_pos hl))] at hQ
        refine Or.inr (Or.inr (Or.inl ⟨u, (lwBo σ).1, (lwBo σ).2.1, (lwU σ).1, (lwU σ).2, (lwC σ).1, he, hS, hP.2.1.1, r2, hdu, by omega, hP.2.1.2, hB, (hI.2.2 hb).1.1, hU0, hUr, hu6.1, hu6.2, hb7, h14, hm9, hl, ?_⟩))
        intro I' h3 hf
        have f9 : ∀ c j : Nat, ¬ (c = 40 ∧ j = 3) → ¬ (u ≤ c ∧ c ≤ u + 10 ∧ ¬ ((c = u + 1 ∨ c = u + 5) ∧ j = 1)) → I' c j = I c j := fun c j w1 w2 => hf c j (by omega) (by omega) (by omega) (by omega) (by omega) (by omega) (by omega) (by omega) (by omega) (by omega) (by omega) (by omega) (by omega) (by omega) (by omega) (by omega) (by omega) (by omega) (by omega)
        refine hQ _ _ _ _ (lwA_c hP (by decide) hIC hP.2.1.1 h3 ⟨(f9 _ _ (by omega) (by omega)).trans h14, ⟨k, u, hk, ⟨r1, r2⟩, (f9 _ _ (by omega) (by omega)).trans k0, fun q => zUC_fr (kU q) (fun c j y => f9 c j (by omega) (by omega))⟩, ⟨(f9 _ _ (by omega) (by omega)).trans e1, (f9 _ _ (by omega) (by omega)).trans e2⟩, (f9 _ _ (by omega) (by omega)).trans e3, (f9 _ _ (by omega) (by omega)).trans e4⟩ (fun c j w1 w2 => f9 c j (by omega) (by omega)) (fun _ _ _ => rfl)) (zfA_I (fun c j w => f9 c j (by omega) (by omega))) (zRb rfl)
      · rw [show lf19 σ a1 a2 a3 a4 a5 = lf19y σ from (if_neg hb).trans ((if_neg hm).trans (if_neg hl))] at hQ
        have hl6 : (cuS (lwBo σ).2.1).length ≤ 60 := by omega
        refine Or.inr (Or.inr (Or.inr ⟨u, (lwBo σ).1, (lwBo σ).2.1, (lwU σ).1, (lwU σ).2, (lwC σ).1, k, he, hS, hP.2.1.1, r2, hdu, by omega, hP.2.1.2, hB, (hI.2.2 hb).1.1, hU0, hUr, hu6.1, hu6.2, hb7, h14, hm9, hl6, r1, ?_⟩))
        rintro v I' R' rfl h3 h14' hUC r12 r13 hRs hf hrf
        have f9 : ∀ c j : Nat, ¬ (c = 40 ∧ (j = 3 ∨ j = 14)) → ¬ (u ≤ c ∧ c ≤ u + 10 ∧ ¬ ((c = u + 1 ∨ c = u + 5) ∧ j = 1)) → I' c j = I c j := fun c j w1 w2 => hf c j (by omega) (by omega) (by omega) (by omega) (by omega) (by omega) (by omega) (by omega) (by omega) (by omega) (by omega) (by omega) (by omega) (by omega) (by omega) (by omega) (by omega) (by omega) (by omega) (by omega)
        have r9 : ∀ c j : Nat, ¬ (c = 40 ∧ (j = 12 ∨ j = 13)) → R' c j = R c j := fun c j w => hrf c j (by omega) (by omega)
        exact hQ _ _ _ _ (lwA_c hP (by decide) (lwCn_i hP.1 hb hm hl6 hUC.1.2.2.2.2.2) hRs h3 ⟨h14'.trans (by show (((lwC σ).1 : Nat) : Int) + 1 = (((lwC σ).1 + 1 : Nat) : Int); omega), ⟨u, k, by omega, ⟨r12, r13⟩, hUC.1.1.1, fun _ => hUC⟩, ⟨(f9 _ _ (by omega) (by omega)).trans e1, (f9 _ _ (by omega) (by omega)).trans e2⟩, (f9 _ _ (by omega) (by omega)).trans e3, (f9 _ _ (by omega) (by omega)).trans e4⟩ (fun c j w1 w2 => f9 c j (by omega) (by omega)) r9) (zfA_ILR (fun c j w => f9 c j (by omega) (by omega)) (fun _ _ _ => rfl) (fun c j w => r9 c j (by omega))) (show r32 (((cuS (lwBo σ).2.1).length : Nat) : Int) from ⟨by omega, by omega⟩))
theorem lwB_7S {σ : LwS} {I L : ZI} {R : ZR} {S : ZS} (h : lwB σ I L R S) : ∀ q : Nat, R 165 7 = some q → q + 23 ≤ S.2.1 := fun q w => by
  rcases lwB_r h with ⟨_, _, r7, _⟩ | ⟨_, _, q', r7, q2, _⟩
  · rw [r7] at w; exact absurd w (by simp)
  · have e : q' = q := Option.some.inj (r7.symm.trans w)
    have : q' + 23 ≤ S.2.1 := q2.2.1
    omega
theorem lwB19 : lwCB 19 lf19 := ZSnd.alt4 (sn_Y_cutN.up (by decide)) (sn_Y_cutF.up (by decide)) (sn_Y_cutS.up (by decide)) (sn_Y_cut.up (by decide)) (by
  rintro args I L R S Q hz ⟨σ, a1, a2, a3, a4, a5, he, hr, hS, hcc, hP, hQ⟩
  have hB : bB (lwBo σ) I L R S := hP.2.2.2.2.1
  have hI : iB (lwBo σ) := hP.1.2.2.1
  have hIC : iC (lwC σ) := hP.1.2.2.2.2.1
  have hUr : cuRg (lwU σ).1 (lwU σ).2 := hP.1.2.2.2.1
  have hU0 : zMR (lwU σ).1 (lwU σ).2 I := hP.2.2.2.2.2.1
  have hC : bC (lwC σ) I L R S := hP.2.2.2.2.2.2.1
  have hI2 := hcc.2
  by_cases hb : (lwBo σ).1 = 0
  · rw [show lf19 σ a1 a2 a3 a4 a5 = (lwd σ 3, -1) from if_pos hb] at hQ
    refine Or.inl ⟨he, hS, hP.2.1.1, (hB.2.1 hb).1, ?_⟩
    intro I' h3 hf
    exact hQ _ _ _ _ (lwB_d hP (by decide) h3 hf) (zfB_I (fun c j w => hf c j (by omega)))
  · obtain ⟨g, q0, G, K, ⟨g8, g9⟩, g10, g11⟩ := hB.2.2 hb
    have gg := G.2.2
    have gS : g + 19 ≤ S.2.1 := G.2.1.2.1
    have hs0 : 302 ≤ S.2.1 := hS.1
    by_cases hm : (lwC σ).1 = 10
    · rw [show lf19 σ a1 a2 a3 a4 a5 = (lwd σ 1, -1) from (if_neg hb).trans (if_pos hm)] at hQ
      refine Or.inr (Or.inl ⟨g, he, hS, hP.2.1.1, G.1, by rw [hC.1.1, hm]; rfl, ?_⟩)
      intro I' h3 hf
      exact hQ _ _ _ _ (lwB_d hP (by decide) h3 hf) (zfB_I (fun c j w => hf c j (by omega)))
    · have hm9 : (lwC σ).1 ≤ 9 := by have := hIC.1.1; omega
      by_cases hl : 60 < (cuS (lwBo σ).2.1).length
      · rw [show lf19 σ a1 a2 a3 a4 a5 = (lwc σ 1 (lwC σ), -1) from (if_neg hb).trans ((if_neg hm).trans (if_pos hl))] at hQ
        refine Or.inr (Or.inr (Or.inl ⟨g, (lwBo σ).2.1, (lwC σ).1, he, hS, hP.2.1.1, G.1, G.2.1, g8, (hI.2.2 hb).1.1, gg, g9, hC.1.1, hm9, hl, ?_⟩))
        intro I' h3 hf
        have f0 : ∀ c j : Nat, ¬ (c = 165 ∧ (j = 0 ∨ j = 41 ∨ j = 42)) → I' c j = I c j := fun c j w => hf c j (by omega) (by omega) (by omega)
        obtain ⟨z0, z1, z3, z4, z5, z6, z7, z8, z9, z10⟩ := hP
        exact hQ I' L R S ⟨lwI_c z0 (by decide) hIC, z1, ⟨h3, zTB_fr z3.2 (fun c j w => f0 c j (by omega))⟩, bR_fr z4 (zSg_r _) (fun c j w => f0 c j (by omega)) (fun _ _ _ => rfl) rfl (fun p w0 w1 w2 => ⟨fun c j w => f0 c j (by omega), fun c j w => ⟨rfl, rfl⟩⟩), bB_fr z5 (zSg_r _) (fun c j w => f0 c j (by omega)) ⟨rfl, rfl⟩ (fun g q _ _ w1 w2 w3 => ⟨fun c j w => f0 c j (by omega), fun c j w => ⟨rfl, rfl⟩⟩), bU_fr z6 (fun c j w => f0 c j (by omega)), bC_fr z7 (zSg_r _) (by rw [f0 _ _ (by omega)]; exact z7.1.2.1) (fun j w => by rw [f0 _ _ (by omega)]; exact z7.1.2.2 j w) (fun c j w => f0 c j (by omega)) ⟨rfl, rfl⟩ (fun q _ w1 w2 => ⟨fun c j w => f0 c j (by omega), fun c j w => rfl, fun c j w => rfl⟩), bS_fr z8 (fun c j w => f0 c j (by omega)) (fun c j w => rfl), bX_fr z9 (fun c j w => f0 c j (by omega)), bE_fr z10 (fun c j w => f0 c j (by omega))⟩ (zfB_I (fun c j w => f0 c j (by omega)))
      · rw [show lf19 σ a1 a2 a3 a4 a5 = lf19y σ from (if_neg hb).trans ((if_neg hm).trans (if_neg hl))] at hQ hI2
        have hl6 : (cuS (lwBo σ).2.1).length ≤ 60 := by omega
        refine Or.inr (Or.inr (Or.inr ⟨g, (lwBo σ).2.1, (lwC σ).1, (lwBo σ).1, (lwU σ).1, (lwU σ).2, he, hS, hP.2.1.1, G.1, G.2.1, g8, (hI.2.2 hb).1.1, gg, g9, hC.1.1, hm9, hl6, hB.1, hI.1, hU0, hUr, gS, ?_⟩))
        intro q k d v I' L' R' S' hv h3 h29 hap sg hRs hrm hqk hd15 hd14 hd16 hd17 hrr hY hf hl' hrf
        obtain ⟨hq, hk, hd⟩ := hqk
        subst hv
        have f9 : ∀ c j : Nat, c < S.2.1 → ¬ (c = 165 ∧ (j = 0 ∨ j = 29 ∨ j = 30 ∨ (33 ≤ j ∧ j ≤ 35) ∨ j = 41 ∨ j = 42)) → ¬ (208 ≤ c ∧ c ≤ 211) → ¬ (c = g ∧ j = 0) → I' c j = I c j := fun c j w0 w1 w2 w3 => hf c j (by omega) (by omega) (by omega) (by omega) (by omega) (by omega) (by omega) (by omega) (by omega) (by omega) (by omega) (by omega) (by omega) (by omega) (by omega) (by omega)
        have l9 : ∀ c j : Nat, c < S.2.1 → L' c j = L c j := fun c j w0 => hl' c j (by omega) (by omega) (by omega)
        have r9 : ∀ c j : Nat, c < S.2.1 → ¬ (c = 165 ∧ (j = 31 ∨ j = 32 ∨ j = 43)) → R' c j = R c j := fun c j w0 w1 => hrf c j (by omega) (by omega) (by omega) (by omega) (by omega) (by omega)
        have c2 := lwB_gS hP
        have c3 := lwB_7S hP
        obtain ⟨D1, D2, D3, D4, D5⟩ := hP.2.1.2.2
        have zrm : S.2.1 ≤ 302 + 23 * σ.2.1.2.1 + 19 * σ.2.2.1.1 + 54 * (lwC σ).1 ∧ S.2.2 ≤ 500000 + 44429 * σ.2.1.2.1 + 18613 * σ.2.2.1.1 + 32451 * (lwC σ).1 := hP.2.1.2.1
        obtain ⟨z0, z1, z3, z4, z5, z6, z7, z8, z9, z10⟩ := hP
        refine hQ I' L' R' S' ⟨hI2, ⟨hRs, ?_, ?_⟩, ⟨h3, zTB_fr z3.2 (fun c j w => f9 c j (by omega) (by omega) (by omega) (by omega))⟩, bR_fr z4 sg (fun c j w => f9 c j (by omega) (by omega) (by omega) (by omega)) (fun c j w => l9 c j (by omega)) (r9 _ _ (by omega) (by omega)) (fun p w0 w1 w2 => ⟨fun c j w => f9 c j (by omega) (by omega) (by omega) (by have := D2 g p G.1 w0; omega), fun c j w => ⟨l9 c j (by omega), r9 c j (by omega) (by omega)⟩⟩), bB_fr z5 sg (fun c j w => f9 c j (by omega) (by omega) (by omega) (by omega)) ⟨r9 _ _ (by omega) (by omega), r9 _ _ (by omega) (by omega)⟩ (fun g' p e1 e2 w1 w2 w3 => ⟨fun c j w => f9 c j (by omega) (by omega) (by omega) (by have e : g = g' := Option.some.inj (G.1.symm.trans e1); omega), fun c j w => ⟨l9 c j (by omega), r9 c j (by omega) (by omega)⟩⟩), bU_fr z6 (fun c j w => f9 c j (by omega) (by omega) (by omega) (by omega)), ?_, bS_fr z8 (fun c j w => f9 c j (by omega) (by omega) (by omega) (by omega)) (fun c j w => l9 c j (by omega)), bX_fr z9 (fun c j w => f9 c j (by omega) (by omega) (by omega) (by omega)), bE_fr z10 (fun c j w => f9 c j (by omega) (by omega) (by omega) (by omega))⟩ ⟨sg, fun c j w => ⟨f9 c j (by omega) (by omega) (by omega) (by omega), l9 c j (by omega), r9 c j (by omega) (by omega)⟩⟩
        · show S'.2.1 ≤ 302 + 23 * σ.2.1.2.1 + 19 * σ.2.2.1.1 + 54 * ((lwC σ).1 + 1) ∧ S'.2.2 ≤ 500000 + 44429 * σ.2.1.2.1 + 18613 * σ.2.2.1.1 + 32451 * ((lwC σ).1 + 1)
          omega
        · unfold lwD
          rw [hrr.1, r9 165 12 (by omega) (by omega), r9 165 7 (by omega) (by omega), r9 165 13 (by omega) (by omega)]
          refine ⟨fun g' c w1 w2 => ?_, D2, fun c p w1 w2 => ?_, fun c p w1 w2 => ?_, D5⟩
          · have := c2.1 g' w1; have e : q = c := Option.some.inj w2; omega
          · have := c3 p w2; have e : q = c := Option.some.inj w1; omega
          · have := c2.2 p w2; have e : q = c := Option.some.inj w1; omega
        · obtain ⟨⟨y1, y2, y3⟩, ⟨y4, y5⟩, y6⟩ := hY
          subst hk
          refine ⟨⟨h29.1.trans (by show (((lwC σ).1 : Nat) : Int) + 1 = (((lwC σ).1 + 1 : Nat) : Int); omega), by rw [f9 _ _ (by omega) (by omega) (by omega) (by omega)]; exact z7.1.2.1, fun j w => by rw [f9 _ _ (by omega) (by omega) (by omega) (by omega)]; exact z7.1.2.2 j w⟩, fun w => absurd w (Nat.succ_ne_zero _), fun _ => ⟨q, ⟨hrr.1, hrr.2.1, hd15, hd14, hap.1.2.1⟩, ⟨y1, y2, y3⟩, ⟨y4, y5⟩, ?_, h29.2⟩⟩
          have e := cuX_e (F := I' (q + 14) 19) (hI.2.2 hb).1.1
          have e19 := zFY_n y2
          unfold lwE
          by_cases c : bOpn (lwBo σ).2.1 (bnn (lwBo σ).2.1) = 0 ∧ (cuAA (cuS (lwBo σ).2.1) (bnp (lwBo σ).2.1)).length = 0 ∧ cuSc (cuS (lwBo σ).2.1) (bnp (lwBo σ).2.1) = 0 ∧ I' (q + 14) 19 = 0
          · rw [if_pos]
            · rcases y6 with w | w
              · exact w.1
              · exact absurd (e.mpr c) w.2
            · refine ⟨if_pos c.1, ?_, ?_, e19.symm.trans c.2.2.2⟩
              · show ((cuAA (cuS (lwBo σ).2.1) (bnp (lwBo σ).2.1)).length : Int) = 0
                omega
              · show (cuSc (cuS (lwBo σ).2.1) (bnp (lwBo σ).2.1) : Int) = 0
                omega
          · rw [if_neg]
            · rcases y6 with w | w
              · exact absurd (e.mp w.2) c
              · exact w.1
            · rintro ⟨w1, w2, w3, w4⟩
              have w2' : ((cuAA (cuS (lwBo σ).2.1) (bnp (lwBo σ).2.1)).length : Int) = 0 := w2
              have w3' : (cuSc (cuS (lwBo σ).2.1) (bnp (lwBo σ).2.1) : Int) = 0 := w3
              refine c ⟨?_, by omega, by omega, e19.trans w4⟩
              have w1' : (if bOpn (lwBo σ).2.1 (bnn (lwBo σ).2.1) = 0 then (1 : Int) else 0) = 1 := w1
              by_cases o : bOpn (lwBo σ).2.1 (bnn (lwBo σ).2.1) = 0
              · exact o
              · rw [if_neg o] at w1'; exact absurd w1' (by decide))
