
theorem bB_fr {x : BoL} {I L I' L' : ZI} {R R' : ZR} {S S' : ZS} (h : bB x I L R S) (hS : zSg S S') (hf : ∀ c j : Nat, (c = 165 ∧ (j = 14 ∨ j = 15 ∨ j = 22)) ∨ (197 ≤ c ∧ c ≤ 203) → I' c j = I c j) (hr : R' 165 12 = R 165 12 ∧ R' 165 13 = R 165 13) (hd : ∀ g q : Nat, R 165 12 = some g → R 165 13 = some q → 302 ≤ q → q + 23 ≤ g → g + 19 ≤ S.2.1 → (∀ c j : Nat, (g ≤ c ∧ c ≤ g + 18 ∧ ¬ (c = g ∧ (j = 0 ∨ j = 21))) ∨ (q ≤ c ∧ c ≤ q + 22 ∧ ¬ (c = q ∧ j = 0)) → I' c j = I c j) ∧ ∀ c j : Nat, (g ≤ c ∧ c ≤ g + 18) ∨ (q ≤ c ∧ c ≤ q + 22) → L' c j = L c j ∧ R' c j = R c j) : bB x I' L' R' S' := by
  obtain ⟨h1, h2, h3⟩ := h
  refine ⟨(hf _ _ (by omega)).trans h1, fun y => ⟨hr.1.trans (h2 y).1, hr.2.trans (h2 y).2⟩, fun y => ?_⟩
  obtain ⟨g, q, ⟨g1, g2, g3⟩, ⟨g4, g5, g6, g7⟩, ⟨g8, g9⟩, g10, g11⟩ := h3 y
  have hg : g + 19 ≤ S.2.1 := g2.2.1
  obtain ⟨d1, d2⟩ := hd g q g1 g4 g6 g7 hg
  exact ⟨g, q, ⟨hr.1.trans g1, zDy_g2 g2 hS (by decide) (fun c f w1 w2 => (d2 c f (Or.inl ⟨w1, by have : c < g + 19 := w2; omega⟩)).2), g3⟩, ⟨hr.2.trans g4, zDy_g2 g5 hS (by decide) (fun c f w1 w2 => (d2 c f (Or.inr ⟨w1, by have : c < q + 23 := w2; omega⟩)).2), g6, g7⟩, ⟨zBB_fr g8 (fun c j w => d1 c j (by omega)) (fun c j w => (d2 c j (by omega)).1), zPB_fr g9 (fun c j w => hf c j (by omega))⟩, zNJ_fr g10 (fun c j w => d1 c j (by omega)) (fun c j w => (d2 c j (by omega)).1), zJO_fr g11 (fun c j w => d1 c j (by omega))⟩
theorem bC_fr {x : CuL} {I L I' L' : ZI} {R R' : ZR} {S S' : ZS} (h : bC x I L R S) (hS : zSg S S') (h44 : 0 ≤ I' 165 44) (h215 : ∀ j : Nat, j < 20 → I' 215 j = 0 ∨ I' 215 j = 1) (hf : ∀ c j : Nat, (c = 165 ∧ (j = 29 ∨ j = 30 ∨ (33 ≤ j ∧ j ≤ 35))) ∨ (208 ≤ c ∧ c ≤ 211) → I' c j = I c j) (hr : R' 165 31 = R 165 31 ∧ R' 165 32 = R 165 32) (hd : ∀ q : Nat, R 165 31 = some q → 302 ≤ q → q + 32 ≤ S.2.1 → (∀ c j : Nat, (c = q ∧ j = 2) ∨ (q + 1 ≤ c ∧ c ≤ q + 3) ∨ c = q + 9 ∨ c = q + 10 ∨ (c = q + 14 ∧ j = 19) ∨ c = q + 28 → I' c j = I c j) ∧ (∀ c j : Nat, q + 4 ≤ c ∧ c ≤ q + 8 → L' c j = L c j) ∧ ∀ c j : Nat, q ≤ c ∧ c ≤ q + 31 → R' c j = R c j) : bC x I' L' R' S' := by
  obtain ⟨⟨h1, h2, h3⟩, h4, h5⟩ := h
  refine ⟨⟨(hf _ _ (by omega)).trans h1, h44, h215⟩, fun y => hr.1.trans (h4 y), fun y => ?_⟩
  obtain ⟨q, ⟨g1, g2, g3, g4, g5⟩, ⟨g6, g7, g8⟩, ⟨g9, g10⟩, g11, g12⟩ := h5 y
  have hq : q + 14 + 18 ≤ S.2.1 := g4.2.1
  obtain ⟨d1, d2, d3⟩ := hd q g1 g5 (by omega)
  exact ⟨q, ⟨hr.1.trans g1, hr.2.trans g2, zDy_g2 g3 hS (by decide) (fun c f w1 w2 => d3 c f ⟨w1, by have : c < q + 14 := w2; omega⟩), zDy_g2 g4 hS (by decide) (fun c f w1 w2 => d3 c f ⟨by omega, by have : c < q + 14 + 18 := w2; omega⟩), g5⟩, ⟨zPc_fr g6 (fun c j w => d1 c j (by omega)) d2, zFY_fr g7 (fun c j w => d1 c j (by omega)), (hf _ _ (by omega)).trans (g8.trans (d1 _ _ (by omega)).symm)⟩, ⟨zMh_fr g9 (fun c j w => hf c j (by omega)), fun p hp => (hf _ _ (by omega)).trans (g10 p hp)⟩, (hf _ _ (by omega)).trans g11, (hf _ _ (by omega)).trans g12⟩
theorem lwD_fr {R R' : ZR} (h : lwD R) (hr : R' 165 12 = R 165 12 ∧ R' 165 31 = R 165 31 ∧ R' 165 7 = R 165 7 ∧ R' 165 13 = R 165 13) : lwD R' := by
  unfold lwD at h ⊢
  rw [hr.1, hr.2.1, hr.2.2.1, hr.2.2.2]
  exact h
theorem lw_kB (σ σ2 : LwS) (I L : ZI) (R : ZR) (S : ZS) (I' L' : ZI) (R' : ZR) (S' : ZS) (h : lwB σ I L R S) (g : lwA σ2 I' L' R' S') (f : zfA I L R S I' L' R' S') : lwB σ I' L' R' S' := by
  obtain ⟨h0, ⟨h1, h2, hD⟩, h3, h4, h5, h6, h7, h8, h9, h10⟩ := h
  obtain ⟨rfl, f⟩ := f
  have fI : ∀ c j : Nat, 165 ≤ c → I' c j = I c j := fun c j q => (f c j (by omega)).1
  have fL : ∀ c j : Nat, 165 ≤ c → L' c j = L c j := fun c j q => (f c j (by omega)).2.1
  have fR : ∀ c j : Nat, 165 ≤ c → R' c j = R c j := fun c j q => (f c j (by omega)).2.2
  refine ⟨h0, ⟨g.2.1.1, h2, lwD_fr hD ⟨fR _ _ (by omega), fR _ _ (by omega), fR _ _ (by omega), fR _ _ (by omega)⟩⟩, bT_fr h3 (fun c j q => fI c j (by omega)), bR_fr h4 (zSg_r _) (fun c j q => fI c j (by omega)) (fun c j q => fL c j (by omega)) (fR _ _ (by omega)) (fun q _ w1 w2 => ⟨fun c j w => fI c j (by omega), fun c j w => ⟨fL c j (by omega), fR c j (by omega)⟩⟩), bB_fr h5 (zSg_r _) (fun c j q => fI c j (by omega)) ⟨fR _ _ (by omega), fR _ _ (by omega)⟩ (fun g q _ _ w1 w2 w3 => ⟨fun c j w => fI c j (by omega), fun c j w => ⟨fL c j (by omega), fR c j (by omega)⟩⟩), bU_fr h6 (fun c j q => fI c j (by omega)), bC_fr h7 (zSg_r _) (by rw [fI _ _ (by omega)]; exact h7.1.2.1) (fun j q => by rw [fI _ _ (by omega)]; exact h7.1.2.2 j q) (fun c j q => fI c j (by omega)) ⟨fR _ _ (by omega), fR _ _ (by omega)⟩ (fun q _ w1 w2 => ⟨fun c j w => fI c j (by omega), fun c j w => fL c j (by omega), fun c j w => fR c j (by omega)⟩), bS_fr h8 (fun c j q => fI c j (by omega)) (fun c j q => fL c j (by omega)), bX_fr h9 (fun c j q => fI c j (by omega)), bE_fr h10 (fun c j q => fI c j (by omega))⟩
