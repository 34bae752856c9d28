
/-! sheets -/
theorem ZSnd.alt6 {h c i : Nat} {T1 T2 T3 T4 T5 T6 T' : ZT} (h1 : ZSnd h c i T1) (h2 : ZSnd h c i T2) (h3 : ZSnd h c i T3) (h4 : ZSnd h c i T4) (h5 : ZSnd h c i T5) (h6 : ZSnd h c i T6) (hi : ∀ args I L R S Q, zok I L → T' args I L R S Q → T1 args I L R S Q ∨ T2 args I L R S Q ∨ T3 args I L R S Q ∨ T4 args I L R S Q ∨ T5 args I L R S Q ∨ T6 args I L R S Q) : ZSnd h c i T' := fun d hd args I L R S Q hz g => by
  rcases hi args I L R S Q hz g with q | q | q | q | q | q
  · exact h1 d hd args I L R S Q hz q
  · exact h2 d hd args I L R S Q hz q
  · exact h3 d hd args I L R S Q hz q
  · exact h4 d hd args I L R S Q hz q
  · exact h5 d hd args I L R S Q hz q
  · exact h6 d hd args I L R S Q hz q
abbrev lwTx (σ : LwS) : List Int := tTk σ.1.2 4000
abbrev lwRd (σ : LwS) : RdL := σ.2.1
def lwr (σ : LwS) (d : Int) (x : RdL) : LwS := ((d, []), x, σ.2.2)
noncomputable def lf2y (σ : LwS) (fm : Int) : LwS × Int := (lwr σ 0 ((lwRd σ).1 + 1, (lwRd σ).2.1 + 1, rdO (lwTx σ) (bF fm), fm, rdP (lwTx σ) (bF fm) fm), (ocn (rdO (lwTx σ) (bF fm)) : Int))
noncomputable def lf2n (σ : LwS) (fm : Int) : LwS × Int := (lwr σ 2 ((lwRd σ).1 + 1, (lwRd σ).2), -2 - rdF (lwTx σ) (bF fm))
noncomputable def lf2 : ZSpf := fun σ fm _ _ _ _ => if ¬ (0 ≤ fm ∧ fm ≤ 1) then (lwd σ 2, -1) else if (lwRd σ).1 = 24 ∨ (lwRd σ).2.1 = 4 then (lwd σ 1, -1) else if rdF (lwTx σ) (bF fm) = -1 then lf2y σ fm else lf2n σ fm
theorem lwTx_ok (σ : LwS) : tOk (tC (lwTx σ)) (lwTx σ).length := tC_ok (Nat.le_refl 4000)
theorem tGb_0 : tGb [] := ⟨Nat.zero_le _, fun i hi => absurd hi (Nat.not_lt_zero i)⟩
theorem iR_y {σ : LwS} {fm : Int} (h : iR (lwRd σ)) (hf : 0 ≤ fm ∧ fm ≤ 1) (hl : ¬ ((lwRd σ).1 = 24 ∨ (lwRd σ).2.1 = 4)) (hz : rdF (lwTx σ) (bF fm) = -1) (hx : ∃ t, tRe (tC (lwTx σ)) (lwTx σ).length (bF fm) t ∧ tyE (lwTx σ).length (bF fm) t) : iR ((lwRd σ).1 + 1, (lwRd σ).2.1 + 1, rdO (lwTx σ) (bF fm), fm, rdP (lwTx σ) (bF fm) fm) := by
  obtain ⟨⟨q1, q2, q3, q4⟩, ⟨p1, p2, p3, p4⟩, p5⟩ := rd_ok (lwTx_ok σ) hf hx hz
  have i1 := h.1
  refine ⟨⟨?_, ?_, hf.1, hf.2⟩, ⟨q1, q2, q3, (oDt_k q1 (Nat.le_refl _)).1, p5⟩, fun w => absurd w (Nat.succ_ne_zero _), fun _ => ⟨?_, tyDp (rdT (lwTx σ) (bF fm)), rfl, p1, p2, p3⟩⟩
  · show (lwRd σ).1 + 1 ≤ 24
    omega
  · show (lwRd σ).2.1 + 1 ≤ 4
    omega
  · show ocn (rdO (lwTx σ) (bF fm)) ≠ 0
    omega
theorem iR_n {σ : LwS} (h : iR (lwRd σ)) (hl : ¬ ((lwRd σ).1 = 24 ∨ (lwRd σ).2.1 = 4)) : iR ((lwRd σ).1 + 1, (lwRd σ).2) := ⟨⟨by have := h.1.1; show (lwRd σ).1 + 1 ≤ 24; omega, h.1.2⟩, h.2⟩
theorem rdF_r {w : List Int} {b : Nat} (hc : tOk (tC w) w.length) (hb : b ≤ 1) (hx : ∃ t, tRe (tC w) w.length b t ∧ tyE w.length b t) : -1 ≤ rdF w b ∧ rdF w b ≤ 9000 := by
  obtain ⟨t, t1, t2⟩ := hx
  unfold rdF
  rw [rdT_e t1 t2]
  exact tyZ_r hc hb t1
theorem lwI_r {σ : LwS} {d : Int} {x : RdL} (h : lwI σ) (hd : 0 ≤ d ∧ d ≤ 5) (hx : iR x) : lwI (lwr σ d x) := ⟨⟨hd, tGb_0⟩, hx, h.2.2⟩
set_option maxHeartbeats 2000000 in
theorem lwA2 : lwCA 2 lf2 := ZSnd.alt3 (sn_Z_shB.up (by decide)) (sn_Z_shF.up (by decide)) (sn_Z_sh.up (by decide)) (by
  rintro args I L R S Q hz ⟨σ, a1, a2, a3, a4, a5, he, hr, hS, hc, hP, hQ⟩
  have hR : iR (lwRd σ) := hP.1.2.1
  have hR1 := hR.1
  by_cases hf0 : 0 ≤ a1 ∧ a1 ≤ 1
  · obtain ⟨⟨h7, h15⟩, ⟨k, u, hk, ⟨r4, r5⟩, ho, hp⟩, ⟨ob, hda⟩, hcf, hcw⟩ := hP.2.2.2.1
    have t1 : 0 ≤ (((lwRd σ).1 : Nat) : Int) ∧ (((lwRd σ).1 : Nat) : Int) ≤ 24 ∧ 0 ≤ (((lwRd σ).2.1 : Nat) : Int) ∧ (((lwRd σ).2.1 : Nat) : Int) ≤ 4 := by omega
    by_cases hl : (lwRd σ).1 = 24 ∨ (lwRd σ).2.1 = 4
    · rw [show lf2 σ a1 a2 a3 a4 a5 = (lwd σ 1, -1) from (if_neg (fun w => w hf0)).trans (if_pos hl)] at hQ
      refine Or.inr (Or.inl ⟨a1, ((lwRd σ).1 : Int), ((lwRd σ).2.1 : Int), he, hS, hP.2.1.1, hf0, h7, h15, t1, by omega, ?_⟩)
      intro I' h3 hf
      exact hQ _ _ _ _ (lwA_d hP (by decide) h3 hf) (zfA_I (fun c j w => hf c j (by omega))) (zRb rfl)
    · have hdu : zDy zT2 zF2 u R S := by
        rcases hk with w | w
        · rw [w.2]; exact zDy_52 hP.2.1.1 hS
        · rw [w.2]; exact zDy_43 hP.2.1.1 hS
      refine Or.inr (Or.inr ⟨σ.1.2, k, u, a1, ((lwRd σ).1 : Int), ((lwRd σ).2.1 : Int), he, hS, hP.2.1.1, hP.2.1.2, hP.2.2.1.2, hP.1.1.2, h7, h15, t1, hf0, by omega, r4, r5, hdu, by omega, hda.1.1, ⟨hda.2.2.1.1, hda.2.2.2.1.1, hda.2.2.2.2.1.1, hda.2.2.2.2.2.1.1, hda.2.2.2.2.2.2.1⟩, ?_⟩)
      intro v I' L' R' hv hx hT h7' hRs hf hl' hrf
      have hf9 : ∀ c j : Nat, ¬ (c = 40 ∧ (j = 1 ∨ j = 3 ∨ j = 7)) → ¬ (c = 42) → ¬ (u ≤ c ∧ c ≤ u + 8) → ¬ (61 ≤ c ∧ c ≤ 81) → I' c j = I c j := fun c j w1 w2 w3 w4 => hf c j (by omega) (by omega) (by omega) (by omega) (by omega) (by omega) (by omega) (by omega) (by omega) (by omega) (by omega) (by omega) (by omega) (by omega)
      have hu : 43 ≤ u ∧ u ≤ 52 := by omega
      have hr9 : ∀ c j : Nat, ¬ (c = 40 ∧ (j = 4 ∨ j = 5)) → ¬ (61 ≤ c ∧ c ≤ 63) → R' c j = R c j := fun c j w1 w2 => hrf c j (by omega) (by omega) (by omega) (by omega) (by omega)
      obtain ⟨_, ⟨_, hst⟩, hTp, _, hB, hU, hC, hSc, hX, hE⟩ := id hP
      have fin : ∀ (d : Int) (x : RdL), 0 ≤ d ∧ d ≤ 5 → iR x → I' 40 3 = d → aR x I' L' R' → lwA (lwr σ d x) I' L' R' S := fun d x hd hx2 h3 ha => ⟨lwI_r hP.1 hd hx2, ⟨hRs, zStf hst (fun c j q1 q2 => ⟨hf9 c j (by omega) (by omega) (by omega) (by omega), hl' c j (by omega)⟩)⟩, ⟨h3, hT⟩, ha, aB_fr hB (fun c j w => hf9 c j (by omega) (by omega) (by omega) (by omega)) (fun c j w => hl' c j (by omega)), aU_fr hU (fun c j w => hf9 c j (by omega) (by omega) (by omega) (by omega)), aC_fr hC (fun c j w => hf9 c j (by omega) (by omega) (by omega) (by omega)) ⟨hr9 _ _ (by omega) (by omega), hr9 _ _ (by omega) (by omega)⟩, aS_fr hSc (fun c j w => hf9 c j (by unfold scK at w; omega) (by unfold scK at w; omega) (by unfold scK at w; omega) (by unfold scK at w; omega)) (fun c j w => hl' c j (by omega)) ⟨hr9 _ _ (by omega) (by omega), hr9 _ _ (by omega) (by omega), hr9 _ _ (by omega) (by omega)⟩, aX_fr hX (fun c j w => hf9 c j (by omega) (by omega) (by omega) (by omega)), aE_fr hE (fun c j w => hf9 c j (by omega) (by omega) (by omega) (by omega))⟩
      have zf : zfA I L R S I' L' R' S := zfA_ILR (fun c j w => hf9 c j (by omega) (by omega) (by omega) (by omega)) (fun c j w => hl' c j (by omega)) (fun c j w => hr9 c j (by omega) (by omega))
      have rr := rdF_r (lwTx_ok σ) bF_le hx
      have h7c : I' 40 7 = (((lwRd σ).1 + 1 : Nat) : Int) := by rw [h7']; omega
      rcases hv with ⟨v1, v2, v3, ⟨v4, v5, v6⟩, v7⟩ | ⟨v1, v2, v3, ⟨v4, v5, v6⟩, v7, v8, v9, v10, v11, v12⟩
      · rw [show lf2 σ a1 a2 a3 a4 a5 = lf2n σ a1 from (if_neg (fun w => w hf0)).trans ((if_neg hl).trans (if_neg v1))] at hQ
        subst v2
        exact hQ _ _ _ _ (fin 2 _ (by decide) (iR_n hR hl) v3 ⟨⟨h7c, (v7 63 15 (by omega)).trans h15⟩, ⟨k, u, hk, ⟨v4, v5⟩, zOB_fr ho (fun c j w => hf9 c j (by omega) (by omega) (by omega) (by omega)) (fun c j w => hl' c j (by omega)), zPG_fr hp (fun c j w => hf9 c j (by omega) (by omega) (by omega) (by omega))⟩, ⟨ob, zDA_fr hda (fun c j w => v7 c j (by omega))⟩, zCf_fr hcf (fun c j w => v7 c j (by omega)), zCw_fr hcw (fun c j w => v7 c j (by omega))⟩) zf (show r32 (-2 - rdF (lwTx σ) (bF a1)) from ⟨by omega, by omega⟩)
      · rw [show lf2 σ a1 a2 a3 a4 a5 = lf2y σ a1 from (if_neg (fun w => w hf0)).trans ((if_neg hl).trans (if_pos v1))] at hQ
        subst v2
        have iy := iR_y hR hf0 hl v1 hx
        have o200 : ocn (rdO (lwTx σ) (bF a1)) ≤ 200 := iy.2.1.1.1
        exact hQ _ _ _ _ (fin 0 _ (by decide) iy v3 ⟨⟨h7c, v7.trans (by show (((lwRd σ).2.1 : Nat) : Int) + 1 = (((lwRd σ).2.1 + 1 : Nat) : Int); omega)⟩, ⟨u, k, by omega, ⟨v4, v5⟩, v8, v9⟩, ⟨_, v10⟩, v11, v12⟩) zf (show r32 ((ocn (rdO (lwTx σ) (bF a1)) : Nat) : Int) from ⟨by omega, by omega⟩)
  · rw [show lf2 σ a1 a2 a3 a4 a5 = (lwd σ 2, -1) from if_pos hf0] at hQ
    refine Or.inl ⟨a1, he, hS, hP.2.1.1, hr.1, hf0, ?_⟩
    intro I' h3 hf
    exact hQ _ _ _ _ (lwA_d hP (by decide) h3 hf) (zfA_I (fun c j w => hf c j (by omega))) (zRb rfl))
