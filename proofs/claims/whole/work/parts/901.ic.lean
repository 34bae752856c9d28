
/-! the reference's board changed -/
theorem bPutV_1 {b : Nat} (h : b ≠ 0) {s : BdS} {t o l i j : Int} : bPutV b s t o l i j = bPutV 1 s t o l i j := by
  unfold bPutV
  rw [if_neg h, if_neg (show ¬ 1 = 0 by decide)]
theorem bPutS_1 {b : Nat} (h : b ≠ 0) {s : BdS} {t o l i j : Int} : bPutS b s t o l i j = bPutS 1 s t o l i j := by
  unfold bPutS
  rw [if_neg h, if_neg (show ¬ 1 = 0 by decide)]
theorem bBarV_1 {b : Nat} (h : b ≠ 0) {s : BdS} {l i j : Int} : bBarV b s l i j = bBarV 1 s l i j := by
  unfold bBarV
  rw [if_neg h, if_neg (show ¬ 1 = 0 by decide)]
theorem lwB_bb {σ : LwS} {I L I' L' : ZI} {R : ZR} {S : ZS} {d : Int} {y : BoL} {g q : Nat} (h : lwB σ I L R S) (hd : 0 ≤ d ∧ d ≤ 5) (hy : iB y) (hy1 : y.1 = (lwBo σ).1) (hy2 : y.2.2.1 = (lwBo σ).2.2.1) (hb : (lwBo σ).1 ≠ 0) (G : R 165 12 = some g ∧ zDy zT17 zF17 g R S ∧ 302 ≤ g) (K : R 165 13 = some q ∧ zDy zT18 zF18 q R S ∧ 302 ≤ q ∧ q + 23 ≤ g) (g10 : zNJ q (lwBo σ).2.2.1 I L) (g11 : zJO q (lwBo σ).2.2.1 I) (g8 : zBB g (-1) y.2.1 I' L') (g9 : zPB y.2.1 I') (h3 : I' 165 0 = d) (hf : ∀ c j : Nat, ¬ (c = 165 ∧ (j = 0 ∨ j = 15 ∨ j = 22)) → ¬ (197 ≤ c ∧ c ≤ 203) → ¬ (g ≤ c ∧ c ≤ g + 18) → ¬ (c = q ∧ j = 0) → ¬ (268 ≤ c ∧ c ≤ 279 ∧ c ≠ 270 ∧ ¬ (c = 268 ∧ (j = 2 ∨ j = 5))) → I' c j = I c j) (hl : ∀ c j : Nat, ¬ (g ≤ c ∧ c ≤ g + 18) → L' c j = L c j) : lwB (lwb σ d y) I' L' R S := by
  have hB : bB (lwBo σ) I L R S := h.2.2.2.2.1
  refine lwB_b (g := g) (q := q) h hd hy hy1 G.1 K.1 ⟨K.2.2.1, K.2.2.2⟩ h3 ⟨(hf _ _ (by omega) (by omega) (by omega) (by omega) (by omega)).trans (hB.1.trans (congrArg Nat.cast hy1.symm)), fun w => absurd (hy1.symm.trans w) hb, fun _ => ⟨g, q, G, K, ⟨g8, g9⟩, ?_, ?_⟩⟩ hf hl
  · rw [hy2]
    exact zNJ_fr g10 (fun c j w => hf c j (by omega) (by omega) (by omega) (by omega) (by omega)) (fun c j w => hl c j (by omega))
  · rw [hy2]
    exact zJO_fr g11 (fun c j w => hf c j (by omega) (by omega) (by omega) (by omega) (by omega))
/-- put -/
noncomputable def lf11y (σ : LwS) (t o l i j : Int) : LwS × Int := (lwb σ (if 0 ≤ bPutV 1 (lwBo σ).2.1 t o l i j then 0 else -(bPutV 1 (lwBo σ).2.1 t o l i j)) ((lwBo σ).1, bPutS 1 (lwBo σ).2.1 t o l i j, (lwBo σ).2.2), if 0 ≤ bPutV 1 (lwBo σ).2.1 t o l i j then bPutV 1 (lwBo σ).2.1 t o l i j else -1)
noncomputable def lf11 : ZSpf := fun σ t o l i j => if (lwBo σ).1 = 0 then (lwd σ 3, -1) else lf11y σ t o l i j
theorem bPutV_d {s : BdS} {t o l i j : Int} : 0 ≤ (if 0 ≤ bPutV 1 s t o l i j then (0 : Int) else -(bPutV 1 s t o l i j)) ∧ (if 0 ≤ bPutV 1 s t o l i j then (0 : Int) else -(bPutV 1 s t o l i j)) ≤ 5 := by
  have w := bPutV_lo 1 s t o l i j
  split <;> omega
theorem lwB11 : lwCB 11 lf11 := ZSnd.alt (sn_M_put0.up (by decide)) (sn_M_put.up (by decide)) (by
  rintro args I L R S Q hz ⟨σ, a1, a2, a3, a4, a5, he, hr, hS, hc, hP, hQ⟩
  have hB : bB (lwBo σ) I L R S := hP.2.2.2.2.1
  have hI : iB (lwBo σ) := hP.1.2.2.1
  by_cases hb : (lwBo σ).1 = 0
  · rw [show lf11 σ a1 a2 a3 a4 a5 = (lwd σ 3, -1) from if_pos hb] at hQ
    refine Or.inl ⟨a1, a2, a3, a4, a5, he, hS, hP.2.1.1, (hB.2.1 hb).1, ?_⟩
    intro I' h3 hf
    exact hQ _ _ _ _ (lwB_d hP (by decide) h3 hf) (zfB_I (fun c j w => hf c j (by omega)))
  · rw [show lf11 σ a1 a2 a3 a4 a5 = lf11y σ a1 a2 a3 a4 a5 from if_neg hb] at hQ
    obtain ⟨g, q, G, K, ⟨g8, g9⟩, g10, g11⟩ := hB.2.2 hb
    refine Or.inr ⟨g, q, (lwBo σ).2.1, (lwBo σ).2.2.1, a1, a2, a3, a4, a5, he, hS, hP.2.1.1, G.1, G.2.1, G.2.2, K.1, K.2.1, ⟨K.2.2.1, K.2.2.2⟩, g8, (hI.2.2 hb).1.1, g10, (hI.2.2 hb).2.1.1, g11, g9, (hI.2.2 hb).2.1.2, ⟨⟨hr.1, hr.2.1⟩, hr.2.2.1, hr.2.2.2.1, hr.2.2.2.2⟩, ?_⟩
    rintro v I' rfl h3 hB2 hPB hf
    have f9 : ∀ c j : Nat, ¬ (c = 165 ∧ (j = 0 ∨ j = 15 ∨ j = 22)) → ¬ (197 ≤ c ∧ c ≤ 203) → ¬ (g ≤ c ∧ c ≤ g + 18) → ¬ (c = q ∧ j = 0) → I' c j = I c j := fun c j w1 w2 w3 w4 => hf c j (by omega) (by omega) (by omega) (by omega) (by omega) (by omega) (by omega) (by omega) (by omega) (by omega) (by omega) (by omega) (by omega) (by omega) (by omega) (by omega) (by omega) (by omega) (by omega)
    have k1 := K.2.2.1
    have k2 := G.2.2
    exact hQ _ _ _ _ (lwB_bb (y := ((lwBo σ).1, bPutS 1 (lwBo σ).2.1 a1 a2 a3 a4 a5, (lwBo σ).2.2)) hP bPutV_d (iB_put hI hb) rfl rfl hb G K g10 g11 hB2 hPB h3 (fun c j w1 w2 w3 w4 _ => f9 c j w1 w2 w3 w4) (fun _ _ _ => rfl)) (zfB_I (fun c j w => f9 c j (by omega) (by omega) (by omega) (by omega))))
theorem lwA11 : lwCA 11 lf11 := ZSnd.alt (sn_A_mput0.up (by decide)) (sn_A_mput.up (by decide)) (by
  rintro args I L R S Q hz ⟨σ, a1, a2, a3, a4, a5, he, hr, hS, hc, hP, hQ⟩
  have hB0 : aB (lwBo σ) I L := hP.2.2.2.2.1
  have hI : iB (lwBo σ) := hP.1.2.2.1
  by_cases hb : (lwBo σ).1 = 0
  · rw [show lf11 σ a1 a2 a3 a4 a5 = (lwd σ 3, -1) from if_pos hb] at hQ
    refine Or.inl ⟨a1, a2, a3, a4, a5, he, hS, hP.2.1.1, by rw [hB0.2.1, hb]; rfl, ?_⟩
    intro I' h3 hf
    exact hQ _ _ _ _ (lwA_d hP (by decide) h3 hf) (zfA_I (fun c j w => hf c j (by omega))) (zRb rfl)
  · have hB := hB0.1 hb
    rw [show lf11 σ a1 a2 a3 a4 a5 = lf11y σ a1 a2 a3 a4 a5 from if_neg hb] at hQ
    refine Or.inr ⟨(lwBo σ).1, (lwBo σ).2.1, a1, a2, a3, a4, a5, he, hS, hP.2.1.1, hB, (hI.2.2 hb).1.1, ⟨by omega, hI.1⟩, hr, ?_⟩
    intro v I' hv h3 hB2 hf
    rw [bPutV_1 hb] at hv h3
    rw [bPutS_1 hb] at hB2
    subst hv
    refine hQ _ _ _ _ (lwA_b (y := ((lwBo σ).1, bPutS 1 (lwBo σ).2.1 a1 a2 a3 a4 a5, (lwBo σ).2.2)) hP bPutV_d (iB_put hI hb) h3 (aB_y hb hB2) (fun c j w1 w2 => hf c j (by omega) (by omega) (by omega) (by omega) (by omega) (by omega) (by omega) (by omega)) (fun _ _ _ => rfl)) (zfA_I (fun c j w => hf c j (by omega) (by omega) (by omega) (by omega) (by omega) (by omega) (by omega) (by omega))) (show r32 (if 0 ≤ bPutV 1 (lwBo σ).2.1 a1 a2 a3 a4 a5 then bPutV 1 (lwBo σ).2.1 a1 a2 a3 a4 a5 else -1) from ?_)
    have w := bPutV_hi 1 (lwBo σ).2.1 a1 a2 a3 a4 a5 (hI.2.2 hb).1.1
    split
    · exact ⟨by omega, by omega⟩
    · exact zRb rfl)
/-- bar -/
noncomputable def lwBar (s : BdS) (l i j : Int) : BdS := if bBarV 1 s l i j = 0 then bBar s (cxI (bW s) (bH s) (bD s) l i j).toNat else s
noncomputable def lf12y (σ : LwS) (l i j : Int) : LwS × Int := (lwb σ (if 0 ≤ bBarV 1 (lwBo σ).2.1 l i j then 0 else -(bBarV 1 (lwBo σ).2.1 l i j)) ((lwBo σ).1, lwBar (lwBo σ).2.1 l i j, (lwBo σ).2.2), if 0 ≤ bBarV 1 (lwBo σ).2.1 l i j then 1 else 0)
noncomputable def lf12 : ZSpf := fun σ l i j _ _ => if (lwBo σ).1 = 0 then (lwd σ 3, 0) else lf12y σ l i j
theorem bBarV_o {s : BdS} {l i j : Int} : bBarV 1 s l i j = -2 ∨ bBarV 1 s l i j = -4 ∨ bBarV 1 s l i j = 0 := by
  unfold bBarV
  rw [if_neg (show ¬ 1 = 0 by decide)]
  split
  · exact Or.inl rfl
  · split
    · exact Or.inr (Or.inl rfl)
    · exact Or.inr (Or.inr rfl)
theorem bBarV_d {s : BdS} {l i j : Int} : 0 ≤ (if 0 ≤ bBarV 1 s l i j then (0 : Int) else -(bBarV 1 s l i j)) ∧ (if 0 ≤ bBarV 1 s l i j then (0 : Int) else -(bBarV 1 s l i j)) ≤ 5 := by
  have w := bBarV_o (s := s) (l := l) (i := i) (j := j)
  split <;> omega
theorem iB_bar2 {x : BoL} {l i j : Int} (h : iB x) (hb : x.1 ≠ 0) : iB (x.1, lwBar x.2.1 l i j, x.2.2) := by
  unfold lwBar
  split
  · rename_i w
    refine iB_bar h hb ?_
    unfold bBarV at w
    rw [if_neg (show ¬ 1 = 0 by decide)] at w
    split at w
    · exact absurd w (by decide)
    · split at w
      · exact absurd w (by decide)
      · rename_i q
        exact Classical.byContradiction (fun k => q (Or.inr k))
  · exact h
theorem lwB12 : lwCB 12 lf12 := ZSnd.alt (sn_M_bar0.up (by decide)) (sn_M_bar.up (by decide)) (by
  rintro args I L R S Q hz ⟨σ, a1, a2, a3, a4, a5, he, hr, hS, hc, hP, hQ⟩
  have hB : bB (lwBo σ) I L R S := hP.2.2.2.2.1
  have hI : iB (lwBo σ) := hP.1.2.2.1
  by_cases hb : (lwBo σ).1 = 0
  · rw [show lf12 σ a1 a2 a3 a4 a5 = (lwd σ 3, 0) from if_pos hb] at hQ
    refine Or.inl ⟨a1, a2, a3, he, hS, hP.2.1.1, (hB.2.1 hb).1, ?_⟩
    intro I' h3 hf
    exact hQ _ _ _ _ (lwB_d hP (by decide) h3 hf) (zfB_I (fun c j w => hf c j (by omega)))
  · rw [show lf12 σ a1 a2 a3 a4 a5 = lf12y σ a1 a2 a3 from if_neg hb] at hQ
    obtain ⟨g, q, G, K, ⟨g8, g9⟩, g10, g11⟩ := hB.2.2 hb
    refine Or.inr ⟨g, (lwBo σ).2.1, a1, a2, a3, he, hS, hP.2.1.1, G.1, G.2.1, G.2.2, g8, (hI.2.2 hb).1.1, ⟨hr.1, hr.2.1, hr.2.2.1⟩, ?_⟩
    rintro v I' rfl h3 hB2 hf
    have f9 : ∀ c j : Nat, ¬ (c = 165 ∧ j = 0) → ¬ (g ≤ c ∧ c ≤ g + 18) → I' c j = I c j := fun c j w1 w3 => hf c j (by omega) (by omega) (by omega)
    have k1 := K.2.2.1
    have k2 := G.2.2
    have p9 : zPB (lwBo σ).2.1 I' := zPB_fr g9 (fun c j w => f9 c j (by omega) (by omega))
    refine hQ _ _ _ _ (lwB_bb (y := ((lwBo σ).1, lwBar (lwBo σ).2.1 a1 a2 a3, (lwBo σ).2.2)) hP bBarV_d (iB_bar2 hI hb) rfl rfl hb G K g10 g11 hB2 ?_ h3 (fun c j w1 w2 w3 w4 _ => f9 c j (by omega) w3) (fun _ _ _ => rfl)) (zfB_I (fun c j w => f9 c j (by omega) (by omega)))
    show zPB (lwBar (lwBo σ).2.1 a1 a2 a3) I'
    unfold lwBar
    split
    · exact p9
    · exact p9)
theorem lwA12 : lwCA 12 lf12 := (sn_A_mbas.up (by decide)).imp (by
  rintro args I L R S Q hz ⟨σ, a1, a2, a3, a4, a5, he, hr, hS, hc, hP, hQ⟩
  have hB0 : aB (lwBo σ) I L := hP.2.2.2.2.1
  have hI : iB (lwBo σ) := hP.1.2.2.1
  refine ⟨(lwBo σ).1, (lwBo σ).2.1, a1, a2, a3, he, hS, hP.2.1.1, hB0.2.1, fun w => ⟨hB0.1 w, (hI.2.2 w).1.1⟩, ⟨hr.1, hr.2.1, hr.2.2.1⟩, hI.1, ?_⟩
  intro v I' hv h3 h4 h5 hf
  by_cases hb : (lwBo σ).1 = 0
  · rw [show lf12 σ a1 a2 a3 a4 a5 = (lwd σ 3, 0) from if_pos hb] at hQ
    have e : bBarV (lwBo σ).1 (lwBo σ).2.1 a1 a2 a3 = -3 := if_pos hb
    rw [e] at hv h3 h5
    subst hv
    exact hQ _ _ _ _ (lwA_d hP (by decide) h3 (h5 (by decide))) (zfA_I (fun c j w => hf c j (by omega) (by omega))) (zRb rfl)
  · rw [show lf12 σ a1 a2 a3 a4 a5 = lf12y σ a1 a2 a3 from if_neg hb] at hQ
    rw [bBarV_1 hb] at hv h3 h4 h5
    subst hv
    refine hQ _ _ _ _ (lwA_b (y := ((lwBo σ).1, lwBar (lwBo σ).2.1 a1 a2 a3, (lwBo σ).2.2)) hP bBarV_d (iB_bar2 hI hb) h3 (aB_y hb ?_) (fun c j w1 w2 => hf c j (by omega) (by omega)) (fun _ _ _ => rfl)) (zfA_I (fun c j w => hf c j (by omega) (by omega))) (show r32 (if 0 ≤ bBarV 1 (lwBo σ).2.1 a1 a2 a3 then (1 : Int) else 0) from ?_)
    · show zBA (lwBo σ).1 (lwBar (lwBo σ).2.1 a1 a2 a3) I' L
      unfold lwBar
      split
      · rename_i w; exact h4 hb w
      · rename_i w; exact zBA_fr (hB0.1 hb) (fun c j y => h5 w c j (by omega)) (fun _ _ _ => rfl)
    · split <;> exact zRb rfl)
