
/-! program -/
theorem zRs_pr {R R' : ZR} (h : zRs R) (hf : ∀ c j : Nat, ¬ (c = 40 ∧ j = 15) → ¬ (c = 40 ∧ j = 16) → ¬ (c = 138 ∧ j = 0) → R' c j = R c j) : zRs R' := fun e he => by
  have z := List.all_eq_true.mp (show (xfR.all fun e => !(Nat.beq e.1 40 && (Nat.beq e.2.1 15 || Nat.beq e.2.1 16)) && !(Nat.beq e.1 138 && Nat.beq e.2.1 0)) = true by decide +kernel) e he
  refine (hf e.1 e.2.1 (fun q => ?_) (fun q => ?_) (fun q => ?_)).trans (h e he)
  · rw [q.1, q.2] at z; exact absurd z (by decide)
  · rw [q.1, q.2] at z; exact absurd z (by decide)
  · rw [q.1, q.2] at z; exact absurd z (by decide)
abbrev lwTp (σ : LwS) : List Int := tTk σ.1.2 400
def lwp (σ : LwS) (d : Int) (y : ScL) : LwS := ((d, []), σ.2.1, σ.2.2.1, σ.2.2.2.1, σ.2.2.2.2.1, y, σ.2.2.2.2.2.2)
theorem lwI_p {σ : LwS} {d : Int} {y : ScL} (h : lwI σ) (hd : 0 ≤ d ∧ d ≤ 5) (hy : iS y) : lwI (lwp σ d y) := ⟨⟨hd, tGb_0⟩, h.2.1, h.2.2.1, h.2.2.2.1, h.2.2.2.2.1, hy, h.2.2.2.2.2.2⟩
theorem lwA_p {σ : LwS} {I L I' : ZI} {R R' : ZR} {S : ZS} {d : Int} {y : ScL} (h : lwA σ I L R S) (hd : 0 ≤ d ∧ d ≤ 5) (hy : iS y) (hRs : zRs R') (h3 : I' 40 3 = d) (hT : zTA [] I') (hX : aS y I' L R') (hf : ∀ c j : Nat, ¬ (c = 40 ∧ (j = 1 ∨ j = 3)) → ¬ c = 42 → ¬ (128 ≤ c ∧ c ≤ 144) → I' c j = I c j) (hr : ∀ c j : Nat, ¬ (c = 40 ∧ (j = 15 ∨ j = 16)) → ¬ (c = 138) → R' c j = R c j) : lwA (lwp σ d y) I' L R' S := by
  obtain ⟨h0, ⟨h1, h2⟩, h3', h4, h5, h6, h7, h8, h9, h10⟩ := h
  exact ⟨lwI_p h0 hd hy, ⟨hRs, zStf h2 (fun c j q1 q2 => ⟨hf c j (by omega) (by omega) (by omega), rfl⟩)⟩, ⟨h3, hT⟩, aR_fr h4 (fun c j q => hf c j (by omega) (by omega) (by omega)) (fun _ _ _ => rfl) ⟨hr _ _ (by omega) (by omega), hr _ _ (by omega) (by omega)⟩, aB_fr h5 (fun c j q => hf c j (by omega) (by omega) (by omega)) (fun _ _ _ => rfl), aU_fr h6 (fun c j q => hf c j (by omega) (by omega) (by omega)), aC_fr h7 (fun c j q => hf c j (by omega) (by omega) (by omega)) ⟨hr _ _ (by omega) (by omega), hr _ _ (by omega) (by omega)⟩, hX, aX_fr h9 (fun c j q => hf c j (by omega) (by omega) (by omega)), aE_fr h10 (fun c j q => hf c j (by omega) (by omega) (by omega))⟩
theorem lwB_p {σ : LwS} {I L I' L' : ZI} {R : ZR} {S : ZS} {d : Int} {y : ScL} (h : lwB σ I L R S) (hI : lwI (lwp σ d y)) (h3 : I' 165 0 = d) (hT : zTB [] I') (hX : bS y I' L') (hf : ∀ c j : Nat, ¬ (c = 165 ∧ (j = 0 ∨ j = 2)) → ¬ (234 ≤ c ∧ c ≤ 267) → I' c j = I c j) (hl : ∀ c j : Nat, ¬ (234 ≤ c ∧ c ≤ 267) → L' c j = L c j) : lwB (lwp σ d y) I' L' R S := by
  obtain ⟨h0, h1, h3', h4, h5, h6, h7, h8, h9, h10⟩ := h
  exact ⟨hI, h1, ⟨h3, hT⟩, bR_fr h4 (zSg_r _) (fun c j q => hf c j (by omega) (by omega)) (fun c j w => hl c j (by omega)) rfl (fun q _ w1 w2 => ⟨fun c j w => hf c j (by omega) (by omega), fun c j w => ⟨hl c j (by omega), rfl⟩⟩), bB_fr h5 (zSg_r _) (fun c j q => hf c j (by omega) (by omega)) ⟨rfl, rfl⟩ (fun g q _ _ w1 w2 w3 => ⟨fun c j w => hf c j (by omega) (by omega), fun c j w => ⟨hl c j (by omega), rfl⟩⟩), bU_fr h6 (fun c j q => hf c j (by omega) (by omega)), bC_fr h7 (zSg_r _) (by rw [hf _ _ (by omega) (by omega)]; exact h7.1.2.1) (fun j q => by rw [hf _ _ (by omega) (by omega)]; exact h7.1.2.2 j q) (fun c j q => hf c j (by omega) (by omega)) ⟨rfl, rfl⟩ (fun q _ w1 w2 => ⟨fun c j w => hf c j (by omega) (by omega), fun c j w => hl c j (by omega), fun c j w => rfl⟩), hX, bX_fr h9 (fun c j q => hf c j (by omega) (by omega)), bE_fr h10 (fun c j q => hf c j (by omega) (by omega))⟩
def lwSn (σ : LwS) : ScL := (lwTp σ, ((fun _ => 0, (lwSc σ).2.1.1.2), (0, fun _ => 0), (0, fun _ => 0)), (0, -1, 0))
noncomputable def lf28y (σ : LwS) : LwS × Int := (lwp σ 0 (lwSn σ), ((scX (lwTp σ)).2.2.2.2.1 : Int))
noncomputable def lf28n (σ : LwS) : LwS × Int := (lwp σ 2 (lwSc σ), -2 - ((scX (lwTp σ)).2.1 : Int))
noncomputable def lf28 : ZSpf := fun σ _ _ _ _ _ => if (scX (lwTp σ)).1 = 1 then lf28y σ else lf28n σ
theorem scV_new {tp : List Int} (h : (scX (tTk tp 400)).1 = 1) : scV (tTk tp 400) := by
  obtain ⟨x1, x2, x3⟩ := scX_ok (w := tTk tp 400) sc_ok.1 sc_ok.2
  exact ⟨sc_ok, x1, x2, x3, h⟩
theorem lwSn_i {σ : LwS} (h : (scX (lwTp σ)).1 = 1) : iS (lwSn σ) := ⟨scV_new h, fun j hj => absurd hj (Nat.not_lt_zero j)⟩
theorem lwA28 : lwCA 28 lf28 := (sn_Z_pro.up (by decide)).imp (by
  rintro args I L R S Q hz ⟨σ, a1, a2, a3, a4, a5, he, hr, hS, hcc, hP, hQ⟩
  have hs : iS (lwSc σ) := hP.1.2.2.2.2.2.1
  have hsc : scA (lwSc σ).1 (lwSc σ).2.1 (lwSc σ).2.2 I L R := hP.2.2.2.2.2.2.2.1
  obtain ⟨k, k2, hkk, ⟨r1, r2, r3⟩, het, cl, fn, vv, G, hcl, hok, hvv, hzr⟩ := hsc
  have hd2 : zDy zT8 zF8 k2 R S := by
    rcases hkk with w | w
    · rw [w.2]; exact zDy_134 hP.2.1.1 hS
    · rw [w.2]; exact zDy_130 hP.2.1.1 hS
  obtain ⟨x1, x2, x3⟩ := scX_ok (w := lwTp σ) sc_ok.1 sc_ok.2
  have hrd := sc_rd (N := (lwTp σ).length) (c := tC (lwTp σ)) sc_ok.1 sc_ok.2 (fun q => I (k2 + 2) q) x1 x2 x3
  have hl4 : (lwTp σ).length ≤ 400 := (sc_ok (tp := σ.1.2)).1.1
  refine ⟨σ.1.2, k, k2, he, hS, hP.2.1.1, hP.2.2.1.2, hP.1.1.2, hd2, by omega, by omega, r1, r2, ?_⟩
  intro v I' R' hv hT hf hrf
  have f9 : ∀ c j : Nat, ¬ (c = 40 ∧ (j = 1 ∨ j = 3)) → ¬ c = 42 → ¬ (k2 ≤ c ∧ c ≤ k2 + 3) → ¬ (c = 138 ∧ (j = 8 ∨ j = 10 ∨ (13 ≤ j ∧ j ≤ 15))) → I' c j = I c j := fun c j w1 w2 w3 w4 => hf c j (by omega) (by omega) (by omega) (by omega) (by omega) (by omega) (by omega) (by omega) (by omega) (by omega) (by omega) (by omega) (by omega) (by omega) (by omega)
  have hRs : zRs R' := zRs_pr hP.2.1.1 hrf
  have zf : zfA I L R S I' L R' S := zfA_ILR (fun c j w => f9 c j (by omega) (by omega) (by omega) (by omega)) (fun _ _ _ => rfl) (fun c j w => hrf c j (by omega) (by omega) (by omega))
  have fin : ∀ (d : Int) (y : ScL), 0 ≤ d ∧ d ≤ 5 → iS y → I' 40 3 = d → aS y I' L R' → lwA (lwp σ d y) I' L R' S := fun d y hd hy h3 hX => lwA_p hP hd hy hRs h3 hT hX (fun c j w1 w2 w3 => f9 c j w1 w2 (by omega) (by omega)) (fun c j w1 w2 => hrf c j (by omega) (by omega) (by omega))
  rcases hv with ⟨v1, v2, v3, v4, v5⟩ | ⟨v1, v2, v3, ⟨v4, v5, v6⟩, ⟨v7, v8⟩, v9, v10, v11, v12, v13⟩
  · have hx : (scX (lwTp σ)).1 = 0 ∧ (scX (lwTp σ)).2.1 = (ls0 (tC (lwTp σ)) (-1) (1, 0, 0, (fun q => I (k2 + 2) q), fun _ => -1)).2.1 := by
      rcases hrd with w | w
      · exact w.2
      · exact absurd (w.1.symm.trans v1) (by decide)
    rw [show lf28 σ a1 a2 a3 a4 a5 = lf28n σ from if_neg (by rw [hx.1]; decide)] at hQ
    have v2' : v = -2 - ((scX (lwTp σ)).2.1 : Int) := by rw [hx.2]; exact v2
    subst v2'
    subst v4
    have hx3 := x3.2.1
    refine hQ _ _ _ _ (fin 2 (lwSc σ) (by decide) hs v3 ⟨k, k2, hkk, ⟨r1, r2, r3⟩, zEt_fr het (fun c j w => f9 c j (by omega) (by omega) (by omega) (by omega)), cl, fn, vv, G, zCl_fr hcl (fun c j w => f9 c j (by omega) (by omega) (by omega) (by omega)), hok, hvv, zRn_fr hzr (fun c j w => ?_) (fun _ _ _ => rfl)⟩) zf (show r32 (-2 - ((scX (lwTp σ)).2.1 : Int)) from ⟨by omega, by omega⟩)
    by_cases e : c = 138
    · rw [e]; exact v5 j
    · exact f9 c j (by omega) (by omega) (by omega) (by omega)
  · have hx : (scX (lwTp σ)).1 = 1 ∧ (scX (lwTp σ)).2.2.2.2.1 = (ls0 (tC (lwTp σ)) (-1) (1, 0, 0, (fun q => I (k2 + 2) q), fun _ => -1)).2.2.1 := by
      rcases hrd with w | w
      · exact absurd (w.1.symm.trans v1) (by decide)
      · exact ⟨w.2.1, w.2.2.1⟩
    rw [show lf28 σ a1 a2 a3 a4 a5 = lf28y σ from if_pos hx.1] at hQ
    have v2' : v = ((scX (lwTp σ)).2.2.2.2.1 : Int) := by rw [hx.2]; exact v2
    subst v2'
    have hx3 := (x3.2.2 hx.1).1
    exact hQ _ _ _ _ (fin 0 (lwSn σ) (by decide) (lwSn_i hx.1) v3 (scA_new (w := lwTp σ) (E := (lwSc σ).2.1.1) (vv := vv) (by omega : (k2 = 130 ∧ k = 134) ∨ (k2 = 134 ∧ k = 130)) sc_ok.1 sc_ok.2 v4 v5 v6 v7 v8 v1 (zEv_fr hzr.1 (fun c j w => f9 c j (by omega) (by omega) (by omega) (by omega)) (fun _ _ _ => rfl)) v9 v10 v11 v12 v13)) zf (show r32 ((scX (lwTp σ)).2.2.2.2.1 : Int) from ⟨by omega, by omega⟩))
theorem lwB28 : lwCB 28 lf28 := (sn_Y_pro.up (by decide)).imp (by
  rintro args I L R S Q hz ⟨σ, a1, a2, a3, a4, a5, he, hr, hS, hcc, hP, hQ⟩
  have hs : iS (lwSc σ) := hP.1.2.2.2.2.2.1
  have hsc : scB (lwSc σ).1 (lwSc σ).2.1 (lwSc σ).2.2 I L := hP.2.2.2.2.2.2.2.1
  have hI2 := hcc.2
  obtain ⟨gn, ⟨hg1, hg2⟩, hg3, hg4, hg5, hg6, hq1, ⟨⟨hq2, hq3⟩, hq4⟩, ⟨⟨hq5, hq6⟩, hq7⟩, hq8, hq9⟩ := hsc
  obtain ⟨ht1, ht2⟩ := scV_b hs.1
  have hgg : gn + (1 - gn) = 1 := by omega
  refine ⟨σ.1.2, gn, 1 - gn, he, hS, hP.2.1.1, hP.2.2.1.2, hP.1.1.2, hg1, hgg, hg3, ?_⟩
  generalize 1 - gn = g at *
  intro v I' L' hx hv h1 hT hf hl
  have f9 : ∀ c j : Nat, ¬ (c = 165 ∧ (j = 0 ∨ j = 2)) → ¬ (234 ≤ c ∧ c ≤ 267) → I' c j = I c j := fun c j w1 w2 => hf c j (by omega) (by omega) (by omega) (by omega) (by omega) (by omega) (by omega) (by omega) (by omega) (by omega) (by omega) (by omega) (by omega) (by omega) (by omega) (by omega) (by omega) (by omega) (by omega) (by omega) (by omega) (by omega) (by omega) (by omega) (by omega) (by omega) (by omega) (by omega) (by omega) (by omega) (by omega) (by omega) (by omega) (by omega) (by omega) (by omega) (by omega) (by omega)
  have l9 : ∀ c j : Nat, ¬ (234 ≤ c ∧ c ≤ 267) → L' c j = L c j := fun c j w => hl c j (by omega) (by omega)
  have zf : zfB I L R S I' L' R S := zfB_IL (fun c j w => f9 c j (by omega) (by omega)) (fun c j w => l9 c j (by omega))
  have m9 : ∀ c j : Nat, ((238 ≤ c ∧ c ≤ 243) ∧ 600 * gn ≤ j ∧ j < 600 * gn + 600) ∨ (c = 244 ∧ 26 * gn ≤ j ∧ j < 26 * gn + 26) ∨ ((c = 245 ∨ c = 246) ∧ 1000 * gn ≤ j ∧ j < 1000 * gn + 1000) ∨ c = 254 ∨ c = 255 ∨ (c = 234 ∧ (j = 28 ∨ j = 30 ∨ j = 32)) → I' c j = I c j := fun c j w => by
    have hgn : (gn = 0 ∧ g = 1) ∨ (gn = 1 ∧ g = 0) := by omega
    rcases hgn with ⟨rfl, rfl⟩ | ⟨rfl, rfl⟩
    · exact hf c j (by omega) (by omega) (by omega) (by omega) (by omega) (by omega) (by omega) (by omega) (by omega) (by omega) (by omega) (by omega) (by omega) (by omega) (by omega) (by omega) (by omega) (by omega) (by omega) (by omega) (by omega) (by omega) (by omega) (by omega) (by omega) (by omega) (by omega) (by omega) (by omega) (by omega) (by omega) (by omega) (by omega) (by omega) (by omega) (by omega) (by omega) (by omega)
    · exact hf c j (by omega) (by omega) (by omega) (by omega) (by omega) (by omega) (by omega) (by omega) (by omega) (by omega) (by omega) (by omega) (by omega) (by omega) (by omega) (by omega) (by omega) (by omega) (by omega) (by omega) (by omega) (by omega) (by omega) (by omega) (by omega) (by omega) (by omega) (by omega) (by omega) (by omega) (by omega) (by omega) (by omega) (by omega) (by omega) (by omega) (by omega) (by omega)
  rcases hv with ⟨v1, v2, v3, v4, v5, v6⟩ | ⟨v1, v2, v3, v4, v5, v6⟩
  · rw [show lf28 σ a1 a2 a3 a4 a5 = lf28n σ from if_neg (by rw [v1]; decide)] at hQ hI2
    subst v2
    subst v6
    refine hQ _ _ _ _ (lwB_p hP hI2 v3 hT ⟨gn, ⟨v4, hg2⟩, h1, (m9 _ _ (by omega)).trans hg4, fun i hi => zOr_f2 (hg5 i hi) (by omega) (fun x w1 w2 => m9 _ _ (by omega)) (fun x j w1 w2 w3 => m9 _ _ (by omega)), fun w f hf2 => (m9 _ _ (by omega)).trans (hg6 w f hf2), zRv_fr hq1 (fun c j w => m9 c j (by omega)) (fun _ _ _ => rfl), ⟨⟨(v5 36 (by decide)).trans hq2, hq3⟩, fun i hi => (m9 _ _ (by omega)).trans (hq4 i hi)⟩, ⟨⟨(v5 38 (by decide)).trans hq5, hq6⟩, fun j hj => ?_⟩, ⟨(v5 46 (by decide)).trans hq8.1, (v5 47 (by decide)).trans hq8.2.1, (v5 48 (by decide)).trans hq8.2.2⟩, (m9 _ _ (by omega)).trans hq9⟩ f9 l9) zf
    obtain ⟨p, p1, _⟩ := hs.2 j hj
    have p1' : (lwSc σ).2.1.2.2.2 j < (scX (lwSc σ).1).2.2.1 := p1
    exact (m9 _ _ (by omega)).trans ((hq7 j hj).trans (m9 _ _ (by omega)).symm)
  · rw [show lf28 σ a1 a2 a3 a4 a5 = lf28y σ from if_pos v1] at hQ hI2
    subst v2
    obtain ⟨p1, p2, p3⟩ := v5
    obtain ⟨z1, z2, z3, z4, z5, z6, z7⟩ := v6
    exact hQ _ _ _ _ (lwB_p hP hI2 v3 hT ⟨g, ⟨v4, by omega⟩, h1, p1, p2, fun _ => p3, ⟨z1, ⟨(m9 _ _ (by omega)).trans hq1.2.1.1, hq1.2.1.2⟩, fun j hj => (hl _ _ (by omega) (by omega)).trans (hq1.2.2.1 j hj), ⟨(m9 _ _ (by omega)).trans hq1.2.2.2.1.1, hq1.2.2.2.1.2⟩, fun j hj => (hl _ _ (by omega) (by omega)).trans (hq1.2.2.2.2 j hj)⟩, ⟨⟨z3, Nat.zero_le _⟩, fun i hi => absurd hi (Nat.not_lt_zero i)⟩, ⟨⟨z4, Nat.zero_le _⟩, fun i hi => absurd hi (Nat.not_lt_zero i)⟩, ⟨z5, z6, z7⟩, (m9 _ _ (by omega)).trans hq9⟩ f9 l9) zf)
