
/-! airline, the class; facts; release -/
theorem cuAe_r {w : List CuR} {pc : Nat} {net k wh : Int} (hp : pc ≤ 60) : r32 (cuAe w pc net k wh) := by
  have h : ∀ x : Int, (x = -1 ∨ (0 ≤ x ∧ x < 3600)) → r32 (x / 60) ∧ r32 (x % 60) := fun x hx => ⟨⟨by omega, by omega⟩, by omega, by omega⟩
  have q : cuAr w pc net k.toNat = -1 ∨ (0 ≤ cuAr w pc net k.toNat ∧ cuAr w pc net k.toNat < 3600) := by
    by_cases e : cuAr w pc net k.toNat = -1
    · exact Or.inl e
    · exact Or.inr (cuAr_b hp e)
  unfold cuAe
  split
  · split
    · exact (h _ q).1
    · exact (h _ q).2
  · exact zRb rfl
theorem lwA23 : lwCA 23 lf23 := ZSnd.alt (sn_Z_ai0.up (by decide)) (sn_Z_ai.up (by decide)) (by
  rintro args I L R S Q hz ⟨σ, a1, a2, a3, a4, a5, he, hr, hS, hc, hP, hQ⟩
  by_cases hm : (lwC σ).1 = 0
  · rw [show lf23 σ a1 a2 a3 a4 a5 = (σ, -1) from congrArg (Prod.mk σ) (if_pos hm)] at hQ
    exact Or.inl ⟨a1, a2, a3, he, hS, hP.2.1.1, lwA_u0 hP hm, hQ _ _ _ _ hP zfA_0 (zRb rfl)⟩
  · rw [show lf23 σ a1 a2 a3 a4 a5 = (σ, cuAe (lwC σ).2.1 (lwC σ).2.2.1 a1 a2 a3) from congrArg (Prod.mk σ) (if_neg hm)] at hQ
    obtain ⟨k, r1, hd, hk, hU, h14, hm2⟩ := lwA_u hP hS hm
    have hI := hP.1.2.2.2.2.1.2 hm
    refine Or.inr ⟨k, _, _, _, _, _, _, _, a1, a2, a3, he, hS, hP.2.1.1, h14, hm2, r1, hd, hk, hU, ⟨hr.1, hr.2.1, hr.2.2.1⟩, ?_⟩
    rintro v rfl
    exact hQ _ _ _ _ hP zfA_0 (cuAe_r (by have := hI.2.2.2.1.1; have h2 : (lwC σ).2.2.1 ≤ 40 := this; omega)))
/-- scripts: what is told, and the scripts' state, are new -/
def lws (σ : LwS) (d : Int) (y : ScL) : LwS := ((d, σ.1.2), σ.2.1, σ.2.2.1, σ.2.2.2.1, σ.2.2.2.2.1, y, σ.2.2.2.2.2.2)
abbrev lwSc (σ : LwS) : ScL := σ.2.2.2.2.2.1
theorem lwI_sc {σ : LwS} {d : Int} {y : ScL} (h : lwI σ) (hd : 0 ≤ d ∧ d ≤ 5) (hy : iS y) : lwI (lws σ d y) := ⟨⟨hd, h.1.2⟩, h.2.1, h.2.2.1, h.2.2.2.1, h.2.2.2.2.1, hy, h.2.2.2.2.2.2⟩
theorem lwA_sc {σ : LwS} {I L I' L' : ZI} {R : ZR} {S : ZS} {d : Int} {y : ScL} (h : lwA σ I L R S) (hd : 0 ≤ d ∧ d ≤ 5) (hy : iS y) (h3 : I' 40 3 = d) (hX : aS y I' L' R) (hf : ∀ c j : Nat, ¬ (c = 40 ∧ j = 3) → ¬ (128 ≤ c ∧ c ≤ 144) → I' c j = I c j) (hl : ∀ c j : Nat, ¬ (128 ≤ c ∧ c ≤ 144) → L' c j = L c j) : lwA (lws σ d y) I' L' R S := by
  obtain ⟨h0, ⟨h1, h2⟩, h3', h4, h5, h6, h7, h8, h9, h10⟩ := h
  exact ⟨lwI_sc h0 hd hy, ⟨h1, zStf h2 (fun c j q1 q2 => ⟨hf c j (by omega) (by omega), hl c j (by omega)⟩)⟩, ⟨h3, zTA_fr h3'.2 (fun c j q => hf c j (by omega) (by omega))⟩, aR_fr h4 (fun c j q => hf c j (by omega) (by omega)) (fun c j q => hl c j (by omega)) ⟨rfl, rfl⟩, aB_fr h5 (fun c j q => hf c j (by omega) (by omega)) (fun c j q => hl c j (by omega)), aU_fr h6 (fun c j q => hf c j (by omega) (by omega)), aC_fr h7 (fun c j q => hf c j (by omega) (by omega)) ⟨rfl, rfl⟩, hX, aX_fr h9 (fun c j q => hf c j (by omega) (by omega)), aE_fr h10 (fun c j q => hf c j (by omega) (by omega))⟩
/-- the reference: beside the scripts' cells only the board's and the cut's objects were asked -/
theorem lwB_sc {σ : LwS} {I L I' L' : ZI} {R : ZR} {S : ZS} {d : Int} {y : ScL} (h : lwB σ I L R S) (hI : lwI (lws σ d y)) (h3 : I' 165 0 = d) (hX : bS y I' L') (hg : ∀ g : Nat, R 165 12 = some g → 302 ≤ g) (hq : ∀ q : Nat, R 165 31 = some q → 302 ≤ q) (hf : ∀ c j : Nat, ¬ (c = 165 ∧ j = 0) → ¬ (234 ≤ c ∧ c ≤ 267) → (∀ g : Nat, R 165 12 = some g → ¬ (c = g ∧ j = 0)) → (∀ q : Nat, R 165 31 = some q → ¬ ((c = q ∧ j ≠ 2) ∨ (q + 11 ≤ c ∧ c ≤ q + 13))) → I' c j = I c j) (hl : ∀ c j : Nat, ¬ (234 ≤ c ∧ c ≤ 267) → (∀ q : Nat, R 165 31 = some q → ¬ c = q) → L' c j = L c j) : lwB (lws σ d y) I' L' R S := by
  obtain ⟨h0, h1, h3', h4, h5, h6, h7, h8, h9, h10⟩ := h
  obtain ⟨D1, D2, D3, D4, D5⟩ := id h1.2.2
  have f3 : ∀ c j : Nat, c < 302 → ¬ (c = 165 ∧ j = 0) → ¬ (234 ≤ c ∧ c ≤ 267) → I' c j = I c j := fun c j w w1 w2 => hf c j w1 w2 (fun g e => by have := hg g e; omega) (fun q e => by have := hq q e; omega)
  have l3 : ∀ c j : Nat, c < 302 → ¬ (234 ≤ c ∧ c ≤ 267) → L' c j = L c j := fun c j w w2 => hl c j w2 (fun q e => by have := hq q e; omega)
  refine ⟨hI, h1, ⟨h3, zTB_fr h3'.2 (fun c j q => f3 c j (by omega) (by omega) (by omega))⟩, bR_fr h4 (zSg_r _) (fun c j q => f3 c j (by omega) (by omega) (by omega)) (fun c j w => l3 c j (by omega) (by omega)) rfl (fun q e w1 w2 => ⟨fun c j w => hf c j (by omega) (by omega) (fun g e2 => by have := D2 g q e2 e; omega) (fun c' e2 => by have := D3 c' q e2 e; omega), fun c j w => ⟨hl c j (by omega) (fun c' e2 => by have := D3 c' q e2 e; omega), rfl⟩⟩), bB_fr h5 (zSg_r _) (fun c j q => f3 c j (by omega) (by omega) (by omega)) ⟨rfl, rfl⟩ (fun g q e e1 w1 w2 w3 => ⟨fun c j w => hf c j (by omega) (by omega) (fun g' e2 => by have e3 : g = g' := Option.some.inj (e.symm.trans e2); omega) (fun c' e2 => by have := D1 g c' e e2; have := D4 c' q e2 e1; omega), fun c j w => ⟨hl c j (by omega) (fun c' e2 => by have := D1 g c' e e2; have := D4 c' q e2 e1; omega), rfl⟩⟩), bU_fr h6 (fun c j q => f3 c j (by omega) (by omega) (by omega)), bC_fr h7 (zSg_r _) (by rw [f3 _ _ (by omega) (by omega) (by omega)]; exact h7.1.2.1) (fun j q => by rw [f3 _ _ (by omega) (by omega) (by omega)]; exact h7.1.2.2 j q) (fun c j q => f3 c j (by omega) (by omega) (by omega)) ⟨rfl, rfl⟩ (fun q e w1 w2 => ⟨fun c j w => hf c j (by omega) (by omega) (fun g e2 => by have := D1 g q e2 e; omega) (fun c' e2 => by have e3 : q = c' := Option.some.inj (e.symm.trans e2); omega), fun c j w => hl c j (by omega) (fun c' e2 => by have e3 : q = c' := Option.some.inj (e.symm.trans e2); omega), fun c j w => rfl⟩), hX, bX_fr h9 (fun c j q => f3 c j (by omega) (by omega) (by omega)), bE_fr h10 (fun c j q => f3 c j (by omega) (by omega) (by omega))⟩
/-- facts -/
noncomputable def lwFa (σ : LwS) : Nat → Int := @ite (Nat → Int) ((lwC σ).1 ≠ 0 ∧ (lwC σ).2.2.2.2.1 = (lwBo σ).1) (Classical.propDecidable _) (fun n : Nat => (cuAc (lwC σ).2.1 (lwC σ).2.2.1 n : Int)) (fun _ => -1)
noncomputable def lf29y (σ : LwS) : LwS × Int := (lws σ 0 ((lwSc σ).1, (((lwSc σ).2.1.1.1, 12, fcF (lwBo σ).2.1 (lwFa σ), (lwSc σ).2.1.1.2.2.2), (lwSc σ).2.1.2), (lwSc σ).2.2), 1)
noncomputable def lf29 : ZSpf := fun σ _ _ _ _ _ => if (lwBo σ).1 = 0 then (lwd σ 3, 0) else lf29y σ
theorem lwFa_y {σ : LwS} (h : (lwC σ).1 ≠ 0 ∧ (lwC σ).2.2.2.2.1 = (lwBo σ).1) : lwFa σ = fun n : Nat => (cuAc (lwC σ).2.1 (lwC σ).2.2.1 n : Int) := if_pos h
theorem lwFa_n {σ : LwS} (h : ¬ ((lwC σ).1 ≠ 0 ∧ (lwC σ).2.2.2.2.1 = (lwBo σ).1)) : lwFa σ = fun _ => -1 := if_neg h
theorem iS_fc {x : ScL} {E : EvE} (h : iS x) : iS (x.1, (E, x.2.1.2), x.2.2) := h
theorem lwA29 : lwCA 29 lf29 := ZSnd.alt3 (sn_Z_fc0.up (by decide)) (sn_Z_fcA.up (by decide)) (sn_Z_fcB.up (by decide)) (by
  rintro args I L R S Q hz ⟨σ, a1, a2, a3, a4, a5, he, hr, hS, hc, hP, hQ⟩
  have hB0 : aB (lwBo σ) I L := hP.2.2.2.2.1
  have hI : iB (lwBo σ) := hP.1.2.2.1
  have hs : iS (lwSc σ) := hP.1.2.2.2.2.2.1
  have hsc : scA (lwSc σ).1 (lwSc σ).2.1 (lwSc σ).2.2 I L R := hP.2.2.2.2.2.2.2.1
  by_cases hb : (lwBo σ).1 = 0
  · rw [show lf29 σ a1 a2 a3 a4 a5 = (lwd σ 3, 0) from if_pos hb] at hQ
    refine Or.inl ⟨he, hS, hP.2.1.1, by rw [hB0.2.1, hb]; rfl, ?_⟩
    intro I' h3 hf
    exact hQ _ _ _ _ (lwA_d hP (by decide) h3 hf) (zfA_I (fun c j w => hf c j (by omega))) (zRb rfl)
  · have hB := hB0.1 hb
    rw [show lf29 σ a1 a2 a3 a4 a5 = lf29y σ from if_neg hb] at hQ
    obtain ⟨_, ⟨k, u, hk, ⟨r1, r2⟩, k0, kU⟩, _⟩ : aC (lwC σ) I R := hP.2.2.2.2.2.2.1
    have hd : zDy zT1 zF1 k R S := by
      rcases hk with w | w
      · rw [w.1]; exact zDy_106 hP.2.1.1 hS
      · rw [w.1]; exact zDy_118 hP.2.1.1 hS
    by_cases hc : (lwC σ).1 ≠ 0 ∧ (lwC σ).2.2.2.2.1 = (lwBo σ).1
    · have hU := kU hc.1
      refine Or.inr (Or.inl ⟨(lwSc σ).1, (lwSc σ).2.1, (lwSc σ).2.2, (lwBo σ).1, (lwBo σ).2.1, k, (lwC σ).2.1, (lwC σ).2.2.1, he, hS, hP.2.1.1, hsc, hB, (hI.2.2 hb).1.1, ⟨by omega, hI.1⟩, hd, by omega, r1, by rw [k0, hc.2], hU.2.2.2.1, hU.1.2.2.2.2.2, ?_⟩)
      intro I' L' h3 hx hf hl
      rw [← lwFa_y hc] at hx
      exact hQ _ _ _ _ (lwA_sc hP (by decide) (iS_fc hs) h3 hx (fun c j w1 w2 => hf c j w1 (by omega)) (fun c j w => hl c j (by omega))) (zfA_IL (fun c j w => hf c j (by omega) (by omega)) (fun c j w => hl c j (by omega))) (zRb rfl)
    · refine Or.inr (Or.inr ⟨(lwSc σ).1, (lwSc σ).2.1, (lwSc σ).2.2, (lwBo σ).1, (lwBo σ).2.1, k, (lwC σ).2.1, (lwC σ).2.2.1, he, hS, hP.2.1.1, hsc, hB, (hI.2.2 hb).1.1, ⟨by omega, hI.1⟩, hd, by omega, r1, ?_, ?_⟩)
      · intro e
        rw [k0] at e
        have e2 : (lwC σ).2.2.2.2.1 = (lwBo σ).1 := by omega
        by_cases hm : (lwC σ).1 = 0
        · have z := hP.1.2.2.2.2.1.1.2.2.1 hm
          have z2 : (lwC σ).2.2.2.2.1 = 0 := z
          omega
        · exact hc ⟨hm, e2⟩
      · intro I' L' h3 hx hf hl
        rw [← lwFa_n hc] at hx
        exact hQ _ _ _ _ (lwA_sc hP (by decide) (iS_fc hs) h3 hx (fun c j w1 w2 => hf c j w1 (by omega)) (fun c j w => hl c j (by omega))) (zfA_IL (fun c j w => hf c j (by omega) (by omega)) (fun c j w => hl c j (by omega))) (zRb rfl))
theorem ZSnd.alt4 {h c i : Nat} {T1 T2 T3 T4 T' : ZT} (h1 : ZSnd h c i T1) (h2 : ZSnd h c i T2) (h3 : ZSnd h c i T3) (h4 : ZSnd h c i T4) (hi : ∀ args I L R S Q, zok I L → T' args I L R S Q → T1 args I L R S Q ∨ T2 args I L R S Q ∨ T3 args I L R S Q ∨ T4 args I L R S Q) : ZSnd h c i T' := fun d hd args I L R S Q hz g => by
  rcases hi args I L R S Q hz g with q | q | q | q
  · exact h1 d hd args I L R S Q hz q
  · exact h2 d hd args I L R S Q hz q
  · exact h3 d hd args I L R S Q hz q
  · exact h4 d hd args I L R S Q hz q
theorem lwB_b3 {σ : LwS} {I L : ZI} {R : ZR} {S : ZS} (h : lwB σ I L R S) : (∀ g : Nat, R 165 12 = some g → 302 ≤ g) ∧ ∀ q : Nat, R 165 31 = some q → 302 ≤ q := by
  have g5 : bB (lwBo σ) I L R S := h.2.2.2.2.1
  have g7 : bC (lwC σ) I L R S := h.2.2.2.2.2.2.1
  refine ⟨fun g w => ?_, fun q w => ?_⟩
  · by_cases hb : (lwBo σ).1 = 0
    · rw [(g5.2.1 hb).1] at w; exact absurd w (by simp)
    · obtain ⟨g', q, ⟨g1, g2, g3⟩, _⟩ := g5.2.2 hb
      have e : g' = g := Option.some.inj (g1.symm.trans w)
      omega
  · by_cases hm : (lwC σ).1 = 0
    · rw [g7.2.1 hm] at w; exact absurd w (by simp)
    · obtain ⟨k, ⟨k1, k2, k3, k4, k5⟩, _⟩ := g7.2.2 hm
      have e : k = q := Option.some.inj (k1.symm.trans w)
      omega
theorem lwB29 : lwCB 29 lf29 := ZSnd.alt4 (sn_Y_fc0.up (by decide)) (sn_Y_fcA.up (by decide)) (sn_Y_fcB.up (by decide)) (sn_Y_fcC.up (by decide)) (by
  rintro args I L R S Q hz ⟨σ, a1, a2, a3, a4, a5, he, hr, hS, hcc, hP, hQ⟩
  have hB : bB (lwBo σ) I L R S := hP.2.2.2.2.1
  have hI : iB (lwBo σ) := hP.1.2.2.1
  have hC : bC (lwC σ) I L R S := hP.2.2.2.2.2.2.1
  have hsc : scB (lwSc σ).1 (lwSc σ).2.1 (lwSc σ).2.2 I L := hP.2.2.2.2.2.2.2.1
  have hI2 := hcc.2
  obtain ⟨b3, b4⟩ := lwB_b3 hP
  by_cases hb : (lwBo σ).1 = 0
  · rw [show lf29 σ a1 a2 a3 a4 a5 = (lwd σ 3, 0) from if_pos hb] at hQ
    refine Or.inl ⟨he, hS, hP.2.1.1, (hB.2.1 hb).1, ?_⟩
    intro I' h3 hf
    exact hQ _ _ _ _ (lwB_d hP (by decide) h3 hf) (zfB_I (fun c j w => hf c j (by omega)))
  · rw [show lf29 σ a1 a2 a3 a4 a5 = lf29y σ from if_neg hb] at hQ hI2
    obtain ⟨g, q, G, K, ⟨g8, g9⟩, g10, g11⟩ := hB.2.2 hb
    have gg := G.2.2
    by_cases hm : (lwC σ).1 = 0
    · refine Or.inr (Or.inr (Or.inl ⟨(lwSc σ).1, (lwSc σ).2.1, (lwSc σ).2.2, g, (lwBo σ).2.1, 0, [], 0, he, hS, hP.2.1.1, hsc, G.1, G.2.1, g8, (hI.2.2 hb).1.1, gg, g9, hC.2.1 hm, ?_⟩))
      intro I' L' h3 hx hf hl
      rw [← lwFa_n (σ := σ) (fun w => w.1 hm)] at hx
      exact hQ _ _ _ _ (lwB_sc hP hI2 h3 hx b3 b4 (fun c j w1 w2 w3 w4 => hf c j w1 (w3 g G.1) (by omega) (by omega)) (fun c j w1 w2 => hl c j (by omega))) (zfB_IL (fun c j w => hf c j (by omega) (by omega) (by omega) (by omega)) (fun c j w => hl c j (by omega)))
    · obtain ⟨qq, ⟨k1, k2, k3, k4, k5⟩, ⟨k6, k7, k8⟩, ⟨k9, k10⟩, k11, k12⟩ := hC.2.2 hm
      have hIC := hP.1.2.2.2.2.1.2 hm
      have D1 := hP.2.1.2.2.1 g qq G.1 k1
      by_cases hc : (lwC σ).2.2.2.2.1 = (lwBo σ).1
      · refine Or.inr (Or.inl ⟨(lwSc σ).1, (lwSc σ).2.1, (lwSc σ).2.2, g, (lwBo σ).2.1, qq, (lwC σ).2.1, (lwC σ).2.2.1, ((lwC σ).2.2.2.2.1 : Int), ((lwBo σ).1 : Int), he, hS, hP.2.1.1, hsc, G.1, G.2.1, g8, (hI.2.2 hb).1.1, gg, g9, k1, k3, by omega, by rw [hc], k6, hIC.2.1, hIC.2.2.1, hIC.2.2.2.1, k12, hB.1, ?_⟩)
        intro I' L' h3 hx hf hl
        rw [← lwFa_y (σ := σ) ⟨hm, hc⟩] at hx
        exact hQ _ _ _ _ (lwB_sc hP hI2 h3 hx b3 b4 (fun c j w1 w2 w3 w4 => by have w5 := w3 g G.1; have w6 := w4 qq k1; exact hf c j w1 w5 (by omega) (by omega) (by omega) (by omega) (by omega) (by omega) (by omega) (by omega)) (fun c j w1 w2 => by have w6 := w2 qq k1; exact hl c j (by omega) (by omega))) (zfB_IL (fun c j w => hf c j (by omega) (by omega) (by omega) (by omega) (by omega) (by omega) (by omega) (by omega) (by omega) (by omega)) (fun c j w => hl c j (by omega) (by omega)))
      · refine Or.inr (Or.inr (Or.inr ⟨(lwSc σ).1, (lwSc σ).2.1, (lwSc σ).2.2, g, (lwBo σ).2.1, qq, (lwC σ).2.1, (lwC σ).2.2.1, ((lwC σ).2.2.2.2.1 : Int), ((lwBo σ).1 : Int), he, hS, hP.2.1.1, hsc, G.1, G.2.1, g8, (hI.2.2 hb).1.1, gg, g9, k1, by omega, k12, hB.1, ?_⟩))
        intro I' L' h3 hx hf hl
        rw [← lwFa_n (σ := σ) (fun w => hc w.2)] at hx
        exact hQ _ _ _ _ (lwB_sc hP hI2 h3 hx b3 b4 (fun c j w1 w2 w3 w4 => hf c j w1 (w3 g G.1) (by omega) (by omega)) (fun c j w1 w2 => hl c j (by omega))) (zfB_IL (fun c j w => hf c j (by omega) (by omega) (by omega) (by omega)) (fun c j w => hl c j (by omega))))
