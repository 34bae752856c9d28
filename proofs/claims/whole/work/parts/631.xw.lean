/-! xw -/
def T_X_uni : ZT := fun args I L R S Q => ∃ (k : Nat) (t : List Int) (u : Int), args = [zvr k, zvi u] ∧ (zSh S) ∧ (zRs R) ∧ (zDy zT16 zF16 k R S) ∧ (zTd k t I) ∧ (t.length ≤ 800) ∧ (u = 10 ∨ (32 ≤ u ∧ u ≤ 126)) ∧ ∀ (v : Int) (I' : ZI), (v = 1) → (zTd k (t ++ [u]) I') → (∀ c j : Nat, ¬ (c = k ∧ j = 0) → ¬ (c = k ∧ j = 19) → ¬ c = k + 17 → I' c j = I c j) → Q (some (zvi (v))) I' L R S
theorem sn_X_uni : ZSnd 1 16 30 T_X_uni := ZSnd.of (zT16_30 0) (by
  rintro args I L R S Q hz ⟨k, t, u, rfl, hS, hR, hd, hTd, ht8, hu, hQ⟩
  have hk5 := hd.1
  obtain ⟨ht0, htt⟩ := id hTd
  refine And.intro rfl ?_
  refine And.intro (zDX hd 0 rfl) ⟨_, (zWi (zRb rfl)), ?_⟩
  refine And.intro ⟨(by omega), (zRb rfl)⟩ ⟨fun h8 => ?_, fun h8 => ?_⟩
  · refine And.intro (zDX hd 0 rfl) (zrd (v := (t.length)) (zxs (by decide) ht0) ?_)
    refine And.intro ⟨(by omega), (zRb rfl)⟩ ⟨fun h30 => ?_, (fun h30 => False.elim (by omega))⟩
    refine And.intro (zDX hd 0 rfl) (zrdR (v := some (k + 17)) (zDR hd 16 rfl) ?_)
    refine And.intro (zDX hd 0 rfl) (zrd (v := (t.length)) (zxs (by decide) ht0) ?_)
    refine And.intro ⟨(by show 40 ≤ _; omega), (zDP hd 17 rfl rfl (by omega) (by omega))⟩ ⟨_, (zWi (by omega)), ?_⟩
    refine And.intro (zDX hd 0 rfl) (zrd (v := (t.length)) (zxu (by omega) (zxs (by decide) ht0)) ?_)
    refine And.intro (zDX hd 0 rfl) ⟨_, (zWi (by omega)), ?_⟩
    refine And.intro (Or.inr rfl) ?_
    refine hQ _ _ (by omega) (zTd_e hTd (by first | exact zxe | exact zxe.trans (by omega)) (zxu (by omega) zxe) (fun j hj => zxu (by omega) (zxs (by omega) (zxu (by omega) rfl)))) (fun c j h0 h1 h2 => (zxcj h1 (zxu h2 (zxcj h0 rfl))))
  · refine And.intro ⟨(by omega), (zRb rfl)⟩ ⟨fun h14 => ?_, fun h14 => ?_⟩
    · exact False.elim (by omega)
    · refine And.intro ⟨(by omega), (zRb rfl)⟩ ⟨fun h20 => ?_, fun h20 => ?_⟩
      · exact False.elim (by omega)
      · refine And.intro (zDX hd 0 rfl) (zrd (v := (t.length)) (zxs (by decide) ht0) ?_)
        refine And.intro ⟨(by omega), (zRb rfl)⟩ ⟨fun h30 => ?_, (fun h30 => False.elim (by omega))⟩
        refine And.intro (zDX hd 0 rfl) (zrdR (v := some (k + 17)) (zDR hd 16 rfl) ?_)
        refine And.intro (zDX hd 0 rfl) (zrd (v := (t.length)) (zxs (by decide) ht0) ?_)
        refine And.intro ⟨(by show 40 ≤ _; omega), (zDP hd 17 rfl rfl (by omega) (by omega))⟩ ⟨_, (zWi (by omega)), ?_⟩
        refine And.intro (zDX hd 0 rfl) (zrd (v := (t.length)) (zxu (by omega) (zxs (by decide) ht0)) ?_)
        refine And.intro (zDX hd 0 rfl) ⟨_, (zWi (by omega)), ?_⟩
        refine And.intro (Or.inr rfl) ?_
        refine hQ _ _ (by omega) (zTd_e hTd (by first | exact zxe | exact zxe.trans (by omega)) (zxu (by omega) zxe) (fun j hj => zxu (by omega) (zxs (by omega) (zxu (by omega) rfl)))) (fun c j h0 h1 h2 => (zxcj h1 (zxu h2 (zxcj h0 rfl)))))
def T_X_clr : ZT := fun args I L R S Q => ∃ (k : Nat), args = [zvr k] ∧ (zSh S) ∧ (zRs R) ∧ (zDy zT16 zF16 k R S) ∧ ∀ (I' : ZI), (zTd k [] I') → (∀ c j : Nat, ¬ (c = k ∧ j = 0) → ¬ (c = k + 1 ∧ j = 0) → ¬ (c = k + 4 ∧ j = 0) → ¬ (c = k ∧ j = 19) → ¬ (c = k ∧ j = 25) → ¬ (c = k ∧ j = 29) → I' c j = I c j) → Q none I' L R S
theorem sn_X_clr : ZSnd 1 16 3 T_X_clr := ZSnd.of (zT16_3 0) (by
  rintro args I L R S Q hz ⟨k, rfl, hS, hR, hd, hQ⟩
  have hk5 := hd.1
  refine And.intro rfl ?_
  refine And.intro (zDX hd 0 rfl) ⟨_, (zWi (zRb rfl)), ?_⟩
  refine And.intro (zDX hd 0 rfl) (zrdR (v := some (k + 1)) (zDR hd 0 rfl) ?_)
  refine And.intro ⟨(by show 40 ≤ _; omega), (zDP hd 1 rfl rfl (by omega) (by omega))⟩ ⟨_, (zWi (zRb rfl)), ?_⟩
  refine And.intro (zDX hd 0 rfl) (zrdR (v := some (k + 4)) (zDR hd 3 rfl) ?_)
  refine And.intro ⟨(by show 40 ≤ _; omega), (zDP hd 4 rfl rfl (by omega) (by omega))⟩ ⟨_, (zWi (zRb rfl)), ?_⟩
  refine And.intro (zDX hd 0 rfl) ⟨_, (zWi (zRb rfl)), ?_⟩
  refine And.intro (zDX hd 0 rfl) ⟨_, (zWi (zRb rfl)), ?_⟩
  refine And.intro (zDX hd 0 rfl) ⟨_, (zWi (zRb rfl)), ?_⟩
  refine hQ _ (zTd_0 (zxs (by decide) (zxs (by decide) zxe))) (fun c j h0 h1 h2 h3 h4 h5 => (zxcj h5 (zxcj h4 (zxcj h3 (zxcj (by omega) (zxcj (by omega) (zxcj h0 rfl))))))))
def T_X_now : ZT := fun args I L R S Q => ∃ (k : Nat) (t : List Int) (p : Nat), args = [zvr k] ∧ (zSh S) ∧ (zRs R) ∧ (zDy zT16 zF16 k R S) ∧ (zTd k t I) ∧ (I k 21 = p) ∧ (t.length ≤ 800) ∧ (p ≤ t.length) ∧ ∀ (v : Int), ((p < t.length ∧ v = wAt t p) ∨ (p = t.length ∧ v = -1)) → (-2147483648 ≤ v ∧ v ≤ 2147483647) → Q (some (zvi (v))) I L R S
theorem sn_X_now : ZSnd 1 16 16 T_X_now := ZSnd.of (zT16_16 0) (by
  rintro args I L R S Q hz ⟨k, t, p, rfl, hS, hR, hd, hTd, hp, ht8, hp8, hQ⟩
  have hk5 := hd.1
  obtain ⟨ht0, htt⟩ := id hTd
  refine And.intro rfl ?_
  refine And.intro (zDX hd 0 rfl) (zrd (v := p) hp ?_)
  refine And.intro (zDX hd 0 rfl) (zrd (v := (t.length)) ht0 ?_)
  refine And.intro ⟨(by omega), (by omega)⟩ ⟨fun h8 => ?_, fun h8 => ?_⟩
  · refine hQ _ (by omega) (by omega)
  · refine And.intro (zDX hd 0 rfl) (zrdR (v := some (k + 17)) (zDR hd 16 rfl) ?_)
    refine And.intro (zDX hd 0 rfl) (zrd (v := p) hp ?_)
    refine And.intro (zDP hd 17 rfl rfl (by omega) (by omega)) (fun v19 e19 r19 => ?_)
    have f19 : v19 = wAt t p := (e19.trans ((congrArg (I (k + 17)) (show _ = p by omega)).trans (htt p (by omega))))
    refine hQ _ (by omega) (by omega))
def T_X_exp : ZT := fun args I L R S Q => ∃ (k : Nat) (t : List Int) (p : Nat) (u : Int), args = [zvr k, zvi u] ∧ (zSh S) ∧ (zRs R) ∧ (zDy zT16 zF16 k R S) ∧ (zTd k t I) ∧ (I k 21 = p) ∧ (t.length ≤ 800) ∧ (I k 23 = -1) ∧ (p < t.length ∧ wAt t p = u) ∧ (r32 u) ∧ ∀ (I' : ZI), (I' k 21 = p + 1) → (∀ c j : Nat, ¬ (c = k ∧ j = 21) → I' c j = I c j) → Q none I' L R S
theorem sn_X_exp : ZSnd 2 16 6 T_X_exp := ZSnd.of (zT16_6 1) (by
  rintro args I L R S Q hz ⟨k, t, p, u, rfl, hS, hR, hd, hTd, hp, ht8, hw, hu, hur, hQ⟩
  have hk5 := hd.1
  obtain ⟨ht0, htt⟩ := id hTd
  refine And.intro rfl ?_
  refine And.intro (zDX hd 0 rfl) (zrd (v := (-1)) hw ?_)
  refine And.intro ⟨(zRb rfl), (zRb rfl)⟩ (zbt rfl ?_)
  refine And.intro (zDX hd 0 rfl) ⟨_, sn_X_now.up (by decide), ?_⟩
  refine ⟨_, t, p, rfl, hS, hR, hd, (by first | exact (zTd_fr hTd (fun c j h => rfl)) | (clear hQ; grind [xu])), hp, (by omega), (by omega), ?_⟩
  intro v10o p10hv p10bhv2
  refine And.intro ⟨(by omega), (by omega)⟩ ⟨fun h14 => ?_, fun h14 => ?_⟩
  · exact False.elim (by omega)
  · refine And.intro (zDX hd 0 rfl) (zrd (v := p) hp ?_)
    refine And.intro (zDX hd 0 rfl) ⟨_, (zWi (by omega)), ?_⟩
    refine hQ _ (by first | exact zxe | exact zxe.trans (by omega)) (fun c j h0 => (zxcj h0 rfl)))
def T_X_isd : ZT := fun args I L R S Q => ∃ (k : Nat) (t : List Int) (p : Nat), args = [zvr k] ∧ (zSh S) ∧ (zRs R) ∧ (zDy zT16 zF16 k R S) ∧ (zTd k t I) ∧ (I k 21 = p) ∧ (t.length ≤ 800) ∧ (p < t.length) ∧ ∀ (v : Int), ((v = 1 ∧ 48 ≤ wAt t p ∧ wAt t p ≤ 57) ∨ (v = 0 ∧ ¬ (48 ≤ wAt t p ∧ wAt t p ≤ 57))) → Q (some (zvi (v))) I L R S
theorem sn_X_isd : ZSnd 2 16 11 T_X_isd := ZSnd.of (zT16_11 1) (by
  rintro args I L R S Q hz ⟨k, t, p, rfl, hS, hR, hd, hTd, hp, ht8, hp8, hQ⟩
  have hk5 := hd.1
  obtain ⟨ht0, htt⟩ := id hTd
  refine And.intro rfl ?_
  refine And.intro (zDX hd 0 rfl) ⟨_, sn_X_now.up (by decide), ?_⟩
  refine ⟨_, t, p, rfl, hS, hR, hd, (by first | exact (zTd_fr hTd (fun c j h => rfl)) | (clear hQ; grind [xu])), hp, (by omega), (by omega), ?_⟩
  intro v1o p1hv p1bhv2
  refine And.intro ⟨(by omega), (zRb rfl)⟩ ⟨fun h6 => ?_, fun h6 => ?_⟩
  · refine And.intro (Or.inl rfl) ?_
    refine hQ _ (by omega)
  · refine And.intro (zDX hd 0 rfl) ⟨_, sn_X_now.up (by decide), ?_⟩
    refine ⟨_, t, p, rfl, hS, hR, hd, (by first | exact (zTd_fr hTd (fun c j h => rfl)) | (clear hQ; grind [xu])), hp, (by omega), (by omega), ?_⟩
    intro v10o p10hv p10bhv2
    refine And.intro ⟨(by omega), (zRb rfl)⟩ ⟨fun h15 => ?_, fun h15 => ?_⟩
    · refine And.intro (Or.inl rfl) ?_
      refine hQ _ (by omega)
    · refine And.intro (Or.inr rfl) ?_
      refine hQ _ (by omega))
def T_X_who : ZT := fun args I L R S Q => ∃ (k : Nat) (t : List Int) (p : Nat) (u : Int), args = [zvr k] ∧ (zSh S) ∧ (zRs R) ∧ (zDy zT16 zF16 k R S) ∧ (zTd k t I) ∧ (I k 21 = p) ∧ (t.length ≤ 800) ∧ (I k 23 = -1) ∧ (0 ≤ u ∧ u ≤ 99999) ∧ (dAt t p (dNu u)) ∧ (p + (dNu u).length < t.length) ∧ (¬ (48 ≤ wAt t (p + (dNu u).length) ∧ wAt t (p + (dNu u).length) ≤ 57)) ∧ ∀ (v : Int) (I' : ZI), (v = u) → (I' k 21 = (p + (dNu u).length : Nat)) → (∀ c j : Nat, ¬ (c = k ∧ j = 21) → I' c j = I c j) → Q (some (zvl (v))) I' L R S
theorem sn_X_who : ZSnd 3 16 33 T_X_who := ZSnd.loops (zT16_33 2) (by
  rintro args I L R S Q hz ⟨k, t, p, u, rfl, hS, hR, hd, hTd, hp, ht8, hw, hu, hA, hn, hn2, hQ⟩
  have hk5 := hd.1
  obtain ⟨ht0, htt⟩ := id hTd
  obtain ⟨N, hN1, hN5, hNl, hNv, hNd⟩ := dNu_at hu
  refine ⟨[4], fun nM tM lsM stM I1 L1 R1 S1 => match tM with
      | 4 => ∃ (i : Nat) (g : Int), nM = ((20 - i), 0, 0) ∧ lsM = [some (zvr (k)), some (zvl (g)), none, some (zvi (i))] ∧ stM = [] ∧ L1 = L ∧ R1 = R ∧ S1 = S ∧ (i ≤ N) ∧ (g = dPx u N i ∧ 0 ≤ g ∧ g ≤ 99999) ∧ (I1 k 21 = (p + i : Nat)) ∧ (∀ c j : Nat, ¬ (c = k ∧ j = 21) → I1 c j = I c j)
      | _ => False, rfl, ?_, ⟨?_, True.intro⟩⟩
  · refine ⟨((20 - (0 : Nat)), 0, 0), [some (zvr (k)), some (zvl ((0 : Int))), none, some (zvi ((0 : Nat)))], ⟨rfl, rfl, rfl, rfl⟩, 0, 0, rfl, rfl, rfl, rfl, rfl, rfl, (by omega), ⟨(dPx_0 hu.1 hNv).symm, by decide, by decide⟩, (by rw [Nat.add_zero]; exact hp), (fun c j h0 => rfl)⟩
  · rintro nM lsM stM I1 L1 R1 S1 hz1 ⟨i, g, rfl, rfl, rfl, rfl, rfl, rfl, hi, hg, hq21, fr⟩
    have hai := fun h => hA i h
    have hnd := fun h => hNd i h
    have hpx := fun h => dPx_s (v := u) (L := N) (j := i) hu.1 hN5 h
    refine And.intro (zDX hd 0 rfl) (zrd (v := (-1)) ((fr k 23 (by omega)).trans hw) ?_)
    refine And.intro ⟨(zRb rfl), (zRb rfl)⟩ (zbf rfl ?_)
    refine And.intro ⟨(by omega), (zRb rfl)⟩ ⟨(fun h15 => False.elim (by omega)), fun h15 => ?_⟩
    refine And.intro (zDX hd 0 rfl) ⟨_, sn_X_isd.up (by decide), ?_⟩
    refine ⟨_, t, (p + i), rfl, hS, hR, hd, (by first | exact (zTd_fr hTd (fun c j h => ((fr c j (by omega)).trans rfl))) | (clear hQ; grind [xu])), (Eq.trans (b := (((p + i : Nat)) : Int)) hq21 (by omega)), (by omega), (by omega), ?_⟩
    intro v19o p19hv
    refine And.intro (by omega) ⟨fun h22 => ?_, fun h22 => ?_⟩
    · refine And.intro (zDX hd 0 rfl) (zrd (v := (-1)) ((fr k 23 (by omega)).trans hw) ?_)
      refine And.intro ⟨(zRb rfl), (zRb rfl)⟩ (zbf rfl ?_)
      refine And.intro (by omega) ⟨fun h66 => ?_, fun h66 => ?_⟩
      · exact False.elim (by have z2 := hnd (by omega); have z3 := hai (by omega); have z6 := z3.2; rw [z2] at z6; rcases p19hv with y | y; omega; exact y.2 (by omega))
      · refine And.intro (zDX hd 0 rfl) ⟨_, sn_X_isd.up (by decide), ?_⟩
        refine ⟨_, t, (p + i), rfl, hS, hR, hd, (by first | exact (zTd_fr hTd (fun c j h => ((fr c j (by omega)).trans rfl))) | (clear hQ; grind [xu])), (Eq.trans (b := (((p + i : Nat)) : Int)) hq21 (by omega)), (by omega), (by omega), ?_⟩
        intro v70o p70hv
        refine And.intro (by omega) ⟨fun h73 => ?_, fun h73 => ?_⟩
        · refine hQ _ _ ?_ ?_ (fun c j h0 => ((fr c j h0).trans rfl))
          · have e : i = N := (by
              by_cases q : i = N
              · exact q
              · exfalso
                have z2 := hnd (by omega)
                have z3 := hai (by omega)
                have z6 := z3.2
                rw [z2] at z6
                omega)
            subst e
            rw [dPx_L] at hg
            omega
          · have e : i = N := (by
              by_cases q : i = N
              · exact q
              · exfalso
                have z2 := hnd (by omega)
                have z3 := hai (by omega)
                have z6 := z3.2
                rw [z2] at z6
                omega)
            subst e
            rw [hNl]
            exact hq21
        · exact False.elim (by have z := hn2; rcases p70hv with y | y; (by_cases q : i = N; (rw [← hNl] at q; rw [q] at y; exact z y.2); (have z2 := hnd (by omega); have z3 := hai (by omega); have z6 := z3.2; rw [z2] at z6; omega)); omega)
    · have t22 : i + 1 ≤ N := (by by_cases q : i = N; (exfalso; rcases p19hv with z | z; (rw [← hNl] at q; rw [q] at z; exact hn2 z.2); omega); omega)
      have t22b : g * 10 + wAt t (p + i) - 48 = dPx u N (i + 1) ∧ 0 ≤ g * 10 + wAt t (p + i) - 48 ∧ g * 10 + wAt t (p + i) - 48 ≤ 99999 := (by have z1 := hpx (by omega); have z2 := hnd (by omega); have z3 := (hai (by omega)).2; have z4 := dPx_b (L := N) (j := i + 1) hu hN5; rw [z2] at z3; omega)
      refine And.intro (zDX hd 0 rfl) ⟨_, sn_X_now.up (by decide), ?_⟩
      refine ⟨_, t, (p + i), rfl, hS, hR, hd, (by first | exact (zTd_fr hTd (fun c j h => ((fr c j (by omega)).trans rfl))) | (clear hQ; grind [xu])), (Eq.trans (b := (((p + i : Nat)) : Int)) hq21 (by omega)), (by omega), (by omega), ?_⟩
      intro v31o p31hv p31bhv2
      refine And.intro (by omega) ?_
      refine And.intro (zDX hd 0 rfl) (zrd (v := ((p + i : Nat))) hq21 ?_)
      refine And.intro (zDX hd 0 rfl) ⟨_, (zWi (by omega)), ?_⟩
      refine ⟨((20 - (i + 1)), 0, 0), zlt6 (by omega), [some (zvr (k)), some (zvl ((((10 * g) + v31o) - 48))), none, some (zvi ((i + 1)))], ⟨rfl, rfl, rfl, rfl⟩, (i + 1), (((10 * g) + v31o) - 48), rfl, rfl, rfl, rfl, rfl, rfl, (by omega), (by omega), (zxe.trans (by omega)), (fun c j h0 => (zxcj h0 ((fr c j h0).trans rfl)))⟩)
