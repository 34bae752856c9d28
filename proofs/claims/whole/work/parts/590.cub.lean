/-! cub -/
def T_U_twd : ZT := fun args I L R S Q => ∃ (k : Nat) (t : List Int) (p : Nat) (a : Nat) (x : Nat), args = [zvr k, zvr x] ∧ (zSh S) ∧ (zRs R) ∧ (zDy zT1 zF1 k R S) ∧ (k = 106 ∨ k = 118) ∧ (zUd k t I) ∧ (I k 18 = p) ∧ (t.length ≤ 800) ∧ (x = 10 + a ∧ 21 ≤ a ∧ a ≤ 28) ∧ (dAt t p (dWd a)) ∧ ∀ (v : Int) (I' : ZI), (v = 1) → (I' k 18 = (p + (tsb a).length : Nat)) → (∀ c j : Nat, ¬ (c = k ∧ j = 18) → I' c j = I c j) → Q (some (zvi (v))) I' L R S
theorem sn_U_twd : ZSnd 1 1 50 T_U_twd := ZSnd.loops (zT1_50 0) (by
  rintro args I L R S Q hz ⟨k, t, p, a, x, rfl, hS, hR, hD, hk, hP, hp, ht8, hx, hA, hQ⟩
  have hk106 : 106 ≤ k := by omega
  have hk118 : k ≤ 118 := by omega
  have hx2 : x - 10 = a := by omega
  have hxl : ((tsb (x - 10)).length : Int) = ((tsb a).length : Int) := by rw [hx2]
  have hl6 := dWd_n a (by omega) hx.2.1
  have hdl : (dWd a).length = (tsb a).length := wRw_l
  have hp800 : p ≤ 800 := (by have z := (hA 0 (by omega)).1; omega)
  refine ⟨[4], fun nM tM lsM stM I1 L1 R1 S1 => match tM with
      | 4 => ∃ (i : Nat), nM = ((20 - i), 0, 0) ∧ lsM = [some (zvr (k)), some (zvr (x)), some (zvi (1)), some (zvi (i))] ∧ stM = [] ∧ L1 = L ∧ R1 = R ∧ S1 = S ∧ (i ≤ (tsb a).length) ∧ (I1 k 18 = (p + i : Nat)) ∧ (∀ c j : Nat, ¬ (c = k ∧ j = 18) → I1 c j = I c j)
      | _ => False, rfl, ?_, ⟨?_, True.intro⟩⟩
  · refine ⟨((20 - (0 : Nat)), 0, 0), [some (zvr (k)), some (zvr (x)), some (zvi (1)), some (zvi ((0 : Nat)))], ⟨rfl, rfl, (congrArg (fun z => some (zvi z)) rfl), rfl, rfl⟩, 0, rfl, rfl, rfl, rfl, rfl, rfl, (by clear hQ; grind [xu]), (by rw [Nat.add_zero]; exact hp), (fun c j h0 => rfl)⟩
  · rintro nM lsM stM I1 L1 R1 S1 hz1 ⟨i, rfl, rfl, rfl, rfl, rfl, rfl, hi, hq18, fr⟩
    have hxc : (((tsb (x - 10)).getD (i : Int).toNat 0 : Nat) : Int) = tWd a i := by rw [hx2]; rfl
    have hai := fun h => hA i h
    have hww := fun h => wAt_w (a := a) (j := i) h
    refine And.intro ⟨by omega, by omega⟩ ?_
    have c6 := tsb_l (x - 10)
    refine And.intro ⟨(by omega), (by omega)⟩ ⟨fun h9 => ?_, fun h9 => ?_⟩
    · refine And.intro (Or.inr rfl) ?_
      refine hQ _ _ (by omega) (by have e : i = (tsb a).length := (by omega); subst e; exact hq18) (fun c j h0 => ((fr c j h0).trans rfl))
    · have t9 : p + i < t.length := (hai (by omega)).1
      have t9b : (((tsb (x - 10)).getD (i : Int).toNat 0 : Nat) : Int) = tWd a i := hxc
      refine And.intro (zRb rfl) (zbf rfl ?_)
      refine And.intro (zDX hD 0 rfl) (zrd (v := ((p + i : Nat))) hq18 ?_)
      refine And.intro (zDX hD 0 rfl) (fun v21 e21 r21 => ?_)
      have f21 : v21 = t.length := (e21.trans ((fr k 17 (by omega)).trans hP.1))
      refine And.intro ⟨(by omega), r21⟩ ⟨fun h24 => ?_, fun h24 => ?_⟩
      · refine And.intro (zDX hD 0 rfl) (zrd (v := ((p + i : Nat))) hq18 ?_)
        refine And.intro (zDX hD 0 rfl) ⟨_, (zWi (by omega)), ?_⟩
        refine ⟨((20 - (i + 1)), 0, 0), zlt6 (by omega), [some (zvr (k)), some (zvr (x)), some (zvi (1)), some (zvi ((i + 1)))], ⟨rfl, rfl, (congrArg (fun z => some (zvi z)) (by omega)), rfl, rfl⟩, (i + 1), rfl, rfl, rfl, rfl, rfl, rfl, (by first | exact hi | (clear hQ; grind [xu])), (zxe.trans (by omega)), (fun c j h0 => (zxcj h0 ((fr c j h0).trans rfl)))⟩
      · refine And.intro (zDX hD 0 rfl) (zrdR (v := some (k + 11)) (zDR hD 8 rfl) ?_)
        refine And.intro (zDX hD 0 rfl) (zrd (v := ((p + i : Nat))) hq18 ?_)
        refine And.intro (zDP hD 11 rfl rfl (by omega) (by omega)) (fun v35 e35 r35 => ?_)
        have f35 : v35 = tWd a i := (e35.trans ((congrArg (I1 (k + 11)) (by omega)).trans ((fr (k + 11) (p + i) (by omega)).trans ((hP.2 (p + i) (by have z := (hai (by omega)).1; omega)).trans ((hai (by omega)).2.trans (hww (by omega)))))))
        refine And.intro ⟨⟨by omega, by omega⟩, by omega, by omega⟩ ?_
        have c38 := tsb_b (x - 10) (i : Int).toNat
        refine And.intro ⟨r35, (by omega)⟩ ⟨fun h41 => ?_, fun h41 => ?_⟩
        · refine And.intro (zDX hD 0 rfl) (zrd (v := ((p + i : Nat))) hq18 ?_)
          refine And.intro (zDX hD 0 rfl) ⟨_, (zWi (by omega)), ?_⟩
          refine ⟨((20 - (i + 1)), 0, 0), zlt6 (by omega), [some (zvr (k)), some (zvr (x)), some (zvi (1)), some (zvi ((i + 1)))], ⟨rfl, rfl, (congrArg (fun z => some (zvi z)) (by omega)), rfl, rfl⟩, (i + 1), rfl, rfl, rfl, rfl, rfl, rfl, (by first | exact hi | (clear hQ; grind [xu])), (zxe.trans (by omega)), (fun c j h0 => (zxcj h0 ((fr c j h0).trans rfl)))⟩
        · refine And.intro (zDX hD 0 rfl) (zrd (v := ((p + i : Nat))) hq18 ?_)
          refine And.intro (zDX hD 0 rfl) ⟨_, (zWi (by omega)), ?_⟩
          refine ⟨((20 - (i + 1)), 0, 0), zlt6 (by omega), [some (zvr (k)), some (zvr (x)), some (zvi (1)), some (zvi ((i + 1)))], ⟨rfl, rfl, rfl, rfl, rfl⟩, (i + 1), rfl, rfl, rfl, rfl, rfl, rfl, (by first | exact hi | (clear hQ; grind [xu])), (zxe.trans (by omega)), (fun c j h0 => (zxcj h0 ((fr c j h0).trans rfl)))⟩)
def T_U_tnb : ZT := fun args I L R S Q => ∃ (k : Nat) (t : List Int) (p : Nat) (u : Int), args = [zvr k] ∧ (zSh S) ∧ (zRs R) ∧ (zDy zT1 zF1 k R S) ∧ (k = 106 ∨ k = 118) ∧ (zUd k t I) ∧ (I k 18 = p) ∧ (t.length ≤ 800) ∧ (0 ≤ u ∧ u ≤ 99999) ∧ (dAt t p (dNu u)) ∧ (p + (dNu u).length < t.length) ∧ (¬ (48 ≤ wAt t (p + (dNu u).length) ∧ wAt t (p + (dNu u).length) ≤ 57)) ∧ ∀ (v : Int) (I' : ZI), (v = u) → (I' k 18 = (p + (dNu u).length : Nat)) → (∀ c j : Nat, ¬ (c = k ∧ j = 18) → I' c j = I c j) → Q (some (zvi (v))) I' L R S
theorem sn_U_tnb : ZSnd 2 1 49 T_U_tnb := ZSnd.loops (zT1_49 1) (by
  rintro args I L R S Q hz ⟨k, t, p, u, rfl, hS, hR, hD, hk, hP, hp, ht8, hu, hA, hn, hn2, hQ⟩
  have hk106 : 106 ≤ k := by omega
  have hk118 : k ≤ 118 := by omega
  obtain ⟨N, hN1, hN5, hNl, hNv, hNd⟩ := dNu_at hu
  refine ⟨[7], fun nM tM lsM stM I1 L1 R1 S1 => match tM with
      | 7 => ∃ (i : Nat) (g : Int), nM = ((20 - i), 0, 0) ∧ lsM = [some (zvr (k)), some (zvi (p)), some (zvi (g))] ∧ stM = [] ∧ L1 = L ∧ R1 = R ∧ S1 = S ∧ (i ≤ N) ∧ (g = dPx u N i ∧ 0 ≤ g ∧ g ≤ 99999) ∧ (I1 k 18 = (p + i : Nat)) ∧ (∀ c j : Nat, ¬ (c = k ∧ j = 18) → I1 c j = I c j)
      | _ => False, rfl, ?_, ⟨?_, True.intro⟩⟩
  · refine And.intro (zDX hD 0 rfl) (zrd (v := p) hp ?_)
    refine ⟨((20 - (0 : Nat)), 0, 0), [some (zvr (k)), some (zvi (p)), some (zvi ((0 : Int)))], ⟨rfl, rfl, rfl, rfl⟩, 0, 0, rfl, rfl, rfl, rfl, rfl, rfl, (by omega), ⟨(dPx_0 hu.1 hNv).symm, by decide, by decide⟩, (by rw [Nat.add_zero]; exact hp), (fun c j h0 => rfl)⟩
  · rintro nM lsM stM I1 L1 R1 S1 hz1 ⟨i, g, rfl, rfl, rfl, rfl, rfl, rfl, hi, hg, hq18, fr⟩
    have hai := fun h => hA i h
    have hnd := fun h => hNd i h
    have hpx := fun h => dPx_s (v := u) (L := N) (j := i) hu.1 hN5 h
    refine And.intro (zDX hD 0 rfl) (zrd (v := ((p + i : Nat))) hq18 ?_)
    refine And.intro (zDX hD 0 rfl) (fun v12 e12 r12 => ?_)
    have f12 : v12 = t.length := (e12.trans ((fr k 17 (by omega)).trans hP.1))
    refine And.intro ⟨(by omega), r12⟩ ⟨fun h15 => ?_, fun h15 => ?_⟩
    · refine And.intro (zDX hD 0 rfl) (zrd (v := ((p + i : Nat))) hq18 ?_)
      refine And.intro ⟨(by omega), (by omega)⟩ ⟨fun h79 => ?_, fun h79 => ?_⟩
      · refine hQ _ _ ?_ ?_ (fun c j h0 => ((fr c j h0).trans rfl))
        · have e : i = N := (by
            by_cases q : i = N
            · exact q
            · exfalso
              have z2 := hnd (by omega)
              have z3 := hai (by omega)
              have z5 := z3.1
              have z6 := z3.2
              rw [z2] at z6
              omega)
          subst e
          rw [dPx_L] at hg
          omega
        · have e : i = N := (by
            by_cases q : i = N
            · exact q
            · exfalso
              have z2 := hnd (by omega)
              have z3 := hai (by omega)
              have z5 := z3.1
              have z6 := z3.2
              rw [z2] at z6
              omega)
          subst e
          rw [hNl]
          exact hq18
      · refine hQ _ _ ?_ ?_ (fun c j h0 => ((fr c j h0).trans rfl))
        · have e : i = N := (by
            by_cases q : i = N
            · exact q
            · exfalso
              have z2 := hnd (by omega)
              have z3 := hai (by omega)
              have z5 := z3.1
              have z6 := z3.2
              rw [z2] at z6
              omega)
          subst e
          rw [dPx_L] at hg
          omega
        · have e : i = N := (by
            by_cases q : i = N
            · exact q
            · exfalso
              have z2 := hnd (by omega)
              have z3 := hai (by omega)
              have z5 := z3.1
              have z6 := z3.2
              rw [z2] at z6
              omega)
          subst e
          rw [hNl]
          exact hq18
    · refine And.intro (zDX hD 0 rfl) (zrd (v := ((p + i : Nat))) hq18 ?_)
      refine And.intro ⟨(by omega), (by omega)⟩ ⟨fun h25 => ?_, fun h25 => ?_⟩
      · refine And.intro (zDX hD 0 rfl) (zrd (v := ((p + i : Nat))) hq18 ?_)
        refine And.intro ⟨(by omega), (by omega)⟩ ⟨fun h79 => ?_, (fun h79 => False.elim (by omega))⟩
        refine hQ _ _ ?_ ?_ (fun c j h0 => ((fr c j h0).trans rfl))
        · have e : i = N := (by
            by_cases q : i = N
            · exact q
            · exfalso
              have z2 := hnd (by omega)
              have z3 := hai (by omega)
              have z5 := z3.1
              have z6 := z3.2
              rw [z2] at z6
              omega)
          subst e
          rw [dPx_L] at hg
          omega
        · have e : i = N := (by
            by_cases q : i = N
            · exact q
            · exfalso
              have z2 := hnd (by omega)
              have z3 := hai (by omega)
              have z5 := z3.1
              have z6 := z3.2
              rw [z2] at z6
              omega)
          subst e
          rw [hNl]
          exact hq18
      · refine And.intro (zDX hD 0 rfl) (zrdR (v := some (k + 11)) (zDR hD 8 rfl) ?_)
        refine And.intro (zDX hD 0 rfl) (zrd (v := ((p + i : Nat))) hq18 ?_)
        refine And.intro (zDP hD 11 rfl rfl (by omega) (by omega)) (fun v36 e36 r36 => ?_)
        have f36 : v36 = wAt t (p + i) := (e36.trans ((congrArg (I1 (k + 11)) (by omega)).trans ((fr (k + 11) (p + i) (by omega)).trans (hP.2 (p + i) (by omega)))))
        refine Exists.intro _ (And.intro (zinl_ok (zT1_29 0)) (And.intro rfl ?_))
        refine And.intro ⟨r36, (zRb rfl)⟩ ⟨fun h3_37 => ?_, fun h3_37 => ?_⟩
        · refine And.intro (Or.inl rfl) ?_
          refine And.intro (zRb rfl) (zbt rfl ?_)
          refine And.intro (zDX hD 0 rfl) (zrd (v := ((p + i : Nat))) hq18 ?_)
          refine And.intro ⟨(by omega), (by omega)⟩ ⟨fun h79 => ?_, fun h79 => ?_⟩
          · refine hQ _ _ ?_ ?_ (fun c j h0 => ((fr c j h0).trans rfl))
            · have e : i = N := (by
                by_cases q : i = N
                · exact q
                · exfalso
                  have z2 := hnd (by omega)
                  have z3 := hai (by omega)
                  have z5 := z3.1
                  have z6 := z3.2
                  rw [z2] at z6
                  omega)
              subst e
              rw [dPx_L] at hg
              omega
            · have e : i = N := (by
                by_cases q : i = N
                · exact q
                · exfalso
                  have z2 := hnd (by omega)
                  have z3 := hai (by omega)
                  have z5 := z3.1
                  have z6 := z3.2
                  rw [z2] at z6
                  omega)
              subst e
              rw [hNl]
              exact hq18
          · refine hQ _ _ ?_ ?_ (fun c j h0 => ((fr c j h0).trans rfl))
            · have e : i = N := (by
                by_cases q : i = N
                · exact q
                · exfalso
                  have z2 := hnd (by omega)
                  have z3 := hai (by omega)
                  have z5 := z3.1
                  have z6 := z3.2
                  rw [z2] at z6
                  omega)
              subst e
              rw [dPx_L] at hg
              omega
            · have e : i = N := (by
                by_cases q : i = N
                · exact q
                · exfalso
                  have z2 := hnd (by omega)
                  have z3 := hai (by omega)
                  have z5 := z3.1
                  have z6 := z3.2
                  rw [z2] at z6
                  omega)
              subst e
              rw [hNl]
              exact hq18
        · refine And.intro ⟨r36, (zRb rfl)⟩ ⟨fun h9_37 => ?_, fun h9_37 => ?_⟩
          · refine And.intro (Or.inl rfl) ?_
            refine And.intro (zRb rfl) (zbt rfl ?_)
            refine And.intro (zDX hD 0 rfl) (zrd (v := ((p + i : Nat))) hq18 ?_)
            refine And.intro ⟨(by omega), (by omega)⟩ ⟨fun h79 => ?_, fun h79 => ?_⟩
            · refine hQ _ _ ?_ ?_ (fun c j h0 => ((fr c j h0).trans rfl))
              · have e : i = N := (by
                  by_cases q : i = N
                  · exact q
                  · exfalso
                    have z2 := hnd (by omega)
                    have z3 := hai (by omega)
                    have z5 := z3.1
                    have z6 := z3.2
                    rw [z2] at z6
                    omega)
                subst e
                rw [dPx_L] at hg
                omega
              · have e : i = N := (by
                  by_cases q : i = N
                  · exact q
                  · exfalso
                    have z2 := hnd (by omega)
                    have z3 := hai (by omega)
                    have z5 := z3.1
                    have z6 := z3.2
                    rw [z2] at z6
                    omega)
                subst e
                rw [hNl]
                exact hq18
            · refine hQ _ _ ?_ ?_ (fun c j h0 => ((fr c j h0).trans rfl))
              · have e : i = N := (by
                  by_cases q : i = N
                  · exact q
                  · exfalso
                    have z2 := hnd (by omega)
                    have z3 := hai (by omega)
                    have z5 := z3.1
                    have z6 := z3.2
                    rw [z2] at z6
                    omega)
                subst e
                rw [dPx_L] at hg
                omega
              · have e : i = N := (by
                  by_cases q : i = N
                  · exact q
                  · exfalso
                    have z2 := hnd (by omega)
                    have z3 := hai (by omega)
                    have z5 := z3.1
                    have z6 := z3.2
                    rw [z2] at z6
                    omega)
                subst e
                rw [hNl]
                exact hq18
          · refine And.intro (Or.inr rfl) ?_
            refine And.intro (zRb rfl) (zbf rfl ?_)
            refine And.intro (zDX hD 0 rfl) (zrdR (v := some (k + 11)) (zDR hD 8 rfl) ?_)
            refine And.intro (zDX hD 0 rfl) (zrd (v := ((p + i : Nat))) hq18 ?_)
            refine And.intro (zDP hD 11 rfl rfl (by omega) (by omega)) (fun v55 e55 r55 => ?_)
            have f55 : v55 = wAt t (p + i) := (e55.trans ((congrArg (I1 (k + 11)) (by omega)).trans ((fr (k + 11) (p + i) (by omega)).trans (hP.2 (p + i) (by omega)))))
            refine And.intro (zDX hD 0 rfl) (zrd (v := ((p + i : Nat))) hq18 ?_)
            refine And.intro (zDX hD 0 rfl) ⟨_, (zWi (by omega)), ?_⟩
            refine ⟨((20 - (i + 1)), 0, 0), zlt6 (by omega), [some (zvr (k)), some (zvi (p)), some (zvi ((((g * 10) + v55) - 48)))], ⟨rfl, rfl, rfl, rfl⟩, (i + 1), (((g * 10) + v55) - 48), rfl, rfl, rfl, rfl, rfl, rfl, (by by_cases q : i = N; (exfalso; rw [← hNl] at q; rw [q] at f36; exact hn2 (by omega)); omega), ?_, (zxe.trans (by omega)), (fun c j h0 => (zxcj h0 ((fr c j h0).trans rfl)))⟩
            · have hlt : i < N := (by by_cases q : i = N; (exfalso; rw [← hNl] at q; rw [q] at f36; exact hn2 (by omega)); omega)
              have z1 := hpx hlt
              have z2 := hnd hlt
              have z3 := (hai (by omega)).2
              have z4 := dPx_b (L := N) (j := i + 1) hu hN5
              rw [z2] at z3
              omega)
def T_U_rbk : ZT := fun args I L R S Q => ∃ (k : Nat) (w : List CuR) (l : Int), args = [zvr k, zvi l] ∧ (zSh S) ∧ (zRs R) ∧ (zDy zT1 zF1 k R S) ∧ (k = 106 ∨ k = 118) ∧ (w.length ≤ 60) ∧ (cuG w) ∧ (zUh k w I) ∧ (zUo k w I) ∧ (r32 l) ∧ (cuHc w ≤ 20) ∧ ∀ (v : Int) (I' : ZI), (v = if 0 ≤ l ∧ l ≤ 6 then 1 else -1) → (∀ c j : Nat, ¬ (c = k ∧ j = 17) → ¬ (c = k ∧ j = 18) → ¬ c = k + 11 → I' c j = I c j) → Q (some (zvi (v))) I' L R S
theorem sn_U_rbk : ZSnd 4 1 47 T_U_rbk := ZSnd.loops (zT1_47 3) (by
  rintro args I L R S Q hz ⟨k, w, l, rfl, hS, hR, hD, hk, hl, hG, hUh, hUo, hr, h20, hQ⟩
  have hk106 : 106 ≤ k := by omega
  have hk118 : k ≤ 118 := by omega
  have hc60 := cuHc_l hl
  obtain ⟨hHc, hHv⟩ := id hUh
  obtain ⟨l21, l22, l23, l24, l25, l26, l27, l28⟩ := dWd_l
  have m21 : (tsb 21).length = 5 := rfl
  have m22 : (tsb 22).length = 1 := rfl
  have m23 : (tsb 23).length = 11 := rfl
  have m24 : (tsb 24).length = 3 := rfl
  have m25 : (tsb 25).length = 1 := rfl
  have m26 : (tsb 26).length = 1 := rfl
  have m27 : (tsb 27).length = 1 := rfl
  have m28 : (tsb 28).length = 4 := rfl
  obtain ⟨⟨d1, d2, d3, d4, d5⟩, d6⟩ := dTx_h (w := w) (l := l)
  have h800 := dTx_8 (l := l) h20
  have hte := dTx_e (w := w) (l := l)
  have hzc := zct_le (dIs w l) (cuHc w)
  have dps0 : dPs w l 0 = (dHd w l).length := rfl
  refine ⟨[106], fun nM tM lsM stM I1 L1 R1 S1 => match tM with
      | 106 => ∃ (n : Nat), nM = ((61 - n), 0, 0) ∧ lsM = [some (zvr (k)), some (zvi (l)), some (zvi (1)), some (zvi (n))] ∧ stM = [] ∧ L1 = L ∧ R1 = R ∧ S1 = S ∧ (n ≤ cuHc w) ∧ (0 ≤ l ∧ l ≤ 6) ∧ (zUd k (dTx w l) I1) ∧ (I1 k 18 = dPs w l n) ∧ (∀ c j : Nat, ¬ (c = k ∧ j = 17) → ¬ (c = k ∧ j = 18) → ¬ c = k + 11 → I1 c j = I c j)
      | _ => False, rfl, ?_, ⟨?_, True.intro⟩⟩
  · refine And.intro (by omega) ⟨fun h1 => ?_, fun h1 => ?_⟩
    · refine hQ _ _ (by first | rw [if_neg (by omega)] | rw [if_pos (by omega)]) (fun c j h0 h1 h2 => rfl)
    · refine And.intro ⟨(by omega), (zRb rfl)⟩ ⟨fun h7 => ?_, fun h7 => ?_⟩
      · refine And.intro (zDX hD 0 rfl) ⟨_, sn_U_wdr.up (by decide), ?_⟩
        refine ⟨_, w, (l : Int), rfl, hS, hR, hD, (by first | exact hk | (clear hQ; grind [xu])), (by omega), (by first | exact hG | (clear hQ; grind [xu])), (by first | exact (zUh_fr hUh (fun c j h => rfl)) | (clear hQ; grind [xu])), (by first | exact (zUo_fr hUo (fun c j h => rfl)) | (clear hQ; grind [xu])), (by omega), (by omega), ?_⟩
        intro I14o p14hP2 p14bfr
        refine And.intro (zDX hD 0 rfl) ⟨_, (zWi (zRb rfl)), ?_⟩
        refine And.intro (zDX hD 0 rfl) ⟨_, sn_U_twd.up (by decide), ?_⟩
        refine ⟨_, (dTx w l), 0, 21, _, rfl, hS, hR, hD, (by first | exact hk | (clear hQ; grind [xu])), (zUd_fr p14hP2 (fun c j h => zxcj (by omega) rfl)), zxe, h800, (by omega), d1, ?_⟩
        intro v26o I26o p26hv p26bhp2 p26bbfr
        have g26 : zUd k (dTx w l) I26o := (zUd_fr (zUd_fr p14hP2 (fun c j h => zxcj (by omega) rfl)) (fun c j h => p26bbfr c j (by omega)))
        refine And.intro (by omega) ⟨(fun h29 => False.elim (by omega)), fun h29 => ?_⟩
        refine And.intro (zDX hD 0 rfl) ⟨_, sn_U_tnb.up (by decide), ?_⟩
        refine ⟨_, (dTx w l), 5, l, rfl, hS, hR, hD, (by first | exact hk | (clear hQ; grind [xu])), g26, p26bhp2, h800, (by omega), d2, (dAt_1 d3 (by decide)).1, (fun q => by have z := (dAt_1 d3 (by decide)).2; have z2 : tWd 22 0 = 44 := (by decide); omega), ?_⟩
        intro v33o I33o p33hv p33bhp2 p33bbfr
        have g33 : zUd k (dTx w l) I33o := (zUd_fr g26 (fun c j h => p33bbfr c j (by omega)))
        refine And.intro ⟨(by omega), (by omega)⟩ ⟨(fun h37 => False.elim (by omega)), fun h37 => ?_⟩
        refine And.intro (zDX hD 0 rfl) ⟨_, sn_U_twd.up (by decide), ?_⟩
        refine ⟨_, (dTx w l), (5 + (dNu l).length), 22, _, rfl, hS, hR, hD, (by first | exact hk | (clear hQ; grind [xu])), g33, p33bhp2, h800, (by omega), d3, ?_⟩
        intro v44o I44o p44hv p44bhp2 p44bbfr
        have g44 : zUd k (dTx w l) I44o := (zUd_fr g33 (fun c j h => p44bbfr c j (by omega)))
        refine And.intro (by omega) ⟨(fun h47 => False.elim (by omega)), fun h47 => ?_⟩
        refine And.intro (zDX hD 0 rfl) ⟨_, sn_U_tnb.up (by decide), ?_⟩
        refine ⟨_, (dTx w l), ((5 + (dNu l).length) + 1), (l + 1), rfl, hS, hR, hD, (by first | exact hk | (clear hQ; grind [xu])), g44, p44bhp2, h800, (by omega), d4, (dAt_1 d5 (by decide)).1, (fun q => by have z := (dAt_1 d5 (by decide)).2; have z2 : tWd 23 0 = 10 := (by decide); omega), ?_⟩
        intro v51o I51o p51hv p51bhp2 p51bbfr
        have g51 : zUd k (dTx w l) I51o := (zUd_fr g44 (fun c j h => p51bbfr c j (by omega)))
        refine And.intro ⟨(by omega), (by omega)⟩ ⟨(fun h57 => False.elim (by omega)), fun h57 => ?_⟩
        refine And.intro (zDX hD 0 rfl) ⟨_, sn_U_twd.up (by decide), ?_⟩
        refine ⟨_, (dTx w l), ((5 + (dNu l).length) + 1 + (dNu (l + 1)).length), 23, _, rfl, hS, hR, hD, (by first | exact hk | (clear hQ; grind [xu])), g51, p51bhp2, h800, (by omega), d5, ?_⟩
        intro v64o I64o p64hv p64bhp2 p64bbfr
        have g64 : zUd k (dTx w l) I64o := (zUd_fr g51 (fun c j h => p64bbfr c j (by omega)))
        refine And.intro (by omega) ⟨(fun h67 => False.elim (by omega)), fun h67 => ?_⟩
        refine And.intro (zDX hD 0 rfl) ⟨_, sn_U_cho.up (by decide), ?_⟩
        refine ⟨_, w, (l : Int), rfl, hS, hR, hD, (by first | exact hk | (clear hQ; grind [xu])), (by omega), (by first | exact hG | (clear hQ; grind [xu])), (by first | exact (zUh_fr hUh (fun c j h => ((p64bbfr c j (by omega)).trans ((p51bbfr c j (by omega)).trans ((p44bbfr c j (by omega)).trans ((p33bbfr c j (by omega)).trans ((p26bbfr c j (by omega)).trans (zxcj (by omega) ((p14bfr c j (by omega) (by omega)).trans rfl))))))))) | (clear hQ; grind [xu])), (by first | exact (zUo_fr hUo (fun c j h => ((p64bbfr c j (by omega)).trans ((p51bbfr c j (by omega)).trans ((p44bbfr c j (by omega)).trans ((p33bbfr c j (by omega)).trans ((p26bbfr c j (by omega)).trans (zxcj (by omega) ((p14bfr c j (by omega) (by omega)).trans rfl))))))))) | (clear hQ; grind [xu])), (by omega), ?_⟩
        intro v78o p78hv
        refine And.intro (by omega) ⟨fun h81 => ?_, fun h81 => ?_⟩
        · refine ⟨((61 - (0 : Nat)), 0, 0), [some (zvr (k)), some (zvi (l)), some (zvi (1)), some (zvi ((0 : Nat)))], ⟨rfl, rfl, rfl, rfl, rfl⟩, 0, rfl, rfl, rfl, rfl, rfl, rfl, (by omega), (by omega), (by first | exact g92 | exact g64), ?_, (fun c j h0 h1 h2 => ((p64bbfr c j h1).trans ((p51bbfr c j h1).trans ((p44bbfr c j h1).trans ((p33bbfr c j h1).trans ((p26bbfr c j h1).trans (zxcj h1 ((p14bfr c j h0 h2).trans rfl))))))))⟩
          · rcases d6 with z | z
            · first
              | (exfalso; omega)
              | (rw [dps0, z.2]; exact p64bhp2)
            · first
              | (exfalso; omega)
              | (rw [dps0, z.2.1]; exact p92bhp2)
        · refine And.intro (zRb rfl) (zbf rfl ?_)
          refine And.intro (zDX hD 0 rfl) ⟨_, sn_U_twd.up (by decide), ?_⟩
          refine ⟨_, (dTx w l), (((5 + (dNu l).length) + 1 + (dNu (l + 1)).length) + 11), 24, _, rfl, hS, hR, hD, (by first | exact hk | (clear hQ; grind [xu])), g64, p64bhp2, h800, (by omega), (by rcases d6 with z | z; omega; exact z.2.2), ?_⟩
          intro v92o I92o p92hv p92bhp2 p92bbfr
          have g92 : zUd k (dTx w l) I92o := (zUd_fr g64 (fun c j h => p92bbfr c j (by omega)))
          refine And.intro (by omega) ⟨(fun h95 => False.elim (by omega)), fun h95 => ?_⟩
          refine ⟨((61 - (0 : Nat)), 0, 0), [some (zvr (k)), some (zvi (l)), some (zvi (1)), some (zvi ((0 : Nat)))], ⟨rfl, rfl, rfl, rfl, rfl⟩, 0, rfl, rfl, rfl, rfl, rfl, rfl, (by omega), (by omega), (by first | exact g92 | exact g64), ?_, (fun c j h0 h1 h2 => ((p92bbfr c j h1).trans ((p64bbfr c j h1).trans ((p51bbfr c j h1).trans ((p44bbfr c j h1).trans ((p33bbfr c j h1).trans ((p26bbfr c j h1).trans (zxcj h1 ((p14bfr c j h0 h2).trans rfl)))))))))⟩
          · rcases d6 with z | z
            · first
              | (exfalso; omega)
              | (rw [dps0, z.2]; exact p64bhp2)
            · first
              | (exfalso; omega)
              | (rw [dps0, z.2.1]; exact p92bhp2)
      · refine hQ _ _ (by first | rw [if_neg (by omega)] | rw [if_pos (by omega)]) (fun c j h0 h1 h2 => rfl)
  · rintro nM lsM stM I1 L1 R1 S1 hz1 ⟨n, rfl, rfl, rfl, rfl, rfl, rfl, hn, hl06, hP1, hq18, fr⟩
    refine And.intro (zDX hD 0 rfl) (zrd (v := (cuHc w)) ((fr k 13 (by omega) (by omega) (by omega)).trans hHc) ?_)
    refine And.intro ⟨(by omega), (by omega)⟩ ⟨fun h111 => ?_, fun h111 => ?_⟩
    · refine And.intro (zRb rfl) (zbf rfl ?_)
      refine And.intro (zDX hD 0 rfl) ⟨_, sn_U_twd.up (by decide), ?_⟩
      refine ⟨_, (dTx w l), (dPs w l (cuHc w)), 28, _, rfl, hS, hR, hD, (by first | exact hk | (clear hQ; grind [xu])), hP1, (by have e : n = cuHc w := (by omega); subst e; exact hq18), h800, (by omega), hte.1, ?_⟩
      intro v201o I201o p201hv p201bhp2 p201bbfr
      refine And.intro (by omega) ⟨(fun h204 => False.elim (by omega)), fun h204 => ?_⟩
      refine And.intro (zDX hD 0 rfl) (zrd (v := (((dPs w l (cuHc w)) + (tsb 28).length : Nat))) p201bhp2 ?_)
      refine And.intro (zDX hD 0 rfl) (fun v212 e212 r212 => ?_)
      have f212 : v212 = (dTx w l).length := (e212.trans ((p201bbfr k 17 (by omega)).trans hP1.1))
      refine And.intro ⟨(by omega), r212⟩ ⟨fun h215 => ?_, fun h215 => ?_⟩
      · exact False.elim (by have z := hte.2; omega)
      · refine hQ _ _ (by first | rw [if_neg (by omega)] | rw [if_pos (by omega)]) (fun c j h0 h1 h2 => ((p201bbfr c j h1).trans ((fr c j h0 h1 h2).trans rfl)))
    · have t111 : n + 1 ≤ cuHc w := (by omega)
      refine And.intro (zRb rfl) (zbf rfl ?_)
      refine And.intro (zDX hD 0 rfl) ⟨_, sn_U_iho.up (by decide), ?_⟩
      refine ⟨_, w, (n : Int), n, (l : Int), rfl, hS, hR, hD, (by first | exact hk | (clear hQ; grind [xu])), (by omega), (by first | exact hG | (clear hQ; grind [xu])), (by first | exact (zUh_fr hUh (fun c j h => ((fr c j (by omega) (by omega) (by omega)).trans rfl))) | (clear hQ; grind [xu])), (by first | exact (zUo_fr hUo (fun c j h => ((fr c j (by omega) (by omega) (by omega)).trans rfl))) | (clear hQ; grind [xu])), (by omega), (by omega), ?_⟩
      intro v121o p121hv
      refine And.intro (by omega) ⟨fun h124 => ?_, fun h124 => ?_⟩
      · have t124 : ¬ dIs w l n := (by rcases p121hv with z | z; omega; exact z.2)
        refine ⟨((61 - (n + 1)), 0, 0), zlt6 (by omega), [some (zvr (k)), some (zvi (l)), some (zvi (1)), some (zvi ((n + 1)))], ⟨rfl, rfl, rfl, rfl, rfl⟩, (n + 1), rfl, rfl, rfl, rfl, rfl, rfl, (by omega), (by omega), (by first | exact g175 | exact hP1), ?_, (fun c j h0 h1 h2 => ((fr c j h0 h1 h2).trans rfl))⟩
        · first
          | (rw [t124b.2]; exact p175bhp2)
          | (rw [dPs_s, dHl_n t124]; exact hq18)
      · have t124 : dIs w l n := (by rcases p121hv with z | z; exact z.2; omega)
        have t124b : (dAt (dTx w l) (dPs w l n) (dWd 25) ∧ dAt (dTx w l) (dPs w l n + 1) (dNu (dHx w n)) ∧ dAt (dTx w l) (dPs w l n + 1 + (dNu (dHx w n)).length) (dWd 26) ∧ dAt (dTx w l) ((dPs w l n + 1 + (dNu (dHx w n)).length) + 1) (dNu (dHy w n)) ∧ dAt (dTx w l) ((dPs w l n + 1 + (dNu (dHx w n)).length) + 1 + (dNu (dHy w n)).length) (dWd 27)) ∧ dPs w l (n + 1) = ((dPs w l n + 1 + (dNu (dHx w n)).length) + 1 + (dNu (dHy w n)).length) + 1 := (dTx_n (by omega) t124)
        have t124bb : (0 ≤ dHx w n ∧ dHx w n ≤ 99999) ∧ 0 ≤ dHy w n ∧ dHy w n ≤ 99999 := (by have z := cuOr_b (w := w) (i := n) (by omega); have z2 := cuHv_b hG (show (cuOr w n).toNat < cuHc w by omega); unfold dHx dHy; omega)
        refine And.intro (zDX hD 0 rfl) ⟨_, sn_U_twd.up (by decide), ?_⟩
        refine ⟨_, (dTx w l), (dPs w l n), 25, _, rfl, hS, hR, hD, (by first | exact hk | (clear hQ; grind [xu])), hP1, hq18, h800, (by omega), t124b.1.1, ?_⟩
        intro v131o I131o p131hv p131bhp2 p131bbfr
        have g131 : zUd k (dTx w l) I131o := (zUd_fr hP1 (fun c j h => p131bbfr c j (by omega)))
        refine And.intro (by omega) ⟨(fun h134 => False.elim (by omega)), fun h134 => ?_⟩
        refine And.intro (zDX hD 0 rfl) ⟨_, sn_U_tnb.up (by decide), ?_⟩
        refine ⟨_, (dTx w l), (dPs w l n + 1), (dHx w n), rfl, hS, hR, hD, (by first | exact hk | (clear hQ; grind [xu])), g131, p131bhp2, h800, t124bb.1, t124b.1.2.1, (dAt_1 t124b.1.2.2.1 (by decide)).1, (fun q => by have z := (dAt_1 t124b.1.2.2.1 (by decide)).2; have z2 : tWd 26 0 = 89 := (by decide); omega), ?_⟩
        intro v138o I138o p138hv p138bhp2 p138bbfr
        have g138 : zUd k (dTx w l) I138o := (zUd_fr g131 (fun c j h => p138bbfr c j (by omega)))
        refine And.intro (zDX hD 0 rfl) ⟨_, sn_U_hx.up (by decide), ?_⟩
        refine ⟨_, w, (n : Int), n, rfl, hS, hR, hD, (by first | exact hk | (clear hQ; grind [xu])), (by omega), (by first | exact hG | (clear hQ; grind [xu])), (by first | exact (zUh_fr hUh (fun c j h => ((p138bbfr c j (by omega)).trans ((p131bbfr c j (by omega)).trans ((fr c j (by omega) (by omega) (by omega)).trans rfl))))) | (clear hQ; grind [xu])), (by first | exact (zUo_fr hUo (fun c j h => ((p138bbfr c j (by omega)).trans ((p131bbfr c j (by omega)).trans ((fr c j (by omega) (by omega) (by omega)).trans rfl))))) | (clear hQ; grind [xu])), (by omega), ?_⟩
        intro v143o p143hv p143bhv2
        have g143 : v138o = v143o := (p138hv.trans p143hv.symm)
        refine And.intro ⟨(by omega), (by omega)⟩ ⟨(fun h146 => False.elim (by omega)), fun h146 => ?_⟩
        refine And.intro (zDX hD 0 rfl) ⟨_, sn_U_twd.up (by decide), ?_⟩
        refine ⟨_, (dTx w l), (dPs w l n + 1 + (dNu (dHx w n)).length), 26, _, rfl, hS, hR, hD, (by first | exact hk | (clear hQ; grind [xu])), g138, p138bhp2, h800, (by omega), t124b.1.2.2.1, ?_⟩
        intro v153o I153o p153hv p153bhp2 p153bbfr
        have g153 : zUd k (dTx w l) I153o := (zUd_fr g138 (fun c j h => p153bbfr c j (by omega)))
        refine And.intro (by omega) ⟨(fun h156 => False.elim (by omega)), fun h156 => ?_⟩
        refine And.intro (zDX hD 0 rfl) ⟨_, sn_U_tnb.up (by decide), ?_⟩
        refine ⟨_, (dTx w l), ((dPs w l n + 1 + (dNu (dHx w n)).length) + 1), (dHy w n), rfl, hS, hR, hD, (by first | exact hk | (clear hQ; grind [xu])), g153, p153bhp2, h800, t124bb.2, t124b.1.2.2.2.1, (dAt_1 t124b.1.2.2.2.2 (by decide)).1, (fun q => by have z := (dAt_1 t124b.1.2.2.2.2 (by decide)).2; have z2 : tWd 27 0 = 10 := (by decide); omega), ?_⟩
        intro v160o I160o p160hv p160bhp2 p160bbfr
        have g160 : zUd k (dTx w l) I160o := (zUd_fr g153 (fun c j h => p160bbfr c j (by omega)))
        refine And.intro (zDX hD 0 rfl) ⟨_, sn_U_hy.up (by decide), ?_⟩
        refine ⟨_, w, (n : Int), n, rfl, hS, hR, hD, (by first | exact hk | (clear hQ; grind [xu])), (by omega), (by first | exact hG | (clear hQ; grind [xu])), (by first | exact (zUh_fr hUh (fun c j h => ((p160bbfr c j (by omega)).trans ((p153bbfr c j (by omega)).trans ((p138bbfr c j (by omega)).trans ((p131bbfr c j (by omega)).trans ((fr c j (by omega) (by omega) (by omega)).trans rfl))))))) | (clear hQ; grind [xu])), (by first | exact (zUo_fr hUo (fun c j h => ((p160bbfr c j (by omega)).trans ((p153bbfr c j (by omega)).trans ((p138bbfr c j (by omega)).trans ((p131bbfr c j (by omega)).trans ((fr c j (by omega) (by omega) (by omega)).trans rfl))))))) | (clear hQ; grind [xu])), (by omega), ?_⟩
        intro v165o p165hv p165bhv2
        have g165 : v160o = v165o := (p160hv.trans p165hv.symm)
        refine And.intro ⟨(by omega), (by omega)⟩ ⟨(fun h168 => False.elim (by omega)), fun h168 => ?_⟩
        refine And.intro (zDX hD 0 rfl) ⟨_, sn_U_twd.up (by decide), ?_⟩
        refine ⟨_, (dTx w l), ((dPs w l n + 1 + (dNu (dHx w n)).length) + 1 + (dNu (dHy w n)).length), 27, _, rfl, hS, hR, hD, (by first | exact hk | (clear hQ; grind [xu])), g160, p160bhp2, h800, (by omega), t124b.1.2.2.2.2, ?_⟩
        intro v175o I175o p175hv p175bhp2 p175bbfr
        have g175 : zUd k (dTx w l) I175o := (zUd_fr g160 (fun c j h => p175bbfr c j (by omega)))
        refine And.intro (by omega) ⟨(fun h178 => False.elim (by omega)), fun h178 => ?_⟩
        refine ⟨((61 - (n + 1)), 0, 0), zlt6 (by omega), [some (zvr (k)), some (zvi (l)), some (zvi (1)), some (zvi ((n + 1)))], ⟨rfl, rfl, rfl, rfl, rfl⟩, (n + 1), rfl, rfl, rfl, rfl, rfl, rfl, (by omega), (by omega), (by first | exact g175 | exact hP1), ?_, (fun c j h0 h1 h2 => ((p175bbfr c j h1).trans ((p160bbfr c j h1).trans ((p153bbfr c j h1).trans ((p138bbfr c j h1).trans ((p131bbfr c j h1).trans ((fr c j h0 h1 h2).trans rfl)))))))⟩
        · first
          | (rw [t124b.2]; exact p175bhp2)
          | (rw [dPs_s, dHl_n t124]; exact hq18))
