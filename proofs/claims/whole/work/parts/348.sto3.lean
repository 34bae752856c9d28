/-! sto3 -/
def T_A_sweep : ZT := fun args I L R S Q => ∃ (g : Nat → Int) (m : Nat) (s : StS) (z : Nat) (cr : Nat) (cn : Nat), args = [zvr 145] ∧ (zSh S) ∧ (zRs R) ∧ (zCL g m s z cr cn I) ∧ ∀ (v : Int) (I' : ZI), (v = stWv s z cr) → (if cr = 0 ∧ z < 400 then zCL (lg2 g z 5 (-1)) (m + 1) (stSwp s) (z + 1) cr cn I' else zCL g m s z cr cn I') → (∀ c j : Nat, ¬ c = 146 → ¬ c = 149 → ¬ (c = 145 ∧ j = 1) → I' c j = I c j) → Q (some (zvi (v))) I' L R S
theorem sn_A_sweep : ZSnd 3 10 21 T_A_sweep := ZSnd.of (zT10_21 2) (by
  rintro args I L R S Q hz ⟨g, m, s, z, cr, cn, rfl, hS, hR, hCL, hQ⟩
  obtain ⟨hzl, hcr, hcn, hlg, ⟨hc1, hc16, hsm, hLg⟩, h6⟩ := id hCL
  have hz40 := hLg.2.2.1
  refine And.intro rfl ?_
  refine And.intro (zA_145 hS) (zrd (v := cr) hcr ?_)
  refine And.intro (by omega) ⟨fun h4 => ?_, fun h4 => ?_⟩
  · refine And.intro (zA_145 hS) (zrd (v := z) hzl ?_)
    refine And.intro ⟨(by omega), (zRb rfl)⟩ ⟨fun h19 => ?_, fun h19 => ?_⟩
    · have t19 : cr = 0 := by omega
      refine And.intro (zA_145 hS) (Exists.intro _ (And.intro (zinl_ok (zT10_1 1)) (And.intro rfl ?_)))
      refine And.intro (zA_145 hS) (zrd (v := z) hzl ?_)
      refine And.intro ⟨(by omega), (zRb rfl)⟩ ⟨(fun h7_26 => False.elim (by omega)), fun h7_26 => ?_⟩
      refine And.intro (zA_145 hS) (zrdR (v := some 146) (zR_145_0 hR) ?_)
      refine And.intro (zA_145 hS) (zrd (v := z) hzl ?_)
      refine And.intro ⟨(zx0 rfl), (zP_146 hS (by omega) (by omega))⟩ ⟨_, (zWi (zRb rfl)), ?_⟩
      refine And.intro (zA_145 hS) (zrd (v := z) hzl ?_)
      refine And.intro (zA_145 hS) ⟨_, (zWi (by omega)), ?_⟩
      refine And.intro (zA_145 hS) ⟨_, sn_A_swp.up (by decide), ?_⟩
      refine ⟨_, _, rfl, hS, hR, (show stG z s from by have w := (stN_G hLg.1).1; rw [← hsm, (h6 (by omega)).1] at w; exact w), (zCS_fr (h6 (by omega)).2.1 (fun c j h => zxcj (by omega) (zxcj (by omega) rfl))), ?_⟩
      intro v30o I30o p30hST2 p30bhv p30bbfr
      refine hQ _ _ ?_ ?_ (fun c j h0 h1 h2 => ((p30bbfr c j (by omega)).trans (zxcj h2 (zxu h0 rfl))))
      · unfold stWv
        first
        | rw [if_pos (by omega)]
        | rw [if_neg (by omega), if_pos (by omega)]
        | (rw [if_neg (by omega), if_neg (by omega)]
           exact p30bhv)
      · first
        | (rw [if_neg (by omega)]
           exact hCL)
        | (rw [if_pos (by omega)]
           obtain rfl : cr = 0 := by omega
           have hST := (h6 rfl).2.1
           have e5 : lg2 g z 5 (-1) z = 5 := lg2_at
           have eS : stSz (lg2 g z 5 (-1)) z = 1 := stSz_3 (Or.inr e5)
           have eA : stAct (lg2 g z 5 (-1)) z s = stSwp s := stAct_5 e5
           have w := zCL_add (g' := lg2 g z 5 (-1)) (z2 := z + 1) (I' := I30o) hCL lg2_lo ⟨by rw [eS]; omega, Or.inr (Or.inr (Or.inr (Or.inr e5)))⟩ (by rw [eS]) (p30bbfr 145 1 (by omega)) ((p30bbfr 145 10 (by omega)).trans rfl) ((p30bbfr 145 11 (by omega)).trans rfl) (fun j hj => (p30bbfr 146 j (by omega)).trans (by
              unfold lg2
              by_cases e : j = z
              · subst e
                rw [if_pos rfl]
                exact zxu (by decide) zxe
              · rw [if_neg e, if_neg (by omega)]
                exact zxu (by decide) (zxs (by omega) (hlg j hj)))) (by rw [eA]; exact p30hST2) (by
              rw [eA]
              have hG : stG z s := by have w := (stN_G hLg.1).1; rw [← hsm, (h6 rfl).1] at w; exact w
              exact fun b i h1 h2 => (p30bbfr 147 _ (by omega)).trans (zCY_lo (h6 rfl).2.2 hG lg2_lo b i h1 h2))
           rw [eA] at w
           exact w)
    · refine hQ _ _ ?_ ?_ (fun c j h0 h1 h2 => rfl)
      · unfold stWv
        first
        | rw [if_pos (by omega)]
        | rw [if_neg (by omega), if_pos (by omega)]
        | (rw [if_neg (by omega), if_neg (by omega)]
           exact p30bhv)
      · first
        | (rw [if_neg (by omega)]
           exact hCL)
        | (rw [if_pos (by omega)]
           obtain rfl : cr = 0 := by omega
           have hST := (h6 rfl).2.1
           have e5 : lg2 g z 5 (-1) z = 5 := lg2_at
           have eS : stSz (lg2 g z 5 (-1)) z = 1 := stSz_3 (Or.inr e5)
           have eA : stAct (lg2 g z 5 (-1)) z s = stSwp s := stAct_5 e5
           have w := zCL_add (g' := lg2 g z 5 (-1)) (z2 := z + 1) (I' := I30o) hCL lg2_lo ⟨by rw [eS]; omega, Or.inr (Or.inr (Or.inr (Or.inr e5)))⟩ (by rw [eS]) (p30bbfr 145 1 (by omega)) ((p30bbfr 145 10 (by omega)).trans rfl) ((p30bbfr 145 11 (by omega)).trans rfl) (fun j hj => (p30bbfr 146 j (by omega)).trans (by
              unfold lg2
              by_cases e : j = z
              · subst e
                rw [if_pos rfl]
                exact zxu (by decide) zxe
              · rw [if_neg e, if_neg (by omega)]
                exact zxu (by decide) (zxs (by omega) (hlg j hj)))) (by rw [eA]; exact p30hST2) (by
              rw [eA]
              have hG : stG z s := by have w := (stN_G hLg.1).1; rw [← hsm, (h6 rfl).1] at w; exact w
              exact fun b i h1 h2 => (p30bbfr 147 _ (by omega)).trans (zCY_lo (h6 rfl).2.2 hG lg2_lo b i h1 h2))
           rw [eA] at w
           exact w)
  · refine hQ _ _ ?_ ?_ (fun c j h0 h1 h2 => rfl)
    · unfold stWv
      first
      | rw [if_pos (by omega)]
      | rw [if_neg (by omega), if_pos (by omega)]
      | (rw [if_neg (by omega), if_neg (by omega)]
         exact p30bhv)
    · first
      | (rw [if_neg (by omega)]
         exact hCL)
      | (rw [if_pos (by omega)]
         obtain rfl : cr = 0 := by omega
         have hST := (h6 rfl).2.1
         have e5 : lg2 g z 5 (-1) z = 5 := lg2_at
         have eS : stSz (lg2 g z 5 (-1)) z = 1 := stSz_3 (Or.inr e5)
         have eA : stAct (lg2 g z 5 (-1)) z s = stSwp s := stAct_5 e5
         have w := zCL_add (g' := lg2 g z 5 (-1)) (z2 := z + 1) (I' := I30o) hCL lg2_lo ⟨by rw [eS]; omega, Or.inr (Or.inr (Or.inr (Or.inr e5)))⟩ (by rw [eS]) (p30bbfr 145 1 (by omega)) ((p30bbfr 145 10 (by omega)).trans rfl) ((p30bbfr 145 11 (by omega)).trans rfl) (fun j hj => (p30bbfr 146 j (by omega)).trans (by
            unfold lg2
            by_cases e : j = z
            · subst e
              rw [if_pos rfl]
              exact zxu (by decide) zxe
            · rw [if_neg e, if_neg (by omega)]
              exact zxu (by decide) (zxs (by omega) (hlg j hj)))) (by rw [eA]; exact p30hST2) (by
            rw [eA]
            have hG : stG z s := by have w := (stN_G hLg.1).1; rw [← hsm, (h6 rfl).1] at w; exact w
            exact fun b i h1 h2 => (p30bbfr 147 _ (by omega)).trans (zCY_lo (h6 rfl).2.2 hG lg2_lo b i h1 h2))
         rw [eA] at w
         exact w))
def T_A_drop : ZT := fun args I L R S Q => ∃ (g : Nat → Int) (m : Nat) (s : StS) (z : Nat) (cr : Nat) (cn : Nat) (e : Int), args = [zvr 145, zvi e] ∧ (zSh S) ∧ (zRs R) ∧ (zCL g m s z cr cn I) ∧ (r32 e) ∧ ∀ (v : Int) (I' : ZI), (v = stDv s z cr e) → (if stDv s z cr e = 0 then zCL (lg2 g z 4 e) (m + 1) (stDrp e.toNat s) (z + 2) 0 cn I' else zCL g m s z cr cn I') → (∀ c j : Nat, ¬ c = 146 → ¬ c = 147 → ¬ c = 148 → ¬ c = 149 → ¬ c = 150 → ¬ c = 151 → ¬ c = 152 → ¬ (c = 145 ∧ j = 5) → ¬ (c = 145 ∧ j = 9) → ¬ (c = 145 ∧ j = 1) → I' c j = I c j) → Q (some (zvi (v))) I' L R S
theorem sn_A_drop : ZSnd 5 10 5 T_A_drop := ZSnd.of (zT10_5 4) (by
  rintro args I L R S Q hz ⟨g, m, s, z, cr, cn, e, rfl, hS, hR, hCL, re, hQ⟩
  obtain ⟨hzl, hcr, hcn, hlg, ⟨hc1, hc16, hsm, hLg⟩, h6⟩ := id hCL
  have hz40 := hLg.2.2.1
  have hGm := stN_G hLg.1
  have hsv12 : sV s ≤ 12 := by rw [hsm]; exact hGm.1.2.1
  have hG9 : stG (stN g m).1 s := by rw [hsm]; exact hGm.1
  refine And.intro rfl ?_
  refine And.intro (zA_145 hS) (zrd (v := cr) hcr ?_)
  refine And.intro (by omega) ⟨fun h4 => ?_, fun h4 => ?_⟩
  · refine And.intro (zA_145 hS) (Exists.intro _ (And.intro (zinl_ok (zT10_10 3)) (And.intro rfl ?_)))
    refine And.intro (by omega) ⟨fun h1_12 => ?_, fun h1_12 => ?_⟩
    · refine And.intro (Or.inl rfl) ?_
      refine And.intro (zRb rfl) (zbf rfl ?_)
      refine hQ _ _ ?_ ?_ (fun c j h0 h1 h2 h3 h4 h5 h6 h7 h8 h9 => rfl)
      · unfold stDv
        first
        | rw [if_pos (by omega)]
        | rw [if_neg (by omega), if_pos (by omega)]
        | rw [if_neg (by omega), if_neg (by omega), if_pos (by omega)]
        | rw [if_neg (by omega), if_neg (by omega), if_neg (by omega), if_pos (by omega)]
        | rw [if_neg (by omega), if_neg (by omega), if_neg (by omega), if_neg (by omega)]
      · first
        | (have e9 : stDv s z cr e = -3 := if_pos (by omega)
           rw [if_neg (by rw [e9]; decide)]
           exact hCL)
        | (have e9 : stDv s z cr e = -2 := (if_neg (by omega)).trans (if_pos (by omega))
           rw [if_neg (by rw [e9]; decide)]
           exact hCL)
        | (have e9 : stDv s z cr e = -4 := (if_neg (by omega)).trans ((if_neg (by omega)).trans (if_pos (by omega)))
           rw [if_neg (by rw [e9]; decide)]
           exact hCL)
        | (have e9 : stDv s z cr e = -1 := (if_neg (by omega)).trans ((if_neg (by omega)).trans ((if_neg (by omega)).trans (if_pos (by omega))))
           rw [if_neg (by rw [e9]; decide)]
           exact hCL)
        | (have e9 : stDv s z cr e = 0 := (if_neg (by omega)).trans ((if_neg (by omega)).trans ((if_neg (by omega)).trans (if_neg (by omega))))
           rw [if_pos e9]
           have e4 : lg2 g z 4 e z = 4 := lg2_at
           have e5 : lg2 g z 4 e (z + 1) = e := lg2_at1 (by omega)
           have eS : stSz (lg2 g z 4 e) z = 2 := stSz_2 (Or.inr e4)
           have eA : stAct (lg2 g z 4 e) z s = stDrp e.toNat s := by
             refine (stAct_4 e4).trans ?_
             rw [e5]
           have w := p50hCL2
           rw [eS, eA] at w
           exact w)
    · refine And.intro (zA_145 hS) (fun v6_12 e6_12 r6_12 => ?_)
      have f6_12 : v6_12 = sV s := (e6_12.trans (h6 (by omega)).2.1.2.1)
      refine And.intro ⟨(by omega), r6_12⟩ ⟨fun h9_12 => ?_, fun h9_12 => ?_⟩
      · refine And.intro (Or.inl rfl) ?_
        refine And.intro (zRb rfl) (zbf rfl ?_)
        refine hQ _ _ ?_ ?_ (fun c j h0 h1 h2 h3 h4 h5 h6 h7 h8 h9 => rfl)
        · unfold stDv
          first
          | rw [if_pos (by omega)]
          | rw [if_neg (by omega), if_pos (by omega)]
          | rw [if_neg (by omega), if_neg (by omega), if_pos (by omega)]
          | rw [if_neg (by omega), if_neg (by omega), if_neg (by omega), if_pos (by omega)]
          | rw [if_neg (by omega), if_neg (by omega), if_neg (by omega), if_neg (by omega)]
        · first
          | (have e9 : stDv s z cr e = -3 := if_pos (by omega)
             rw [if_neg (by rw [e9]; decide)]
             exact hCL)
          | (have e9 : stDv s z cr e = -2 := (if_neg (by omega)).trans (if_pos (by omega))
             rw [if_neg (by rw [e9]; decide)]
             exact hCL)
          | (have e9 : stDv s z cr e = -4 := (if_neg (by omega)).trans ((if_neg (by omega)).trans (if_pos (by omega)))
             rw [if_neg (by rw [e9]; decide)]
             exact hCL)
          | (have e9 : stDv s z cr e = -1 := (if_neg (by omega)).trans ((if_neg (by omega)).trans ((if_neg (by omega)).trans (if_pos (by omega))))
             rw [if_neg (by rw [e9]; decide)]
             exact hCL)
          | (have e9 : stDv s z cr e = 0 := (if_neg (by omega)).trans ((if_neg (by omega)).trans ((if_neg (by omega)).trans (if_neg (by omega))))
             rw [if_pos e9]
             have e4 : lg2 g z 4 e z = 4 := lg2_at
             have e5 : lg2 g z 4 e (z + 1) = e := lg2_at1 (by omega)
             have eS : stSz (lg2 g z 4 e) z = 2 := stSz_2 (Or.inr e4)
             have eA : stAct (lg2 g z 4 e) z s = stDrp e.toNat s := by
               refine (stAct_4 e4).trans ?_
               rw [e5]
             have w := p50hCL2
             rw [eS, eA] at w
             exact w)
      · refine And.intro (Or.inr rfl) ?_
        refine And.intro (zRb rfl) (zbt rfl ?_)
        refine And.intro (zA_145 hS) (zrdR (v := some 152) (zR_145_8 hR) ?_)
        refine And.intro (Or.inr (zP_152 hS (by omega) (by omega))) (fun v26 e26 r26 => ?_)
        have f26 : v26 = sD s e.toNat := (e26.trans ((h6 (by omega)).2.1.2.2.2 e.toNat (by omega)).2.1)
        have f26b : v26 ≤ 1 := (by have := (hG9.2.2.1 e.toNat (by omega)).2.1; omega)
        refine And.intro r26 ⟨fun h27 => ?_, fun h27 => ?_⟩
        · refine And.intro (zA_145 hS) (zrd (v := z) hzl ?_)
          refine And.intro ⟨(by omega), (zRb rfl)⟩ ⟨fun h42 => ?_, fun h42 => ?_⟩
          · refine And.intro (zA_145 hS) ⟨_, sn_A_rec.up (by decide), ?_⟩
            refine ⟨g, m, s, z, cn, (4 : Int), (e : Int), rfl, hS, hR, (by obtain rfl : cr = 0 := (by omega); exact hCL), (by have e4 : lg2 g z 4 e z = 4 := lg2_at; have e5 : lg2 g z 4 e (z + 1) = e := lg2_at1 (by omega); have eS : stSz (lg2 g z 4 e) z = 2 := (if_neg (by omega)).trans (if_pos (Or.inr e4)); exact ⟨by rw [eS]; omega, Or.inr (Or.inr (Or.inr (Or.inl ⟨e4, by omega, by omega⟩)))⟩), (by have e4 : lg2 g z 4 e z = 4 := lg2_at; rw [if_neg (by omega)]; exact (if_neg (by omega)).trans (if_pos (Or.inr e4))), (by omega), ?_⟩
            intro I50o p50hCL2 p50bfr
            refine hQ _ _ ?_ ?_ (fun c j h0 h1 h2 h3 h4 h5 h6 h7 h8 h9 => ((p50bfr c j (by omega) (by omega) (by omega) (by omega) (by omega) (by omega) (by omega) (by omega) (by omega) (by omega)).trans rfl))
            · unfold stDv
              first
              | rw [if_pos (by omega)]
              | rw [if_neg (by omega), if_pos (by omega)]
              | rw [if_neg (by omega), if_neg (by omega), if_pos (by omega)]
              | rw [if_neg (by omega), if_neg (by omega), if_neg (by omega), if_pos (by omega)]
              | rw [if_neg (by omega), if_neg (by omega), if_neg (by omega), if_neg (by omega)]
            · first
              | (have e9 : stDv s z cr e = -3 := if_pos (by omega)
                 rw [if_neg (by rw [e9]; decide)]
                 exact hCL)
              | (have e9 : stDv s z cr e = -2 := (if_neg (by omega)).trans (if_pos (by omega))
                 rw [if_neg (by rw [e9]; decide)]
                 exact hCL)
              | (have e9 : stDv s z cr e = -4 := (if_neg (by omega)).trans ((if_neg (by omega)).trans (if_pos (by omega)))
                 rw [if_neg (by rw [e9]; decide)]
                 exact hCL)
              | (have e9 : stDv s z cr e = -1 := (if_neg (by omega)).trans ((if_neg (by omega)).trans ((if_neg (by omega)).trans (if_pos (by omega))))
                 rw [if_neg (by rw [e9]; decide)]
                 exact hCL)
              | (have e9 : stDv s z cr e = 0 := (if_neg (by omega)).trans ((if_neg (by omega)).trans ((if_neg (by omega)).trans (if_neg (by omega))))
                 rw [if_pos e9]
                 have e4 : lg2 g z 4 e z = 4 := lg2_at
                 have e5 : lg2 g z 4 e (z + 1) = e := lg2_at1 (by omega)
                 have eS : stSz (lg2 g z 4 e) z = 2 := stSz_2 (Or.inr e4)
                 have eA : stAct (lg2 g z 4 e) z s = stDrp e.toNat s := by
                   refine (stAct_4 e4).trans ?_
                   rw [e5]
                 have w := p50hCL2
                 rw [eS, eA] at w
                 exact w)
          · refine hQ _ _ ?_ ?_ (fun c j h0 h1 h2 h3 h4 h5 h6 h7 h8 h9 => rfl)
            · unfold stDv
              first
              | rw [if_pos (by omega)]
              | rw [if_neg (by omega), if_pos (by omega)]
              | rw [if_neg (by omega), if_neg (by omega), if_pos (by omega)]
              | rw [if_neg (by omega), if_neg (by omega), if_neg (by omega), if_pos (by omega)]
              | rw [if_neg (by omega), if_neg (by omega), if_neg (by omega), if_neg (by omega)]
            · first
              | (have e9 : stDv s z cr e = -3 := if_pos (by omega)
                 rw [if_neg (by rw [e9]; decide)]
                 exact hCL)
              | (have e9 : stDv s z cr e = -2 := (if_neg (by omega)).trans (if_pos (by omega))
                 rw [if_neg (by rw [e9]; decide)]
                 exact hCL)
              | (have e9 : stDv s z cr e = -4 := (if_neg (by omega)).trans ((if_neg (by omega)).trans (if_pos (by omega)))
                 rw [if_neg (by rw [e9]; decide)]
                 exact hCL)
              | (have e9 : stDv s z cr e = -1 := (if_neg (by omega)).trans ((if_neg (by omega)).trans ((if_neg (by omega)).trans (if_pos (by omega))))
                 rw [if_neg (by rw [e9]; decide)]
                 exact hCL)
              | (have e9 : stDv s z cr e = 0 := (if_neg (by omega)).trans ((if_neg (by omega)).trans ((if_neg (by omega)).trans (if_neg (by omega))))
                 rw [if_pos e9]
                 have e4 : lg2 g z 4 e z = 4 := lg2_at
                 have e5 : lg2 g z 4 e (z + 1) = e := lg2_at1 (by omega)
                 have eS : stSz (lg2 g z 4 e) z = 2 := stSz_2 (Or.inr e4)
                 have eA : stAct (lg2 g z 4 e) z s = stDrp e.toNat s := by
                   refine (stAct_4 e4).trans ?_
                   rw [e5]
                 have w := p50hCL2
                 rw [eS, eA] at w
                 exact w)
        · refine hQ _ _ ?_ ?_ (fun c j h0 h1 h2 h3 h4 h5 h6 h7 h8 h9 => rfl)
          · unfold stDv
            first
            | rw [if_pos (by omega)]
            | rw [if_neg (by omega), if_pos (by omega)]
            | rw [if_neg (by omega), if_neg (by omega), if_pos (by omega)]
            | rw [if_neg (by omega), if_neg (by omega), if_neg (by omega), if_pos (by omega)]
            | rw [if_neg (by omega), if_neg (by omega), if_neg (by omega), if_neg (by omega)]
          · first
            | (have e9 : stDv s z cr e = -3 := if_pos (by omega)
               rw [if_neg (by rw [e9]; decide)]
               exact hCL)
            | (have e9 : stDv s z cr e = -2 := (if_neg (by omega)).trans (if_pos (by omega))
               rw [if_neg (by rw [e9]; decide)]
               exact hCL)
            | (have e9 : stDv s z cr e = -4 := (if_neg (by omega)).trans ((if_neg (by omega)).trans (if_pos (by omega)))
               rw [if_neg (by rw [e9]; decide)]
               exact hCL)
            | (have e9 : stDv s z cr e = -1 := (if_neg (by omega)).trans ((if_neg (by omega)).trans ((if_neg (by omega)).trans (if_pos (by omega))))
               rw [if_neg (by rw [e9]; decide)]
               exact hCL)
            | (have e9 : stDv s z cr e = 0 := (if_neg (by omega)).trans ((if_neg (by omega)).trans ((if_neg (by omega)).trans (if_neg (by omega))))
               rw [if_pos e9]
               have e4 : lg2 g z 4 e z = 4 := lg2_at
               have e5 : lg2 g z 4 e (z + 1) = e := lg2_at1 (by omega)
               have eS : stSz (lg2 g z 4 e) z = 2 := stSz_2 (Or.inr e4)
               have eA : stAct (lg2 g z 4 e) z s = stDrp e.toNat s := by
                 refine (stAct_4 e4).trans ?_
                 rw [e5]
               have w := p50hCL2
               rw [eS, eA] at w
               exact w)
  · refine hQ _ _ ?_ ?_ (fun c j h0 h1 h2 h3 h4 h5 h6 h7 h8 h9 => rfl)
    · unfold stDv
      first
      | rw [if_pos (by omega)]
      | rw [if_neg (by omega), if_pos (by omega)]
      | rw [if_neg (by omega), if_neg (by omega), if_pos (by omega)]
      | rw [if_neg (by omega), if_neg (by omega), if_neg (by omega), if_pos (by omega)]
      | rw [if_neg (by omega), if_neg (by omega), if_neg (by omega), if_neg (by omega)]
    · first
      | (have e9 : stDv s z cr e = -3 := if_pos (by omega)
         rw [if_neg (by rw [e9]; decide)]
         exact hCL)
      | (have e9 : stDv s z cr e = -2 := (if_neg (by omega)).trans (if_pos (by omega))
         rw [if_neg (by rw [e9]; decide)]
         exact hCL)
      | (have e9 : stDv s z cr e = -4 := (if_neg (by omega)).trans ((if_neg (by omega)).trans (if_pos (by omega)))
         rw [if_neg (by rw [e9]; decide)]
         exact hCL)
      | (have e9 : stDv s z cr e = -1 := (if_neg (by omega)).trans ((if_neg (by omega)).trans ((if_neg (by omega)).trans (if_pos (by omega))))
         rw [if_neg (by rw [e9]; decide)]
         exact hCL)
      | (have e9 : stDv s z cr e = 0 := (if_neg (by omega)).trans ((if_neg (by omega)).trans ((if_neg (by omega)).trans (if_neg (by omega))))
         rw [if_pos e9]
         have e4 : lg2 g z 4 e z = 4 := lg2_at
         have e5 : lg2 g z 4 e (z + 1) = e := lg2_at1 (by omega)
         have eS : stSz (lg2 g z 4 e) z = 2 := stSz_2 (Or.inr e4)
         have eA : stAct (lg2 g z 4 e) z s = stDrp e.toNat s := by
           refine (stAct_4 e4).trans ?_
           rw [e5]
         have w := p50hCL2
         rw [eS, eA] at w
         exact w))
def T_A_same : ZT := fun args I L R S Q => ∃ (g : Nat → Int) (s : StS) (a : Nat) (f : Nat → Int) (N : Nat), args = [zvr 145, zvi N] ∧ (zSh S) ∧ (zRs R) ∧ (stG a s) ∧ (zCS s I) ∧ (zCY g s I) ∧ (∀ i : Nat, i < N → I 153 i = f i) ∧ (N ≤ 24) ∧ ∀ (v : Int), (v = svR g s f N) → Q (some (zvi (v))) I L R S
theorem sn_A_same : ZSnd 1 10 20 T_A_same := ZSnd.loops (zT10_20 0) (by
  rintro args I L R S Q hz ⟨g, s, a, f, N, rfl, hS, hR, hG, hST, hCY, hf, hN, hQ⟩
  obtain ⟨g1, g2, g3, g4⟩ := id hG
  obtain ⟨hsb, hsv, hsl, hsc⟩ := id hST
  refine ⟨[2, 38], fun nM tM lsM stM I1 L1 R1 S1 => match tM with
      | 2 => ∃ (b : Nat), nM = ((25 - b), 30, 0) ∧ lsM = [some (zvr (145)), some (zvi (N)), some (zvi (b)), none, none] ∧ stM = [] ∧ I1 = I ∧ L1 = L ∧ R1 = R ∧ S1 = S ∧ (b ≤ sB s) ∧ (∀ k : Nat, k < b → ¬ stSm g s f N k)
      | 38 => ∃ (b : Nat) (x : Nat) (u : Int), nM = ((25 - b), (25 - x), 0) ∧ lsM = [some (zvr (145)), some (zvi (N)), some (zvi (b)), some (zvi (u)), some (zvi (x))] ∧ stM = [] ∧ I1 = I ∧ L1 = L ∧ R1 = R ∧ S1 = S ∧ (b < sB s) ∧ (x ≤ N) ∧ (∀ k : Nat, k < b → ¬ stSm g s f N k) ∧ (u = 0 ∨ u = 1) ∧ (u = 1 → sT s b = 1 ∧ sL s b = N) ∧ (u = 1 → ∀ i : Nat, i < x → g (sF s b + i) = f i) ∧ (u = 0 → ¬ stSm g s f N b)
      | _ => False, rfl, ?_, ⟨?_, ?_, True.intro⟩⟩
  · refine ⟨((25 - (0 : Nat)), 30, 0), [some (zvr (145)), some (zvi (N)), some (zvi ((0 : Nat))), none, none], ⟨rfl, rfl, rfl, rfl⟩, 0, rfl, rfl, rfl, rfl, rfl, rfl, rfl, (by omega), (fun k h => absurd h (Nat.not_lt_zero k))⟩
  · rintro nM lsM stM I1 L1 R1 S1 hz1 ⟨b, rfl, rfl, rfl, rfl, rfl, rfl, rfl, hb, hno⟩
    refine And.intro (zA_145 hS) (zrd (v := (sB s)) hsb ?_)
    refine And.intro ⟨(by omega), (by omega)⟩ ⟨fun h7 => ?_, fun h7 => ?_⟩
    · refine hQ _ ?_
      · first
        | exact (zlow_at (P := stSm g s f N) ⟨(hu1a (by omega)).1, (hu1a (by omega)).2, fun i hi => hu1 (by omega) i (by omega)⟩ hno hb).symm
        | exact (zlow_no (P := stSm g s f N) (fun k hk => hno k (by omega))).symm
    · refine And.intro (zA_145 hS) (zrdR (v := some 149) (zR_145_4 hR) ?_)
      refine And.intro (Or.inr (zP_149 hS (by omega) (by omega))) (fun v15 e15 r15 => ?_)
      have f15 : v15 = sT s b := (e15.trans (hsl b (by omega)).2)
      have f15b : v15 ≤ 1 := (by have := (g4 b (by omega)).2.1; omega)
      refine And.intro r15 ⟨fun h16 => ?_, fun h16 => ?_⟩
      · refine ⟨((25 - b), (25 - (0 : Nat)), 0), zlt6 (by omega), [some (zvr (145)), some (zvi (N)), some (zvi (b)), some (zvi ((0 : Int))), some (zvi ((0 : Nat)))], ⟨rfl, rfl, rfl, rfl, rfl, rfl⟩, b, 0, 0, rfl, rfl, rfl, rfl, rfl, rfl, rfl, (by omega), (by omega), hno, (by first | exact Or.inl rfl | exact Or.inr rfl), (fun h => by first | exact absurd h (by decide) | omega), (fun _ i h => absurd h (Nat.not_lt_zero i)), (fun h => by first | exact absurd h (by decide) | (rintro ⟨q1, q2, -⟩; omega))⟩
      · refine And.intro (zA_145 hS) (zrdR (v := some 148) (zR_145_3 hR) ?_)
        refine And.intro (zP_148 hS (by omega) (by omega)) (fun v24 e24 r24 => ?_)
        have f24 : v24 = sL s b := (e24.trans (hsl b (by omega)).1)
        refine And.intro ⟨r24, (by omega)⟩ ⟨fun h26 => ?_, fun h26 => ?_⟩
        · refine ⟨((25 - b), (25 - (0 : Nat)), 0), zlt6 (by omega), [some (zvr (145)), some (zvi (N)), some (zvi (b)), some (zvi ((0 : Int))), some (zvi ((0 : Nat)))], ⟨rfl, rfl, rfl, rfl, rfl, rfl⟩, b, 0, 0, rfl, rfl, rfl, rfl, rfl, rfl, rfl, (by omega), (by omega), hno, (by first | exact Or.inl rfl | exact Or.inr rfl), (fun h => by first | exact absurd h (by decide) | omega), (fun _ i h => absurd h (Nat.not_lt_zero i)), (fun h => by first | exact absurd h (by decide) | (rintro ⟨q1, q2, -⟩; omega))⟩
        · refine ⟨((25 - b), (25 - (0 : Nat)), 0), zlt6 (by omega), [some (zvr (145)), some (zvi (N)), some (zvi (b)), some (zvi ((1 : Int))), some (zvi ((0 : Nat)))], ⟨rfl, rfl, rfl, rfl, rfl, rfl⟩, b, 0, 1, rfl, rfl, rfl, rfl, rfl, rfl, rfl, (by omega), (by omega), hno, (by first | exact Or.inl rfl | exact Or.inr rfl), (fun h => by first | exact absurd h (by decide) | omega), (fun _ i h => absurd h (Nat.not_lt_zero i)), (fun h => by first | exact absurd h (by decide) | (rintro ⟨q1, q2, -⟩; omega))⟩
  · rintro nM lsM stM I1 L1 R1 S1 hz1 ⟨b, x, u, rfl, rfl, rfl, rfl, rfl, rfl, rfl, hb, hx, hno, hu0, hu1a, hu1, hu2⟩
    refine And.intro ⟨(by omega), (by omega)⟩ ⟨fun h41 => ?_, fun h41 => ?_⟩
    · refine And.intro (by omega) ⟨fun h83 => ?_, fun h83 => ?_⟩
      · refine ⟨((25 - (b + 1)), 30, 0), zlt6 (by omega), [some (zvr (145)), some (zvi (N)), some (zvi ((b + 1))), none, none], ⟨rfl, rfl, rfl, rfl⟩, (b + 1), rfl, rfl, rfl, rfl, rfl, rfl, rfl, (by omega), ?_⟩
        · intro k hk
          by_cases e : k = b
          · rw [e]
            exact hu2 (by omega)
          · exact hno k (by omega)
      · refine hQ _ ?_
        · first
          | exact (zlow_at (P := stSm g s f N) ⟨(hu1a (by omega)).1, (hu1a (by omega)).2, fun i hi => hu1 (by omega) i (by omega)⟩ hno hb).symm
          | exact (zlow_no (P := stSm g s f N) (fun k hk => hno k (by omega))).symm
    · refine And.intro (by omega) ⟨fun h45 => ?_, fun h45 => ?_⟩
      · refine And.intro (by omega) ⟨fun h83 => ?_, (fun h83 => False.elim (by omega))⟩
        refine ⟨((25 - (b + 1)), 30, 0), zlt6 (by omega), [some (zvr (145)), some (zvi (N)), some (zvi ((b + 1))), none, none], ⟨rfl, rfl, rfl, rfl⟩, (b + 1), rfl, rfl, rfl, rfl, rfl, rfl, rfl, (by omega), ?_⟩
        · intro k hk
          by_cases e : k = b
          · rw [e]
            exact hu2 (by omega)
          · exact hno k (by omega)
      · refine And.intro (zA_145 hS) (zrdR (v := some 147) (zR_145_2 hR) ?_)
        refine And.intro (zP_147 hS (by omega) (by omega)) (fun v59 e59 r59 => ?_)
        have f59 : v59 = g (sF s b + x) := (e59.trans ((congrArg (I1 147) (by omega)).trans (hCY b x (by omega) (by omega))))
        refine And.intro (zA_145 hS) (zrdR (v := some 153) (zR_145_12 hR) ?_)
        refine And.intro (zP_153 hS (by omega) (by omega)) (fun v66 e66 r66 => ?_)
        have f66 : v66 = f x := (e66.trans (hf x (by omega)))
        refine And.intro ⟨r59, r66⟩ ⟨fun h67 => ?_, fun h67 => ?_⟩
        · refine ⟨((25 - b), (25 - (x + 1)), 0), zlt6 (by omega), [some (zvr (145)), some (zvi (N)), some (zvi (b)), some (zvi ((0 : Int))), some (zvi ((x + 1)))], ⟨rfl, rfl, rfl, rfl, rfl, rfl⟩, b, (x + 1), 0, rfl, rfl, rfl, rfl, rfl, rfl, rfl, (by omega), (by omega), hno, (by first | exact Or.inl rfl | exact Or.inr rfl), (fun h => by first | exact absurd h (by decide) | exact hu1a (by omega)), ?_, ?_⟩
          · intro h i hi
            first
            | exact absurd h (by decide)
            | (by_cases e : i = x
               · subst e
                 omega
               · exact hu1 (by omega) i (by omega))
          · intro h
            first
            | exact absurd h (by decide)
            | (rintro ⟨q1, q2, q3⟩
               have q4 := q3 x (by omega)
               omega)
        · refine ⟨((25 - b), (25 - (x + 1)), 0), zlt6 (by omega), [some (zvr (145)), some (zvi (N)), some (zvi (b)), some (zvi ((1 : Int))), some (zvi ((x + 1)))], ⟨rfl, rfl, rfl, rfl, rfl, rfl⟩, b, (x + 1), 1, rfl, rfl, rfl, rfl, rfl, rfl, rfl, (by omega), (by omega), hno, (by first | exact Or.inl rfl | exact Or.inr rfl), (fun h => by first | exact absurd h (by decide) | exact hu1a (by omega)), ?_, ?_⟩
          · intro h i hi
            first
            | exact absurd h (by decide)
            | (by_cases e : i = x
               · subst e
                 omega
               · exact hu1 (by omega) i (by omega))
          · intro h
            first
            | exact absurd h (by decide)
            | (rintro ⟨q1, q2, q3⟩
               have q4 := q3 x (by omega)
               omega))
def T_A_recB : ZT := fun args I L R S Q => ∃ (g : Nat → Int) (m : Nat) (s : StS) (z : Nat) (cn : Nat) (f : Nat → Int) (N : Nat), args = [zvr 145, zvi N] ∧ (zSh S) ∧ (zRs R) ∧ (zCL g m s z 0 cn I) ∧ (∀ i : Nat, i < N → I 153 i = f i) ∧ (1 ≤ N ∧ N ≤ 24) ∧ (sC s (sV s) < 8) ∧ ((svR g s f N = -1 → sB s < 24 ∧ z + 2 + N ≤ 400) ∧ (svR g s f N ≠ -1 → z + 2 ≤ 400)) ∧ (∀ i : Nat, i < N → r32 (f i)) ∧ ∀ (I' : ZI), (zCL (svG g s z f N) (m + 1) (stAct (svG g s z f N) z s) (z + stSz (svG g s z f N) z) 0 cn I') → (∀ c j : Nat, ¬ c = 146 → ¬ c = 147 → ¬ c = 148 → ¬ c = 149 → ¬ c = 150 → ¬ c = 151 → ¬ c = 152 → ¬ (c = 145 ∧ j = 5) → ¬ (c = 145 ∧ j = 9) → ¬ (c = 145 ∧ j = 1) → I' c j = I c j) → Q none I' L R S
theorem sn_A_recB : ZSnd 5 10 16 T_A_recB := ZSnd.loops (zT10_16 4) (by
  rintro args I L R S Q hz ⟨g, m, s, z, cn, f, N, rfl, hS, hR, hCL, hf, hN, hc8, hfit, hrf, hQ⟩
  obtain ⟨hzl, hcr, hcn, hlg, ⟨hc1, hc16, hsm, hLg⟩, h6⟩ := id hCL
  have hz40 := hLg.2.2.1
  obtain ⟨he, hST, hCY⟩ := h6 rfl
  have hG : stG z s := by have w := (stN_G hLg.1).1; rw [← hsm, he] at w; exact w
  obtain ⟨g1, g2, g3, g4⟩ := id hG
  obtain ⟨hsb, hsv, hsl, hsc⟩ := id hST
  have hrb := svR_b g s f N
  refine ⟨[36], fun nM tM lsM stM I1 L1 R1 S1 => match tM with
      | 36 => ∃ (x : Nat), nM = ((25 - x), 0, 0) ∧ lsM = [some (zvr (145)), some (zvi (N)), none, some (zvi (z)), some (zvi (x))] ∧ stM = [] ∧ L1 = L ∧ R1 = R ∧ S1 = S ∧ (x ≤ N) ∧ (svR g s f N = -1) ∧ (sB s < 24 ∧ z + 2 + N ≤ 400) ∧ (I1 145 1 = z + 2 + x) ∧ (I1 146 z = 1) ∧ (I1 146 (z + 1) = N) ∧ (∀ j : Nat, j < x → I1 146 (z + 2 + j) = f j) ∧ (∀ j : Nat, j < z → I1 146 j = g j) ∧ (∀ j : Nat, z + 2 + N ≤ j → I1 146 j = I 146 j) ∧ (∀ c j : Nat, ¬ c = 146 → ¬ (c = 145 ∧ j = 1) → I1 c j = I c j)
      | _ => False, rfl, ?_, ⟨?_, True.intro⟩⟩
  · refine And.intro (zA_145 hS) ⟨_, sn_A_same.up (by decide), ?_⟩
    refine ⟨g, s, z, f, N, rfl, hS, hR, hG, (by first | exact (zCS_fr hST (fun c j h => rfl)) | (clear hQ; grind [xu])), (by first | exact (zCY_fr hCY (fun c j h => rfl)) | (clear hQ; grind [xu])), hf, (by omega), ?_⟩
    intro v2o p2hv
    refine And.intro ⟨(by omega), (zRb rfl)⟩ ⟨fun h8 => ?_, fun h8 => ?_⟩
    · have t8 : z + 2 + N ≤ 400 := (hfit.1 (by omega)).2
      refine And.intro (zA_145 hS) (zrd (v := z) hzl ?_)
      refine And.intro (zA_145 hS) (Exists.intro _ (And.intro (zinl_ok (zT10_1 3)) (And.intro rfl ?_)))
      refine And.intro (zA_145 hS) (zrd (v := z) hzl ?_)
      refine And.intro ⟨(by omega), (zRb rfl)⟩ ⟨(fun h7_25 => False.elim (by omega)), fun h7_25 => ?_⟩
      refine And.intro (zA_145 hS) (zrdR (v := some 146) (zR_145_0 hR) ?_)
      refine And.intro (zA_145 hS) (zrd (v := z) hzl ?_)
      refine And.intro ⟨(zx0 rfl), (zP_146 hS (by omega) (by omega))⟩ ⟨_, (zWi (zRb rfl)), ?_⟩
      refine And.intro (zA_145 hS) (zrd (v := z) hzl ?_)
      refine And.intro (zA_145 hS) ⟨_, (zWi (by omega)), ?_⟩
      refine And.intro (zA_145 hS) (Exists.intro _ (And.intro (zinl_ok (zT10_1 3)) (And.intro rfl ?_)))
      refine And.intro (zA_145 hS) (zrd (v := (z + 1)) rfl ?_)
      refine And.intro ⟨(by omega), (zRb rfl)⟩ ⟨(fun h7_30 => False.elim (by omega)), fun h7_30 => ?_⟩
      refine And.intro (zA_145 hS) (zrdR (v := some 146) (zR_145_0 hR) ?_)
      refine And.intro (zA_145 hS) (zrd (v := (z + 1)) rfl ?_)
      refine And.intro ⟨(zx0 rfl), (zP_146 hS (by omega) (by omega))⟩ ⟨_, (zWi (by omega)), ?_⟩
      refine And.intro (zA_145 hS) (zrd (v := (z + 1)) rfl ?_)
      refine And.intro (zA_145 hS) ⟨_, (zWi (by omega)), ?_⟩
      refine ⟨((25 - (0 : Nat)), 0, 0), [some (zvr (145)), some (zvi (N)), none, some (zvi (z)), some (zvi ((0 : Nat)))], ⟨rfl, rfl, rfl, rfl, rfl⟩, 0, rfl, rfl, rfl, rfl, rfl, rfl, (by omega), (by omega), (hfit.1 (by omega)), (Eq.trans (b := (((z + 1) + 1) : Int)) rfl (by omega)), (zxu (by decide) (zxs (by omega) (zxu (by decide) zxe))), (by rw [show z + 1 = ((z : Int) + 1).toNat by omega]; exact zxu (by decide) zxe), (fun j h => absurd h (Nat.not_lt_zero j)), (fun j hj => zxu (by decide) (zxs (by omega) (zxu (by decide) (zxs (by omega) (hlg j (by omega)))))), (fun j hj => zxu (by decide) (zxs (by omega) (zxu (by decide) (zxs (by omega) rfl)))), (fun c j h0 h1 => (zxcj h1 (zxu h0 (zxcj h1 (zxu h0 rfl)))))⟩
    · have t8 : z + 2 ≤ 400 := (hfit.2 (by omega))
      refine And.intro (zA_145 hS) ⟨_, sn_A_rec.up (by decide), ?_⟩
      refine ⟨g, m, s, z, cn, (2 : Int), (v2o : Int), rfl, hS, hR, (by first | exact (zCL_fr hCL (fun c j h => rfl)) | (clear hQ; grind [xu])), (by
  have h9 := p2hv
  have e2 : lg2 g z 2 v2o z = 2 := lg2_at
  have e3 : lg2 g z 2 v2o (z + 1) = v2o := lg2_at1 (by omega)
  have eS : stSz (lg2 g z 2 v2o) z = 2 := (if_neg (by omega)).trans (if_pos (Or.inl e2))
  refine ⟨by rw [eS]; have := hfit.2 (by omega); omega, Or.inr (Or.inl ⟨e2, by omega, by omega, hc8⟩)⟩), (by have e2 : lg2 g z 2 v2o z = 2 := lg2_at; rw [if_neg (by omega)]; exact (if_neg (by omega)).trans (if_pos (Or.inl e2))), (by omega), ?_⟩
      intro I14o p14hCL2 p14bfr
      refine hQ _ ?_ (fun c j h0 h1 h2 h3 h4 h5 h6 h7 h8 h9 => ((p14bfr c j (by omega) (by omega) (by omega) (by omega) (by omega) (by omega) (by omega) (by omega) (by omega) (by omega)).trans rfl))
      · first
        | (have e : svG g s z f N = lg2 g z 2 v2o := by
             unfold svG
             rw [if_neg (by omega), p2hv]
           rw [e]
           exact p14hCL2)
        | (have e : svG g s z f N = lgN g z N f := if_pos hr1
           rw [e]
           have e1 : lgN g z N f z = 1 := lgN_at
           have e2 : lgN g z N f (z + 1) = N := lgN_at1
           have eS : stSz (lgN g z N f) z = 2 + N := by rw [show stSz (lgN g z N f) z = 2 + (lgN g z N f (z + 1)).toNat from if_pos e1, e2]; omega
           refine zCL_add hCL lgN_lo ⟨by rw [eS]; omega, Or.inl ⟨e1, by omega, by omega, hroom.1, hc8⟩⟩ rfl ((p61bbbfr 145 1 (by omega) (by omega) (by omega) (by omega) (by omega) (by omega) (by omega) (by omega)).trans (hz9.trans (by rw [eS]; omega))) ((p61bbbfr 145 10 (by omega) (by omega) (by omega) (by omega) (by omega) (by omega) (by omega) (by omega)).trans (fr 145 10 (by omega) (by omega))) ((p61bbbfr 145 11 (by omega) (by omega) (by omega) (by omega) (by omega) (by omega) (by omega) (by omega)).trans (fr 145 11 (by omega) (by omega))) (fun j hj => (p61bbbfr 146 j (by omega) (by omega) (by omega) (by omega) (by omega) (by omega) (by omega) (by omega)).trans ?_) p61bhST2 p61bbhCY2
           unfold lgN
           by_cases e : j = z
           · rw [if_pos e, e]; exact hk1
           · rw [if_neg e]
             by_cases e2 : j = z + 1
             · rw [if_pos e2, e2]; exact hk2
             · rw [if_neg e2]
               by_cases e3 : z + 2 ≤ j ∧ j < z + 2 + N
               · rw [if_pos e3, ← hby (j - z - 2) (by omega)]
                 congr 1
                 omega
               · rw [if_neg e3]
                 by_cases e4 : j < z
                 · exact hlo j e4
                 · exact (hhi j (by omega)).trans (hlg j hj))
  · rintro nM lsM stM I1 L1 R1 S1 hz1 ⟨x, rfl, rfl, rfl, rfl, rfl, rfl, hx, hr1, hroom, hz9, hk1, hk2, hby, hlo, hhi, fr⟩
    refine And.intro ⟨(by omega), (by omega)⟩ ⟨fun h39 => ?_, fun h39 => ?_⟩
    · refine And.intro (zA_145 hS) ⟨_, sn_A_redo.up (by decide), ?_⟩
      refine ⟨(z : Int), z, s, (lgN g z N f), (z + 2 + N), rfl, hS, hR, hG, (zCS_fr hST (fun c j h => fr c j (by omega) (by omega))), (zCY_lo (zCY_fr hCY (fun c j h => fr c j (by omega) (by omega))) hG lgN_lo), (fun j hj => by
  unfold lgN
  by_cases e : j = z
  · rw [if_pos e, e]; exact hk1
  · rw [if_neg e]
    by_cases e2 : j = z + 1
    · rw [if_pos e2, e2]; exact hk2
    · rw [if_neg e2]
      by_cases e3 : z + 2 ≤ j ∧ j < z + 2 + N
      · rw [if_pos e3, ← hby (j - z - 2) (by omega)]
        congr 1
        omega
      · rw [if_neg e3]
        by_cases e4 : j < z
        · exact hlo j e4
        · exact (hhi j (by omega)).trans (hlg j hj)), (by omega), (hz9.trans (by omega)), (by have e1 : lgN g z N f z = 1 := lgN_at; have e2 : lgN g z N f (z + 1) = N := lgN_at1; exact ⟨by rw [show stSz (lgN g z N f) z = 2 + (lgN g z N f (z + 1)).toNat from if_pos e1, e2]; omega, Or.inl ⟨e1, by omega, by omega, hroom.1, hc8⟩⟩), (by have e1 : lgN g z N f z = 1 := lgN_at; have e2 : lgN g z N f (z + 1) = N := lgN_at1; rw [show stSz (lgN g z N f) z = 2 + (lgN g z N f (z + 1)).toNat from if_pos e1, e2]; omega), ?_⟩
      intro v61o I61o p61hv p61bhST2 p61bbhCY2 p61bbbfr
      refine hQ _ ?_ (fun c j h0 h1 h2 h3 h4 h5 h6 h7 h8 h9 => ((p61bbbfr c j (by omega) (by omega) (by omega) (by omega) (by omega) (by omega) (by omega) (by omega)).trans ((fr c j (by omega) (by omega)).trans rfl)))
      · first
        | (have e : svG g s z f N = lg2 g z 2 v2o := by
             unfold svG
             rw [if_neg (by omega), p2hv]
           rw [e]
           exact p14hCL2)
        | (have e : svG g s z f N = lgN g z N f := if_pos hr1
           rw [e]
           have e1 : lgN g z N f z = 1 := lgN_at
           have e2 : lgN g z N f (z + 1) = N := lgN_at1
           have eS : stSz (lgN g z N f) z = 2 + N := by rw [show stSz (lgN g z N f) z = 2 + (lgN g z N f (z + 1)).toNat from if_pos e1, e2]; omega
           refine zCL_add hCL lgN_lo ⟨by rw [eS]; omega, Or.inl ⟨e1, by omega, by omega, hroom.1, hc8⟩⟩ rfl ((p61bbbfr 145 1 (by omega) (by omega) (by omega) (by omega) (by omega) (by omega) (by omega) (by omega)).trans (hz9.trans (by rw [eS]; omega))) ((p61bbbfr 145 10 (by omega) (by omega) (by omega) (by omega) (by omega) (by omega) (by omega) (by omega)).trans (fr 145 10 (by omega) (by omega))) ((p61bbbfr 145 11 (by omega) (by omega) (by omega) (by omega) (by omega) (by omega) (by omega) (by omega)).trans (fr 145 11 (by omega) (by omega))) (fun j hj => (p61bbbfr 146 j (by omega) (by omega) (by omega) (by omega) (by omega) (by omega) (by omega) (by omega)).trans ?_) p61bhST2 p61bbhCY2
           unfold lgN
           by_cases e : j = z
           · rw [if_pos e, e]; exact hk1
           · rw [if_neg e]
             by_cases e2 : j = z + 1
             · rw [if_pos e2, e2]; exact hk2
             · rw [if_neg e2]
               by_cases e3 : z + 2 ≤ j ∧ j < z + 2 + N
               · rw [if_pos e3, ← hby (j - z - 2) (by omega)]
                 congr 1
                 omega
               · rw [if_neg e3]
                 by_cases e4 : j < z
                 · exact hlo j e4
                 · exact (hhi j (by omega)).trans (hlg j hj))
    · refine And.intro (zA_145 hS) (zrdR (v := some 153) (zR_145_12 hR) ?_)
      refine And.intro (zP_153 hS (by omega) (by omega)) (fun v49 e49 r49 => ?_)
      have f49 : v49 = f x := (e49.trans ((fr 153 _ (by omega) (by omega)).trans (hf x (by omega))))
      refine And.intro (zA_145 hS) (Exists.intro _ (And.intro (zinl_ok (zT10_1 3)) (And.intro rfl ?_)))
      refine And.intro (zA_145 hS) (zrd (v := (z + 2 + x)) hz9 ?_)
      refine And.intro ⟨(by omega), (zRb rfl)⟩ ⟨(fun h7_50 => False.elim (by omega)), fun h7_50 => ?_⟩
      refine And.intro (zA_145 hS) (zrdR (v := some 146) (zR_145_0 hR) ?_)
      refine And.intro (zA_145 hS) (zrd (v := (z + 2 + x)) hz9 ?_)
      refine And.intro ⟨(zx0 rfl), (zP_146 hS (by omega) (by omega))⟩ ⟨_, (zWi r49), ?_⟩
      refine And.intro (zA_145 hS) (zrd (v := (z + 2 + x)) hz9 ?_)
      refine And.intro (zA_145 hS) ⟨_, (zWi (by omega)), ?_⟩
      refine ⟨((25 - (x + 1)), 0, 0), zlt6 (by omega), [some (zvr (145)), some (zvi (N)), none, some (zvi (z)), some (zvi ((x + 1)))], ⟨rfl, rfl, rfl, rfl, rfl⟩, (x + 1), rfl, rfl, rfl, rfl, rfl, rfl, (by omega), (by omega), (by omega), (Eq.trans (b := (((z + 2 + x) + 1) : Int)) rfl (by omega)), (zxu (by decide) (zxs (by omega) hk1)), (zxu (by decide) (zxs (by omega) hk2)), ?_, (fun j hj => zxu (by decide) (zxs (by omega) (hlo j hj))), (fun j hj => zxu (by decide) (zxs (by omega) (hhi j hj))), (fun c j h0 h1 => (zxcj h1 (zxu h0 ((fr c j (by omega) (by omega)).trans rfl))))⟩
      · intro j hj
        refine zxu (by decide) ?_
        by_cases h : j = x
        · subst h
          rw [show z + 2 + j = ((z : Int) + 2 + j).toNat by omega]
          exact zxe.trans f49
        · exact zxs (by omega) (hby j (by omega)))
