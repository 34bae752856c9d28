/-! zh -/
def T_Y_room : ZT := fun args I L R S Q => ∃ (x : SvK) (s : BdS), args = [zvr 165] ∧ (zSh S) ∧ (zRs R) ∧ (bGd s) ∧ (zPB s I) ∧ (zML x.1 x.2.1 x.2.2.1 x.2.2.2 0 I) ∧ ∀ (v : Int) (I' : ZI), ((v = 1 ∧ svFit s x) ∨ (v = 0 ∧ ¬ svFit s x)) → (I' 268 3 = 0) → (∀ c j : Nat, ¬ c = 274 → ¬ c = 275 → ¬ c = 276 → ¬ c = 277 → ¬ c = 278 → ¬ c = 279 → ¬ (c = 268 ∧ j = 11) → ¬ (c = 268 ∧ j = 15) → ¬ (c = 268 ∧ j = 20) → ¬ (c = 268 ∧ j = 19) → ¬ (c = 268 ∧ j = 3) → ¬ c = 269 → I' c j = I c j) → Q (some (zvi (v))) I' L R S
theorem sn_Y_room : ZSnd 5 21 26 T_Y_room := ZSnd.loops (zT21_26 4) (by
  rintro args I L R S Q hz ⟨x, s, rfl, hS, hR, hGd, hPB, hML, hQ⟩
  obtain ⟨⟨⟨gW1, gW2⟩, ⟨gH1, gH2⟩, ⟨gD1, gD2⟩, gB9⟩, ⟨gnp, gnn⟩, gc, gp, gn, gco, gnd, gun⟩ := id hGd
  obtain ⟨k5, k2, hlg, ⟨-, hsm, hLg⟩, hzz⟩ := id hML
  have hz9 := hzz rfl
  have hz40 := hLg.2.2.1
  have hG9 : stG x.2.2.2 x.2.2.1 := by have w := (stN_G hLg.1).1; rw [hz9, ← hsm] at w; exact w
  have hsv12 : sV x.2.2.1 ≤ 12 := hG9.2.1
  have hsb24 : sB x.2.2.1 ≤ 24 := hG9.1
  have hsc8 : sC x.2.2.1 (sV x.2.2.1) ≤ 8 := (hG9.2.2.1 (sV x.2.2.1) (Nat.le_refl _)).1
  refine ⟨[44, 75], fun nM tM lsM stM I1 L1 R1 S1 => match tM with
      | 44 => ∃ (n : Nat), nM = ((13 - n), 99, 0) ∧ lsM = [some (zvr (165)), some (zvi (sB x.2.2.1 + svkF s x n)), some (zvi (sC x.2.2.1 (sV x.2.2.1) + svkR s n)), some (zvi (x.2.2.2 + 1 + svkN s x n)), some (zvi (n)), none] ∧ stM = [] ∧ L1 = L ∧ R1 = R ∧ S1 = S ∧ (n ≤ bnn s) ∧ (zMS x.2.2.1 I1) ∧ (zMF x.2.2.1 I1) ∧ (∀ c j : Nat, ¬ c = 274 → ¬ c = 275 → ¬ c = 276 → ¬ c = 277 → ¬ c = 278 → ¬ c = 279 → ¬ (c = 268 ∧ j = 11) → ¬ (c = 268 ∧ j = 15) → ¬ (c = 268 ∧ j = 20) → ¬ (c = 268 ∧ j = 19) → ¬ (c = 268 ∧ j = 3) → ¬ c = 269 → I1 c j = I c j)
      | 75 => ∃ (n : Nat) (u : Nat), nM = ((13 - n), (50 - u), 0) ∧ lsM = [some (zvr (165)), some (zvi (sB x.2.2.1 + svkF s x n)), some (zvi (sC x.2.2.1 (sV x.2.2.1) + svkR s n)), some (zvi (x.2.2.2 + 1 + svkN s x n)), some (zvi (n)), some (zvi (u))] ∧ stM = [] ∧ L1 = L ∧ R1 = R ∧ S1 = S ∧ (n < bnn s) ∧ (u ≤ sB x.2.2.1) ∧ (I1 268 3 = gaN s n (bnp s)) ∧ (zGa s n (bnp s) 269 I1) ∧ (¬ gaN s n (bnp s) = 0) ∧ (∀ q : Nat, q < u → ¬ stSm x.1 x.2.2.1 (gaF s n (bnp s)) (gaN s n (bnp s)) q) ∧ (zMS x.2.2.1 I1) ∧ (zMF x.2.2.1 I1) ∧ (∀ c j : Nat, ¬ c = 274 → ¬ c = 275 → ¬ c = 276 → ¬ c = 277 → ¬ c = 278 → ¬ c = 279 → ¬ (c = 268 ∧ j = 11) → ¬ (c = 268 ∧ j = 15) → ¬ (c = 268 ∧ j = 20) → ¬ (c = 268 ∧ j = 19) → ¬ (c = 268 ∧ j = 3) → ¬ c = 269 → I1 c j = I c j)
      | _ => False, rfl, ?_, ⟨?_, ?_, True.intro⟩⟩
  · refine And.intro (zA_165 hS) (zrdR (v := some 268) (zR_165_48 hR) ?_)
    refine And.intro (zA_268 hS) ⟨_, sn_B_walk.up (by decide), ?_⟩
    refine ⟨x.1, x.2.1, x.2.2.1, x.2.2.2, rfl, hS, hR, k5, hlg, hsm, hLg, ?_⟩
    intro I4o p4hST2 p4bhMF2 p4bbhe2 p4bbbhG2 p4bbbbfr
    have g4 : I4o 268 11 = sB x.2.2.1 := p4hST2.1
    have g4b : I4o 268 15 = sV x.2.2.1 := p4hST2.2.1
    refine And.intro (zA_165 hS) (zrdR (v := some 268) (zR_165_48 hR) ?_)
    refine And.intro (zA_268 hS) (fun v11 e11 r11 => ?_)
    refine And.intro (zA_165 hS) (zrdR (v := some 268) (zR_165_48 hR) ?_)
    refine And.intro (zA_268 hS) (zrdR (v := some 277) (zR_268_16 hR) ?_)
    refine And.intro (zA_165 hS) (zrdR (v := some 268) (zR_165_48 hR) ?_)
    refine And.intro (zA_268 hS) (fun v26 e26 r26 => ?_)
    refine And.intro (zP_277 hS (by omega) (by omega)) (fun v29 e29 r29 => ?_)
    have f29 : v29 = sC x.2.2.1 (sV x.2.2.1) := (e29.trans ((congrArg (I4o 277) (by omega)).trans (p4hST2.2.2.2 (sV x.2.2.1) (Nat.le_refl _)).1))
    refine And.intro (zA_165 hS) (zrdR (v := some 268) (zR_165_48 hR) ?_)
    refine And.intro (zA_268 hS) (zrd (v := (x.2.2.2)) ((p4bbbbfr 268 5 (by omega) (by omega) (by omega) (by omega) (by omega) (by omega) (by omega) (by omega) (by omega) (by omega)).trans k5) ?_)
    refine ⟨((13 - (0 : Nat)), 99, 0), [some (zvr (165)), some (zvi (sB x.2.2.1 + svkF s x (0 : Nat))), some (zvi (sC x.2.2.1 (sV x.2.2.1) + svkR s (0 : Nat))), some (zvi (x.2.2.2 + 1 + svkN s x (0 : Nat))), some (zvi ((0 : Nat))), none], ⟨rfl, (congrArg (fun z => some (zvi z)) (by have w9 : svkR s 0 = 0 := rfl; have w8 : svkF s x 0 = 0 := rfl; have w7 : svkN s x 0 = 0 := rfl; omega)), (congrArg (fun z => some (zvi z)) (by have w9 : svkR s 0 = 0 := rfl; have w8 : svkF s x 0 = 0 := rfl; have w7 : svkN s x 0 = 0 := rfl; omega)), (congrArg (fun z => some (zvi z)) (by have w9 : svkR s 0 = 0 := rfl; have w8 : svkF s x 0 = 0 := rfl; have w7 : svkN s x 0 = 0 := rfl; omega)), rfl, rfl⟩, 0, rfl, rfl, rfl, rfl, rfl, rfl, (by omega), p4hST2, p4bhMF2, (fun c j h0 h1 h2 h3 h4 h5 h6 h7 h8 h9 h10 h11 => ((p4bbbbfr c j h0 h1 h2 h3 h4 h5 h6 h7 h8 h9).trans rfl))⟩
  · rintro nM lsM stM I1 L1 R1 S1 hz1 ⟨n, rfl, rfl, rfl, rfl, rfl, rfl, hn, hST1, hMF1, fr⟩
    have hPB1 : zPB s I1 := (zPB_fr hPB (fun c j h => fr c j (by omega) (by omega) (by omega) (by omega) (by omega) (by omega) (by omega) (by omega) (by omega) (by omega) (by omega) (by omega) ))
    have hn221 := hPB1.2.1
    have hlg1 : ∀ j : Nat, j < 400 → I1 270 j = x.1 j := (fun j hj => (fr 270 j (by omega) (by omega) (by omega) (by omega) (by omega) (by omega) (by omega) (by omega) (by omega) (by omega) (by omega) (by omega) ).trans (hlg j hj))
    have h511 : I1 268 11 = sB x.2.2.1 := hST1.1
    have h515 : I1 268 15 = sV x.2.2.1 := hST1.2.1
    have hkR := svkR_b s n
    have hkF := svkF_b s x n
    have hkN := svkN_b (x := x) hGd (n := n) (by omega)
    refine And.intro (zA_165 hS) (zrd (v := (bnn s)) hn221 ?_)
    refine And.intro ⟨(by omega), (by omega)⟩ ⟨fun h50 => ?_, fun h50 => ?_⟩
    · refine And.intro (zA_165 hS) (zrdR (v := some 268) (zR_165_48 hR) ?_)
      refine And.intro (zA_268 hS) ⟨_, (zWi (zRb rfl)), ?_⟩
      refine And.intro ⟨(by omega), (zRb rfl)⟩ ⟨fun h173 => ?_, fun h173 => ?_⟩
      · refine And.intro (Or.inl rfl) ?_
        refine hQ _ _ ?_ zxe (fun c j h0 h1 h2 h3 h4 h5 h6 h7 h8 h9 h10 h11 => (zxcj h10 ((fr c j h0 h1 h2 h3 h4 h5 h6 h7 h8 h9 h10 h11).trans rfl)))
        · have q9 : n = bnn s := (by omega)
          subst q9
          first
          | exact Or.inl ⟨rfl, by omega, by omega, by omega, by omega⟩
          | exact Or.inr ⟨rfl, fun q => by obtain ⟨q1, q2, q3, q4⟩ := q; omega⟩
      · refine And.intro ⟨(by omega), (zRb rfl)⟩ ⟨fun h179 => ?_, fun h179 => ?_⟩
        · refine And.intro (Or.inl rfl) ?_
          refine hQ _ _ ?_ zxe (fun c j h0 h1 h2 h3 h4 h5 h6 h7 h8 h9 h10 h11 => (zxcj h10 ((fr c j h0 h1 h2 h3 h4 h5 h6 h7 h8 h9 h10 h11).trans rfl)))
          · have q9 : n = bnn s := (by omega)
            subst q9
            first
            | exact Or.inl ⟨rfl, by omega, by omega, by omega, by omega⟩
            | exact Or.inr ⟨rfl, fun q => by obtain ⟨q1, q2, q3, q4⟩ := q; omega⟩
        · refine And.intro (zA_165 hS) (zrdR (v := some 268) (zR_165_48 hR) ?_)
          refine And.intro (zA_268 hS) (zrd (v := (sV x.2.2.1)) h515 ?_)
          refine And.intro ⟨(by omega), (zRb rfl)⟩ ⟨fun h191 => ?_, fun h191 => ?_⟩
          · refine And.intro (Or.inl rfl) ?_
            refine hQ _ _ ?_ zxe (fun c j h0 h1 h2 h3 h4 h5 h6 h7 h8 h9 h10 h11 => (zxcj h10 ((fr c j h0 h1 h2 h3 h4 h5 h6 h7 h8 h9 h10 h11).trans rfl)))
            · have q9 : n = bnn s := (by omega)
              subst q9
              first
              | exact Or.inl ⟨rfl, by omega, by omega, by omega, by omega⟩
              | exact Or.inr ⟨rfl, fun q => by obtain ⟨q1, q2, q3, q4⟩ := q; omega⟩
          · refine And.intro ⟨(by omega), (zRb rfl)⟩ ⟨fun h198 => ?_, fun h198 => ?_⟩
            · refine And.intro (Or.inl rfl) ?_
              refine hQ _ _ ?_ zxe (fun c j h0 h1 h2 h3 h4 h5 h6 h7 h8 h9 h10 h11 => (zxcj h10 ((fr c j h0 h1 h2 h3 h4 h5 h6 h7 h8 h9 h10 h11).trans rfl)))
              · have q9 : n = bnn s := (by omega)
                subst q9
                first
                | exact Or.inl ⟨rfl, by omega, by omega, by omega, by omega⟩
                | exact Or.inr ⟨rfl, fun q => by obtain ⟨q1, q2, q3, q4⟩ := q; omega⟩
            · refine And.intro (Or.inr rfl) ?_
              refine hQ _ _ ?_ zxe (fun c j h0 h1 h2 h3 h4 h5 h6 h7 h8 h9 h10 h11 => (zxcj h10 ((fr c j h0 h1 h2 h3 h4 h5 h6 h7 h8 h9 h10 h11).trans rfl)))
              · have q9 : n = bnn s := (by omega)
                subst q9
                first
                | exact Or.inl ⟨rfl, by omega, by omega, by omega, by omega⟩
                | exact Or.inr ⟨rfl, fun q => by obtain ⟨q1, q2, q3, q4⟩ := q; omega⟩
    · refine And.intro (zA_165 hS) ⟨_, sn_Y_feedN.up (by decide), ?_⟩
      refine ⟨n, s, rfl, hS, hR, (by first | exact hGd | (clear hQ; grind [xu])), (by first | exact hPB | (clear hQ; grind [xu])), (by omega), ?_⟩
      intro I56o p56h3 p56bhG2 p56bbfr
      have g56 : gaN s n (bnp s) ≤ 20 := (gaN_le hGd (by omega) (Nat.le_refl (bnp s)))
      refine And.intro (zA_165 hS) (zrdR (v := some 268) (zR_165_48 hR) ?_)
      refine And.intro (zA_268 hS) (zrd (v := (gaN s n (bnp s))) p56h3 ?_)
      refine And.intro (by omega) ⟨fun h66 => ?_, fun h66 => ?_⟩
      · refine ⟨((13 - n), (50 - (0 : Nat)), 0), zlt6 (by omega), [some (zvr (165)), some (zvi (sB x.2.2.1 + svkF s x n)), some (zvi (sC x.2.2.1 (sV x.2.2.1) + svkR s n)), some (zvi (x.2.2.2 + 1 + svkN s x n)), some (zvi (n)), some (zvi ((0 : Nat)))], ⟨rfl, rfl, rfl, rfl, rfl, rfl, rfl⟩, n, 0, rfl, rfl, rfl, rfl, rfl, rfl, (by omega), (by omega), (Eq.trans (b := ((gaN s n (bnp s)) : Int)) p56h3 (by omega)), (by clear hQ; grind [xu]), (by omega), (fun q hq => absurd hq (Nat.not_lt_zero q)), (by first | exact (zMS_fr hST1 (fun c j h => ((p56bbfr c j (by omega) (by omega)).trans rfl))) | (clear hQ; grind [xu])), (by first | exact (zMF_fr hMF1 (fun c j h => ((p56bbfr c j (by omega) (by omega)).trans rfl))) | (clear hQ; grind [xu])), (fun c j h0 h1 h2 h3 h4 h5 h6 h7 h8 h9 h10 h11 => ((p56bbfr c j h10 h11).trans ((fr c j h0 h1 h2 h3 h4 h5 h6 h7 h8 h9 h10 h11).trans rfl)))⟩
      · refine ⟨((13 - (n + 1)), 99, 0), zlt6 (by omega), [some (zvr (165)), some (zvi (sB x.2.2.1 + svkF s x (n + 1))), some (zvi (sC x.2.2.1 (sV x.2.2.1) + svkR s (n + 1))), some (zvi (x.2.2.2 + 1 + svkN s x (n + 1))), some (zvi ((n + 1))), none], ⟨rfl, (congrArg (fun z => some (zvi z)) (by
  first
  | (have w9 := svk_n (s := s) (x := x) (n := n) (by omega); omega)
  | (have w9 := svk_y1 (s := s) (x := x) (n := n) (by omega) (zlow_no (fun q hq => hno q (by omega))); omega)
  | (have w8 : svR x.1 x.2.2.1 (gaF s n (bnp s)) (gaN s n (bnp s)) = (u : Int) := zlow_at (show stSm x.1 x.2.2.1 (gaF s n (bnp s)) (gaN s n (bnp s)) u from (by rcases p93hv with q9 | q9; exact q9.2; exfalso; omega)) hno (by omega)
     have w9 := svk_y0 (s := s) (x := x) (n := n) (by omega) (by omega)
     omega))), (congrArg (fun z => some (zvi z)) (by
  first
  | (have w9 := svk_n (s := s) (x := x) (n := n) (by omega); omega)
  | (have w9 := svk_y1 (s := s) (x := x) (n := n) (by omega) (zlow_no (fun q hq => hno q (by omega))); omega)
  | (have w8 : svR x.1 x.2.2.1 (gaF s n (bnp s)) (gaN s n (bnp s)) = (u : Int) := zlow_at (show stSm x.1 x.2.2.1 (gaF s n (bnp s)) (gaN s n (bnp s)) u from (by rcases p93hv with q9 | q9; exact q9.2; exfalso; omega)) hno (by omega)
     have w9 := svk_y0 (s := s) (x := x) (n := n) (by omega) (by omega)
     omega))), (congrArg (fun z => some (zvi z)) (by
  first
  | (have w9 := svk_n (s := s) (x := x) (n := n) (by omega); omega)
  | (have w9 := svk_y1 (s := s) (x := x) (n := n) (by omega) (zlow_no (fun q hq => hno q (by omega))); omega)
  | (have w8 : svR x.1 x.2.2.1 (gaF s n (bnp s)) (gaN s n (bnp s)) = (u : Int) := zlow_at (show stSm x.1 x.2.2.1 (gaF s n (bnp s)) (gaN s n (bnp s)) u from (by rcases p93hv with q9 | q9; exact q9.2; exfalso; omega)) hno (by omega)
     have w9 := svk_y0 (s := s) (x := x) (n := n) (by omega) (by omega)
     omega))), rfl, rfl⟩, (n + 1), rfl, rfl, rfl, rfl, rfl, rfl, (by omega), (by first | exact (zMS_fr hST1 (fun c j h => ((p56bbfr c j (by omega) (by omega)).trans rfl))) | (clear hQ; grind [xu])), (by first | exact (zMF_fr hMF1 (fun c j h => ((p56bbfr c j (by omega) (by omega)).trans rfl))) | (clear hQ; grind [xu])), (fun c j h0 h1 h2 h3 h4 h5 h6 h7 h8 h9 h10 h11 => ((p56bbfr c j h10 h11).trans ((fr c j h0 h1 h2 h3 h4 h5 h6 h7 h8 h9 h10 h11).trans rfl)))⟩
  · rintro nM lsM stM I1 L1 R1 S1 hz1 ⟨n, u, rfl, rfl, rfl, rfl, rfl, rfl, hn, hu, h31, hGa1, hne, hno, hST1, hMF1, fr⟩
    have hPB1 : zPB s I1 := (zPB_fr hPB (fun c j h => fr c j (by omega) (by omega) (by omega) (by omega) (by omega) (by omega) (by omega) (by omega) (by omega) (by omega) (by omega) (by omega) ))
    have hn221 := hPB1.2.1
    have hlg1 : ∀ j : Nat, j < 400 → I1 270 j = x.1 j := (fun j hj => (fr 270 j (by omega) (by omega) (by omega) (by omega) (by omega) (by omega) (by omega) (by omega) (by omega) (by omega) (by omega) (by omega) ).trans (hlg j hj))
    have h511 : I1 268 11 = sB x.2.2.1 := hST1.1
    have h515 : I1 268 15 = sV x.2.2.1 := hST1.2.1
    have hkR := svkR_b s n
    have hkF := svkF_b s x n
    have hkN := svkN_b (x := x) hGd (n := n) (by omega)
    have h20 := gaN_le hGd hn (Nat.le_refl (bnp s))
    refine And.intro (zA_165 hS) (zrdR (v := some 268) (zR_165_48 hR) ?_)
    refine And.intro (zA_268 hS) (zrd (v := (sB x.2.2.1)) h511 ?_)
    refine And.intro ⟨(by omega), (by omega)⟩ ⟨fun h84 => ?_, fun h84 => ?_⟩
    · refine And.intro (zA_165 hS) (zrdR (v := some 268) (zR_165_48 hR) ?_)
      refine And.intro (zA_268 hS) (zrd (v := (sB x.2.2.1)) h511 ?_)
      refine And.intro ⟨(by omega), (by omega)⟩ ⟨fun h115 => ?_, (fun h115 => False.elim (by omega))⟩
      refine And.intro (zA_165 hS) (zrdR (v := some 268) (zR_165_48 hR) ?_)
      refine And.intro (zA_268 hS) (zrd (v := (sB x.2.2.1)) h511 ?_)
      refine And.intro ⟨(by omega), (by omega)⟩ ⟨fun h135 => ?_, (fun h135 => False.elim (by omega))⟩
      refine And.intro (zA_165 hS) (zrdR (v := some 268) (zR_165_48 hR) ?_)
      refine And.intro (zA_268 hS) (zrd (v := (gaN s n (bnp s))) h31 ?_)
      refine ⟨((13 - (n + 1)), 99, 0), zlt6 (by omega), [some (zvr (165)), some (zvi (sB x.2.2.1 + svkF s x (n + 1))), some (zvi (sC x.2.2.1 (sV x.2.2.1) + svkR s (n + 1))), some (zvi (x.2.2.2 + 1 + svkN s x (n + 1))), some (zvi ((n + 1))), none], ⟨rfl, (congrArg (fun z => some (zvi z)) (by
  first
  | (have w9 := svk_n (s := s) (x := x) (n := n) (by omega); omega)
  | (have w9 := svk_y1 (s := s) (x := x) (n := n) (by omega) (zlow_no (fun q hq => hno q (by omega))); omega)
  | (have w8 : svR x.1 x.2.2.1 (gaF s n (bnp s)) (gaN s n (bnp s)) = (u : Int) := zlow_at (show stSm x.1 x.2.2.1 (gaF s n (bnp s)) (gaN s n (bnp s)) u from (by rcases p93hv with q9 | q9; exact q9.2; exfalso; omega)) hno (by omega)
     have w9 := svk_y0 (s := s) (x := x) (n := n) (by omega) (by omega)
     omega))), (congrArg (fun z => some (zvi z)) (by
  first
  | (have w9 := svk_n (s := s) (x := x) (n := n) (by omega); omega)
  | (have w9 := svk_y1 (s := s) (x := x) (n := n) (by omega) (zlow_no (fun q hq => hno q (by omega))); omega)
  | (have w8 : svR x.1 x.2.2.1 (gaF s n (bnp s)) (gaN s n (bnp s)) = (u : Int) := zlow_at (show stSm x.1 x.2.2.1 (gaF s n (bnp s)) (gaN s n (bnp s)) u from (by rcases p93hv with q9 | q9; exact q9.2; exfalso; omega)) hno (by omega)
     have w9 := svk_y0 (s := s) (x := x) (n := n) (by omega) (by omega)
     omega))), (congrArg (fun z => some (zvi z)) (by
  first
  | (have w9 := svk_n (s := s) (x := x) (n := n) (by omega); omega)
  | (have w9 := svk_y1 (s := s) (x := x) (n := n) (by omega) (zlow_no (fun q hq => hno q (by omega))); omega)
  | (have w8 : svR x.1 x.2.2.1 (gaF s n (bnp s)) (gaN s n (bnp s)) = (u : Int) := zlow_at (show stSm x.1 x.2.2.1 (gaF s n (bnp s)) (gaN s n (bnp s)) u from (by rcases p93hv with q9 | q9; exact q9.2; exfalso; omega)) hno (by omega)
     have w9 := svk_y0 (s := s) (x := x) (n := n) (by omega) (by omega)
     omega))), rfl, rfl⟩, (n + 1), rfl, rfl, rfl, rfl, rfl, rfl, (by omega), (by first | exact (zMS_fr hST1 (fun c j h => rfl)) | (clear hQ; grind [xu])), (by first | exact (zMF_fr hMF1 (fun c j h => rfl)) | (clear hQ; grind [xu])), (fun c j h0 h1 h2 h3 h4 h5 h6 h7 h8 h9 h10 h11 => ((fr c j h0 h1 h2 h3 h4 h5 h6 h7 h8 h9 h10 h11).trans rfl))⟩
    · refine And.intro (zA_165 hS) (zrdR (v := some 268) (zR_165_48 hR) ?_)
      refine And.intro (zA_268 hS) ⟨_, sn_B_food.up (by decide), ?_⟩
      refine ⟨u, x.2.2.2, x.1, x.2.2.1, (gaF s n (bnp s)), (gaN s n (bnp s)), rfl, hS, hR, hG9, hz40, hST1, hMF1, hlg1, h31, (fun i hi => hGa1 i hi), (by omega), (by omega), ?_⟩
      intro v93o p93hv
      refine And.intro (by omega) ⟨fun h96 => ?_, fun h96 => ?_⟩
      · refine And.intro (zA_165 hS) (zrdR (v := some 268) (zR_165_48 hR) ?_)
        refine And.intro (zA_268 hS) (zrd (v := (sB x.2.2.1)) h511 ?_)
        refine And.intro ⟨(by omega), (by omega)⟩ ⟨(fun h115 => False.elim (by omega)), fun h115 => ?_⟩
        refine And.intro (zA_165 hS) (zrdR (v := some 268) (zR_165_48 hR) ?_)
        refine And.intro (zA_268 hS) (zrd (v := (sB x.2.2.1)) h511 ?_)
        refine And.intro ⟨(by omega), (by omega)⟩ ⟨(fun h135 => False.elim (by omega)), fun h135 => ?_⟩
        refine ⟨((13 - (n + 1)), 99, 0), zlt6 (by omega), [some (zvr (165)), some (zvi (sB x.2.2.1 + svkF s x (n + 1))), some (zvi (sC x.2.2.1 (sV x.2.2.1) + svkR s (n + 1))), some (zvi (x.2.2.2 + 1 + svkN s x (n + 1))), some (zvi ((n + 1))), none], ⟨rfl, (congrArg (fun z => some (zvi z)) (by
  first
  | (have w9 := svk_n (s := s) (x := x) (n := n) (by omega); omega)
  | (have w9 := svk_y1 (s := s) (x := x) (n := n) (by omega) (zlow_no (fun q hq => hno q (by omega))); omega)
  | (have w8 : svR x.1 x.2.2.1 (gaF s n (bnp s)) (gaN s n (bnp s)) = (u : Int) := zlow_at (show stSm x.1 x.2.2.1 (gaF s n (bnp s)) (gaN s n (bnp s)) u from (by rcases p93hv with q9 | q9; exact q9.2; exfalso; omega)) hno (by omega)
     have w9 := svk_y0 (s := s) (x := x) (n := n) (by omega) (by omega)
     omega))), (congrArg (fun z => some (zvi z)) (by
  first
  | (have w9 := svk_n (s := s) (x := x) (n := n) (by omega); omega)
  | (have w9 := svk_y1 (s := s) (x := x) (n := n) (by omega) (zlow_no (fun q hq => hno q (by omega))); omega)
  | (have w8 : svR x.1 x.2.2.1 (gaF s n (bnp s)) (gaN s n (bnp s)) = (u : Int) := zlow_at (show stSm x.1 x.2.2.1 (gaF s n (bnp s)) (gaN s n (bnp s)) u from (by rcases p93hv with q9 | q9; exact q9.2; exfalso; omega)) hno (by omega)
     have w9 := svk_y0 (s := s) (x := x) (n := n) (by omega) (by omega)
     omega))), (congrArg (fun z => some (zvi z)) (by
  first
  | (have w9 := svk_n (s := s) (x := x) (n := n) (by omega); omega)
  | (have w9 := svk_y1 (s := s) (x := x) (n := n) (by omega) (zlow_no (fun q hq => hno q (by omega))); omega)
  | (have w8 : svR x.1 x.2.2.1 (gaF s n (bnp s)) (gaN s n (bnp s)) = (u : Int) := zlow_at (show stSm x.1 x.2.2.1 (gaF s n (bnp s)) (gaN s n (bnp s)) u from (by rcases p93hv with q9 | q9; exact q9.2; exfalso; omega)) hno (by omega)
     have w9 := svk_y0 (s := s) (x := x) (n := n) (by omega) (by omega)
     omega))), rfl, rfl⟩, (n + 1), rfl, rfl, rfl, rfl, rfl, rfl, (by omega), (by first | exact (zMS_fr hST1 (fun c j h => rfl)) | (clear hQ; grind [xu])), (by first | exact (zMF_fr hMF1 (fun c j h => rfl)) | (clear hQ; grind [xu])), (fun c j h0 h1 h2 h3 h4 h5 h6 h7 h8 h9 h10 h11 => ((fr c j h0 h1 h2 h3 h4 h5 h6 h7 h8 h9 h10 h11).trans rfl))⟩
      · refine ⟨((13 - n), (50 - (u + 1)), 0), zlt6 (by omega), [some (zvr (165)), some (zvi (sB x.2.2.1 + svkF s x n)), some (zvi (sC x.2.2.1 (sV x.2.2.1) + svkR s n)), some (zvi (x.2.2.2 + 1 + svkN s x n)), some (zvi (n)), some (zvi ((u + 1)))], ⟨rfl, rfl, rfl, rfl, rfl, rfl, rfl⟩, n, (u + 1), rfl, rfl, rfl, rfl, rfl, rfl, (by omega), (by omega), (Eq.trans (b := ((gaN s n (bnp s)) : Int)) h31 (by omega)), (by first | exact (zGa_fr hGa1 (fun c j h => rfl)) | (clear hQ; grind [xu])), (by first | exact hne | (clear hQ; grind [xu])), ?_, (by first | exact (zMS_fr hST1 (fun c j h => rfl)) | (clear hQ; grind [xu])), (by first | exact (zMF_fr hMF1 (fun c j h => rfl)) | (clear hQ; grind [xu])), (fun c j h0 h1 h2 h3 h4 h5 h6 h7 h8 h9 h10 h11 => ((fr c j h0 h1 h2 h3 h4 h5 h6 h7 h8 h9 h10 h11).trans rfl))⟩
        · intro q hq
          by_cases e : q = u
          · subst e
            rcases p93hv with q9 | q9
            · exfalso; omega
            · exact q9.2
          · exact hno q (by omega))
