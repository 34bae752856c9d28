/-! zg -/
def T_A_keep : ZT := fun args I L R S Q => ∃ (x : SvK) (cr : Nat) (cn : Nat) (b : Nat) (s : BdS), args = [zvr 145, zvr 82] ∧ (zSh S) ∧ (zRs R) ∧ (zBA b s I L) ∧ (bGd s) ∧ (zCL x.1 x.2.1 x.2.2.1 x.2.2.2 cr cn I) ∧ ∀ (v : Int) (I' : ZI), (v = svV b cr s x) → (if 0 ≤ svV b cr s x then zCL (svE s x).1 (svE s x).2.1 (svE s x).2.2.1 (svE s x).2.2.2 0 cn I' else zCL x.1 x.2.1 x.2.2.1 x.2.2.2 cr cn I') → (∀ c j : Nat, ¬ c = 146 → ¬ c = 147 → ¬ c = 148 → ¬ c = 149 → ¬ c = 150 → ¬ c = 151 → ¬ c = 152 → ¬ (c = 145 ∧ j = 5) → ¬ (c = 145 ∧ j = 9) → ¬ (c = 145 ∧ j = 1) → ¬ c = 153 → I' c j = I c j) → Q (some (zvi (v))) I' L R S
theorem sn_A_keep : ZSnd 6 10 12 T_A_keep := ZSnd.loops (zT10_12 5) (by
  rintro args I L R S Q hz ⟨x, cr, cn, b, s, rfl, hS, hR, hBA, hGd, hCL, hQ⟩
  obtain ⟨⟨hb0, hbw, hbh, hbd, hbs⟩, hnb, hcl, hPT, hNT, hwy, hco, hnd⟩ := id hBA
  obtain ⟨hP1, hP2, hP3, hP4⟩ := id hPT
  obtain ⟨hN1, hN2, hN3, hN4⟩ := id hNT
  obtain ⟨⟨⟨gW1, gW2⟩, ⟨gH1, gH2⟩, ⟨gD1, gD2⟩, gB9⟩, ⟨gnp, gnn⟩, gc, gp, gn, gco, gnd, gun⟩ := id hGd
  have hz820 := hz.1 82 0
  obtain ⟨h1, h2, h3, hlg, ⟨hcr, hcn, hsm, hLg⟩, h6⟩ := id hCL
  have hz40 := hLg.2.2.1
  have hG9 : stG (stN x.1 x.2.1).1 x.2.2.1 := by rw [hsm]; exact (stN_G hLg.1).1
  have hsv12 : sV x.2.2.1 ≤ 12 := hG9.2.1
  have hsb24 : sB x.2.2.1 ≤ 24 := hG9.1
  have hsc8 : sC x.2.2.1 (sV x.2.2.1) ≤ 8 := (hG9.2.2.1 (sV x.2.2.1) (Nat.le_refl _)).1
  refine ⟨[36, 175], fun nM tM lsM stM I1 L1 R1 S1 => match tM with
      | 36 => ∃ (n : Nat), nM = (3, (13 - n), 0) ∧ lsM = [some (zvr (145)), some (zvr (82)), some (zvi (sC x.2.2.1 (sV x.2.2.1) + svkR s n)), some (zvi (svkF s x n)), some (zvi (1 + svkN s x n)), some (zvi (n)), none, none] ∧ stM = [] ∧ L1 = L ∧ R1 = R ∧ S1 = S ∧ (n ≤ bnn s) ∧ (cr = 0 ∧ ¬ b = 0) ∧ (∀ c j : Nat, ¬ c = 153 → I1 c j = I c j)
      | 175 => ∃ (n : Nat), nM = (2, (13 - n), 0) ∧ lsM = [some (zvr (145)), some (zvr (82)), none, none, none, none, some (zvi (n)), none] ∧ stM = [] ∧ L1 = L ∧ R1 = R ∧ S1 = S ∧ (n ≤ bnn s) ∧ (cr = 0 ∧ ¬ b = 0) ∧ (svFit s x) ∧ (svIn s x n) ∧ (zCL (svK s x n).1 (svK s x n).2.1 (svK s x n).2.2.1 (svK s x n).2.2.2 0 cn I1) ∧ (∀ c j : Nat, ¬ c = 146 → ¬ c = 147 → ¬ c = 148 → ¬ c = 149 → ¬ c = 150 → ¬ c = 151 → ¬ c = 152 → ¬ (c = 145 ∧ j = 5) → ¬ (c = 145 ∧ j = 9) → ¬ (c = 145 ∧ j = 1) → ¬ c = 153 → I1 c j = I c j)
      | _ => False, rfl, ?_, ⟨?_, ?_, True.intro⟩⟩
  · refine And.intro (zA_82 hS) (zrd (v := (b - 1)) hb0 ?_)
    refine And.intro ⟨(by omega), (zRb rfl)⟩ ⟨fun h5 => ?_, fun h5 => ?_⟩
    · refine hQ _ _ ?_ ?_ (fun c j h0 h1 h2 h3 h4 h5 h6 h7 h8 h9 h10 => rfl)
      · first
        | exact (svV_3 (by omega)).symm
        | exact (svV_n (by omega) (fun q => by have q9 : n = bnn s := (by omega); subst q9; obtain ⟨q1, q2, q3, q4⟩ := q; omega)).symm
        | (rw [svV_y (by omega) hfit]; omega)
      · first
        | (rw [if_neg (by rw [svV_3 (by omega)]; decide)]
           exact hCL)
        | (rw [if_neg (by rw [svV_n (by omega) (fun q => by have q9 : n = bnn s := (by omega); subst q9; obtain ⟨q1, q2, q3, q4⟩ := q; omega)]; decide)]
           obtain rfl : cr = 0 := hcb.1
           exact hCL1)
        | (rw [if_pos (by rw [svV_y (by omega) hfit]; exact Int.natCast_nonneg _)]
           have q9 : n = bnn s := (by omega)
           subst q9
           have z9 := p216hCL2
           rw [(svE_ok hIn hfit).2.1, (svE_ok hIn hfit).2.2] at z9
           exact z9)
    · refine And.intro (zA_145 hS) (zrd (v := cr) h2 ?_)
      refine And.intro (by omega) ⟨fun h12 => ?_, fun h12 => ?_⟩
      · have t12 : cr = 0 ∧ ¬ b = 0 := (by omega)
        have t12b : I 145 9 = sV x.2.2.1 := (h6 (by omega)).2.1.2.1
        have t12bb : I 145 5 = sB x.2.2.1 := (h6 (by omega)).2.1.1
        refine And.intro (zA_145 hS) (zrdR (v := some 151) (zR_145_7 hR) ?_)
        refine And.intro (zA_145 hS) (fun v23 e23 r23 => ?_)
        refine And.intro (zP_151 hS (by omega) (by omega)) (fun v26 e26 r26 => ?_)
        have f26 : v26 = sC x.2.2.1 (sV x.2.2.1) := (by have z9 := (h6 (by omega)).2.1.2.2.2 (sV x.2.2.1) (Nat.le_refl _); exact e26.trans ((congrArg (I 151) (by have z8 := (h6 (by omega)).2.1.2.1; omega)).trans z9.1))
        refine ⟨(3, (13 - (0 : Nat)), 0), [some (zvr (145)), some (zvr (82)), some (zvi (sC x.2.2.1 (sV x.2.2.1) + svkR s (0 : Nat))), some (zvi (svkF s x (0 : Nat))), some (zvi (1 + svkN s x (0 : Nat))), some (zvi ((0 : Nat))), none, none], ⟨rfl, rfl, (congrArg (fun z => some (zvi z)) (by first | rfl | (have w9 : svkR s 0 = 0 := rfl; have w8 : svkF s x 0 = 0 := rfl; have w7 : svkN s x 0 = 0 := rfl; omega))), (congrArg (fun z => some (zvi z)) (by first | rfl | (have w9 : svkR s 0 = 0 := rfl; have w8 : svkF s x 0 = 0 := rfl; have w7 : svkN s x 0 = 0 := rfl; omega))), (congrArg (fun z => some (zvi z)) (by first | rfl | (have w9 : svkR s 0 = 0 := rfl; have w8 : svkF s x 0 = 0 := rfl; have w7 : svkN s x 0 = 0 := rfl; omega))), rfl, rfl⟩, 0, rfl, rfl, rfl, rfl, rfl, rfl, (by omega), (by clear hQ; grind [xu]), (fun c j h0 => rfl)⟩
      · refine hQ _ _ ?_ ?_ (fun c j h0 h1 h2 h3 h4 h5 h6 h7 h8 h9 h10 => rfl)
        · first
          | exact (svV_3 (by omega)).symm
          | exact (svV_n (by omega) (fun q => by have q9 : n = bnn s := (by omega); subst q9; obtain ⟨q1, q2, q3, q4⟩ := q; omega)).symm
          | (rw [svV_y (by omega) hfit]; omega)
        · first
          | (rw [if_neg (by rw [svV_3 (by omega)]; decide)]
             exact hCL)
          | (rw [if_neg (by rw [svV_n (by omega) (fun q => by have q9 : n = bnn s := (by omega); subst q9; obtain ⟨q1, q2, q3, q4⟩ := q; omega)]; decide)]
             obtain rfl : cr = 0 := hcb.1
             exact hCL1)
          | (rw [if_pos (by rw [svV_y (by omega) hfit]; exact Int.natCast_nonneg _)]
             have q9 : n = bnn s := (by omega)
             subst q9
             have z9 := p216hCL2
             rw [(svE_ok hIn hfit).2.1, (svE_ok hIn hfit).2.2] at z9
             exact z9)
  · rintro nM lsM stM I1 L1 R1 S1 hz1 ⟨n, rfl, rfl, rfl, rfl, rfl, rfl, hn, hcb, fr⟩
    have hBA1 : zBA b s I1 L1 := (zBA_fr hBA (fun c j h => fr c j (by omega)) (fun c j h => rfl))
    have hP21 : I1 88 2 = bnp s := hBA1.2.2.2.1.2.1
    have hN21 : I1 90 2 = bnn s := hBA1.2.2.2.2.1.2.1
    have hCL1 : zCL x.1 x.2.1 x.2.2.1 x.2.2.2 0 cn I1 := (by obtain rfl : cr = 0 := hcb.1; exact zCL_fr hCL (fun c j h => fr c j (by omega)))
    have hkR := svkR_b s n
    have hkF := svkF_b s x n
    have hkN := svkN_b (x := x) hGd hn
    have h70 := hCL1.2.2.2.2.2 rfl
    have h719 : I1 145 9 = sV x.2.2.1 := h70.2.1.2.1
    have h715 : I1 145 5 = sB x.2.2.1 := h70.2.1.1
    have h711 : I1 145 1 = x.2.2.2 := hCL1.1
    have hGz : stG x.2.2.2 x.2.2.1 := (by rw [← h70.1]; exact hG9)
    refine And.intro (zA_82 hS) (zrdR (v := some 90) (zR_82_11 hR) ?_)
    refine And.intro (zA_90 hS) (zrd (v := (bnn s)) hN21 ?_)
    refine And.intro ⟨(by omega), (by omega)⟩ ⟨fun h45 => ?_, fun h45 => ?_⟩
    · refine And.intro ⟨(by omega), (zRb rfl)⟩ ⟨fun h122 => ?_, fun h122 => ?_⟩
      · refine And.intro (zRb rfl) (zbt rfl ?_)
        refine hQ _ _ ?_ ?_ (fun c j h0 h1 h2 h3 h4 h5 h6 h7 h8 h9 h10 => ((fr c j h10).trans rfl))
        · first
          | exact (svV_3 (by omega)).symm
          | exact (svV_n (by omega) (fun q => by have q9 : n = bnn s := (by omega); subst q9; obtain ⟨q1, q2, q3, q4⟩ := q; omega)).symm
          | (rw [svV_y (by omega) hfit]; omega)
        · first
          | (rw [if_neg (by rw [svV_3 (by omega)]; decide)]
             exact hCL)
          | (rw [if_neg (by rw [svV_n (by omega) (fun q => by have q9 : n = bnn s := (by omega); subst q9; obtain ⟨q1, q2, q3, q4⟩ := q; omega)]; decide)]
             obtain rfl : cr = 0 := hcb.1
             exact hCL1)
          | (rw [if_pos (by rw [svV_y (by omega) hfit]; exact Int.natCast_nonneg _)]
             have q9 : n = bnn s := (by omega)
             subst q9
             have z9 := p216hCL2
             rw [(svE_ok hIn hfit).2.1, (svE_ok hIn hfit).2.2] at z9
             exact z9)
      · refine And.intro (zA_145 hS) (zrd (v := (sB x.2.2.1)) h715 ?_)
        refine And.intro ⟨(by omega), (zRb rfl)⟩ ⟨fun h133 => ?_, fun h133 => ?_⟩
        · refine And.intro (zRb rfl) (zbt rfl ?_)
          refine hQ _ _ ?_ ?_ (fun c j h0 h1 h2 h3 h4 h5 h6 h7 h8 h9 h10 => ((fr c j h10).trans rfl))
          · first
            | exact (svV_3 (by omega)).symm
            | exact (svV_n (by omega) (fun q => by have q9 : n = bnn s := (by omega); subst q9; obtain ⟨q1, q2, q3, q4⟩ := q; omega)).symm
            | (rw [svV_y (by omega) hfit]; omega)
          · first
            | (rw [if_neg (by rw [svV_3 (by omega)]; decide)]
               exact hCL)
            | (rw [if_neg (by rw [svV_n (by omega) (fun q => by have q9 : n = bnn s := (by omega); subst q9; obtain ⟨q1, q2, q3, q4⟩ := q; omega)]; decide)]
               obtain rfl : cr = 0 := hcb.1
               exact hCL1)
            | (rw [if_pos (by rw [svV_y (by omega) hfit]; exact Int.natCast_nonneg _)]
               have q9 : n = bnn s := (by omega)
               subst q9
               have z9 := p216hCL2
               rw [(svE_ok hIn hfit).2.1, (svE_ok hIn hfit).2.2] at z9
               exact z9)
        · refine And.intro (zA_145 hS) (zrd (v := (sV x.2.2.1)) h719 ?_)
          refine And.intro ⟨(by omega), (zRb rfl)⟩ ⟨fun h142 => ?_, fun h142 => ?_⟩
          · refine And.intro (zRb rfl) (zbt rfl ?_)
            refine hQ _ _ ?_ ?_ (fun c j h0 h1 h2 h3 h4 h5 h6 h7 h8 h9 h10 => ((fr c j h10).trans rfl))
            · first
              | exact (svV_3 (by omega)).symm
              | exact (svV_n (by omega) (fun q => by have q9 : n = bnn s := (by omega); subst q9; obtain ⟨q1, q2, q3, q4⟩ := q; omega)).symm
              | (rw [svV_y (by omega) hfit]; omega)
            · first
              | (rw [if_neg (by rw [svV_3 (by omega)]; decide)]
                 exact hCL)
              | (rw [if_neg (by rw [svV_n (by omega) (fun q => by have q9 : n = bnn s := (by omega); subst q9; obtain ⟨q1, q2, q3, q4⟩ := q; omega)]; decide)]
                 obtain rfl : cr = 0 := hcb.1
                 exact hCL1)
              | (rw [if_pos (by rw [svV_y (by omega) hfit]; exact Int.natCast_nonneg _)]
                 have q9 : n = bnn s := (by omega)
                 subst q9
                 have z9 := p216hCL2
                 rw [(svE_ok hIn hfit).2.1, (svE_ok hIn hfit).2.2] at z9
                 exact z9)
          · refine And.intro (zRb rfl) (zbf rfl ?_)
            refine And.intro (zA_145 hS) (zrd (v := (x.2.2.2)) h711 ?_)
            refine And.intro ⟨(by omega), (zRb rfl)⟩ ⟨fun h167 => ?_, fun h167 => ?_⟩
            · refine ⟨(2, (13 - (0 : Nat)), 0), zlt6 (by omega), [some (zvr (145)), some (zvr (82)), none, none, none, none, some (zvi ((0 : Nat))), none], ⟨rfl, rfl, rfl, rfl⟩, 0, rfl, rfl, rfl, rfl, rfl, rfl, (by omega), (by first | exact hcb | (clear hQ; grind [xu])), (by have q9 : n = bnn s := (by omega); subst q9; exact ⟨by omega, by omega, by omega, by omega⟩), (svIn_0 hGz), hCL1, (fun c j h0 h1 h2 h3 h4 h5 h6 h7 h8 h9 h10 => ((fr c j h10).trans rfl))⟩
            · refine hQ _ _ ?_ ?_ (fun c j h0 h1 h2 h3 h4 h5 h6 h7 h8 h9 h10 => ((fr c j h10).trans rfl))
              · first
                | exact (svV_3 (by omega)).symm
                | exact (svV_n (by omega) (fun q => by have q9 : n = bnn s := (by omega); subst q9; obtain ⟨q1, q2, q3, q4⟩ := q; omega)).symm
                | (rw [svV_y (by omega) hfit]; omega)
              · first
                | (rw [if_neg (by rw [svV_3 (by omega)]; decide)]
                   exact hCL)
                | (rw [if_neg (by rw [svV_n (by omega) (fun q => by have q9 : n = bnn s := (by omega); subst q9; obtain ⟨q1, q2, q3, q4⟩ := q; omega)]; decide)]
                   obtain rfl : cr = 0 := hcb.1
                   exact hCL1)
                | (rw [if_pos (by rw [svV_y (by omega) hfit]; exact Int.natCast_nonneg _)]
                   have q9 : n = bnn s := (by omega)
                   subst q9
                   have z9 := p216hCL2
                   rw [(svE_ok hIn hfit).2.1, (svE_ok hIn hfit).2.2] at z9
                   exact z9)
    · refine And.intro (zA_145 hS) ⟨_, sn_A_gat.up (by decide), ?_⟩
      refine ⟨n, b, s, rfl, hS, hR, (by clear hQ; grind [xu]), (by first | exact hGd | (clear hQ; grind [xu])), (by omega), ?_⟩
      intro v52o I52o p52hv p52bhG2 p52bbfr
      have g52 : v52o ≤ 20 := (by have z9 := gaN_le hGd (n := n) (by omega) (Nat.le_refl _); omega)
      refine And.intro (by omega) ⟨fun h59 => ?_, fun h59 => ?_⟩
      · refine ⟨(3, (13 - (n + 1)), 0), zlt6 (by omega), [some (zvr (145)), some (zvr (82)), some (zvi (sC x.2.2.1 (sV x.2.2.1) + svkR s (n + 1))), some (zvi (svkF s x (n + 1))), some (zvi (1 + svkN s x (n + 1))), some (zvi ((n + 1))), none, none], ⟨rfl, rfl, (congrArg (fun z => some (zvi z)) (by
  first
  | (have w9 := svk_n (s := s) (x := x) (n := n) (by omega); omega)
  | (have w9 := svk_y1 (s := s) (x := x) (n := n) (by omega) (by rw [← g65]; omega); omega)
  | (have w9 := svk_y0 (s := s) (x := x) (n := n) (by omega) (by rw [← g65]; omega); omega))), (congrArg (fun z => some (zvi z)) (by
  first
  | (have w9 := svk_n (s := s) (x := x) (n := n) (by omega); omega)
  | (have w9 := svk_y1 (s := s) (x := x) (n := n) (by omega) (by rw [← g65]; omega); omega)
  | (have w9 := svk_y0 (s := s) (x := x) (n := n) (by omega) (by rw [← g65]; omega); omega))), (congrArg (fun z => some (zvi z)) (by
  first
  | (have w9 := svk_n (s := s) (x := x) (n := n) (by omega); omega)
  | (have w9 := svk_y1 (s := s) (x := x) (n := n) (by omega) (by rw [← g65]; omega); omega)
  | (have w9 := svk_y0 (s := s) (x := x) (n := n) (by omega) (by rw [← g65]; omega); omega))), rfl, rfl⟩, (n + 1), rfl, rfl, rfl, rfl, rfl, rfl, (by omega), (by first | exact hcb | (clear hQ; grind [xu])), (fun c j h0 => ((p52bbfr c j h0).trans ((fr c j h0).trans rfl)))⟩
      · refine And.intro (zA_145 hS) ⟨_, sn_A_same.up (by decide), ?_⟩
        refine ⟨x.1, x.2.2.1, x.2.2.2, (gaF s n (bnp s)), v52o, rfl, hS, hR, hGz, (zCS_fr h70.2.1 (fun c j h => p52bbfr c j (by omega))), (zCY_fr h70.2.2 (fun c j h => p52bbfr c j (by omega))), (fun i hi => p52bhG2 i (by omega)), (by omega), ?_⟩
        intro v65o p65hv
        have g65 : v65o = svR x.1 x.2.2.1 (gaF s n (bnp s)) (gaN s n (bnp s)) := (by rw [p65hv, p52hv])
        have g65b : -1 ≤ v65o ∧ v65o ≤ 24 := (by have z9 := svR_b x.1 x.2.2.1 (gaF s n (bnp s)) (gaN s n (bnp s)); rw [← g65] at z9; omega)
        refine And.intro ⟨(by omega), (zRb rfl)⟩ ⟨fun h69 => ?_, fun h69 => ?_⟩
        · refine And.intro (zRb rfl) (zbt rfl ?_)
          refine And.intro (zRb rfl) (zbt rfl ?_)
          refine ⟨(3, (13 - (n + 1)), 0), zlt6 (by omega), [some (zvr (145)), some (zvr (82)), some (zvi (sC x.2.2.1 (sV x.2.2.1) + svkR s (n + 1))), some (zvi (svkF s x (n + 1))), some (zvi (1 + svkN s x (n + 1))), some (zvi ((n + 1))), none, none], ⟨rfl, rfl, (congrArg (fun z => some (zvi z)) (by
  first
  | (have w9 := svk_n (s := s) (x := x) (n := n) (by omega); omega)
  | (have w9 := svk_y1 (s := s) (x := x) (n := n) (by omega) (by rw [← g65]; omega); omega)
  | (have w9 := svk_y0 (s := s) (x := x) (n := n) (by omega) (by rw [← g65]; omega); omega))), (congrArg (fun z => some (zvi z)) (by
  first
  | (have w9 := svk_n (s := s) (x := x) (n := n) (by omega); omega)
  | (have w9 := svk_y1 (s := s) (x := x) (n := n) (by omega) (by rw [← g65]; omega); omega)
  | (have w9 := svk_y0 (s := s) (x := x) (n := n) (by omega) (by rw [← g65]; omega); omega))), (congrArg (fun z => some (zvi z)) (by
  first
  | (have w9 := svk_n (s := s) (x := x) (n := n) (by omega); omega)
  | (have w9 := svk_y1 (s := s) (x := x) (n := n) (by omega) (by rw [← g65]; omega); omega)
  | (have w9 := svk_y0 (s := s) (x := x) (n := n) (by omega) (by rw [← g65]; omega); omega))), rfl, rfl⟩, (n + 1), rfl, rfl, rfl, rfl, rfl, rfl, (by omega), (by first | exact hcb | (clear hQ; grind [xu])), (fun c j h0 => ((p52bbfr c j h0).trans ((fr c j h0).trans rfl)))⟩
        · refine And.intro (zRb rfl) (zbf rfl ?_)
          refine And.intro (zRb rfl) (zbf rfl ?_)
          refine ⟨(3, (13 - (n + 1)), 0), zlt6 (by omega), [some (zvr (145)), some (zvr (82)), some (zvi (sC x.2.2.1 (sV x.2.2.1) + svkR s (n + 1))), some (zvi (svkF s x (n + 1))), some (zvi (1 + svkN s x (n + 1))), some (zvi ((n + 1))), none, none], ⟨rfl, rfl, (congrArg (fun z => some (zvi z)) (by
  first
  | (have w9 := svk_n (s := s) (x := x) (n := n) (by omega); omega)
  | (have w9 := svk_y1 (s := s) (x := x) (n := n) (by omega) (by rw [← g65]; omega); omega)
  | (have w9 := svk_y0 (s := s) (x := x) (n := n) (by omega) (by rw [← g65]; omega); omega))), (congrArg (fun z => some (zvi z)) (by
  first
  | (have w9 := svk_n (s := s) (x := x) (n := n) (by omega); omega)
  | (have w9 := svk_y1 (s := s) (x := x) (n := n) (by omega) (by rw [← g65]; omega); omega)
  | (have w9 := svk_y0 (s := s) (x := x) (n := n) (by omega) (by rw [← g65]; omega); omega))), (congrArg (fun z => some (zvi z)) (by
  first
  | (have w9 := svk_n (s := s) (x := x) (n := n) (by omega); omega)
  | (have w9 := svk_y1 (s := s) (x := x) (n := n) (by omega) (by rw [← g65]; omega); omega)
  | (have w9 := svk_y0 (s := s) (x := x) (n := n) (by omega) (by rw [← g65]; omega); omega))), rfl, rfl⟩, (n + 1), rfl, rfl, rfl, rfl, rfl, rfl, (by omega), (by first | exact hcb | (clear hQ; grind [xu])), (fun c j h0 => ((p52bbfr c j h0).trans ((fr c j h0).trans rfl)))⟩
  · rintro nM lsM stM I1 L1 R1 S1 hz1 ⟨n, rfl, rfl, rfl, rfl, rfl, rfl, hn, hcb, hfit, hIn, hCL1, fr⟩
    have hBA1 : zBA b s I1 L1 := (zBA_fr hBA (fun c j h => fr c j (by omega) (by omega) (by omega) (by omega) (by omega) (by omega) (by omega) (by omega) (by omega) (by omega) (by omega) ) (fun c j h => rfl))
    have hN21 : I1 90 2 = bnn s := hBA1.2.2.2.2.1.2.1
    refine And.intro (zA_82 hS) (zrdR (v := some 90) (zR_82_11 hR) ?_)
    refine And.intro (zA_90 hS) (zrd (v := (bnn s)) hN21 ?_)
    refine And.intro ⟨(by omega), (by omega)⟩ ⟨fun h184 => ?_, fun h184 => ?_⟩
    · refine And.intro (zA_145 hS) ⟨_, sn_A_rec.up (by decide), ?_⟩
      refine ⟨(svK s x n).1, (svK s x n).2.1, (svK s x n).2.2.1, (svK s x n).2.2.2, cn, (3 : Int), ((-1) : Int), rfl, hS, hR, hCL1, (by have q9 : n = bnn s := (by omega); subst q9; exact (svE_ok hIn hfit).1), (by have q9 : n = bnn s := (by omega); subst q9; exact (svE_ok hIn hfit).2.1.trans (if_pos rfl).symm), (by omega), ?_⟩
      intro I216o p216hCL2 p216bfr
      have g216 : I216o 145 9 = sV x.2.2.1 + 1 := by
        have q9 : n = bnn s := (by omega)
        subst q9
        have z9 := (p216hCL2.2.2.2.2.2 rfl).2.1.2.1
        rw [(svE_ok hIn hfit).2.2] at z9
        have z8 : sV (stClo (svK s x (bnn s)).2.2.1) = sV (svK s x (bnn s)).2.2.1 + 1 := rfl
        have z7 := hIn.2.1
        omega
      refine And.intro (zA_145 hS) (fun v220 e220 r220 => ?_)
      refine hQ _ _ ?_ ?_ (fun c j h0 h1 h2 h3 h4 h5 h6 h7 h8 h9 h10 => ((p216bfr c j h0 h1 h2 h3 h4 h5 h6 h7 h8 h9).trans ((fr c j h0 h1 h2 h3 h4 h5 h6 h7 h8 h9 h10).trans rfl)))
      · first
        | exact (svV_3 (by omega)).symm
        | exact (svV_n (by omega) (fun q => by have q9 : n = bnn s := (by omega); subst q9; obtain ⟨q1, q2, q3, q4⟩ := q; omega)).symm
        | (rw [svV_y (by omega) hfit]; omega)
      · first
        | (rw [if_neg (by rw [svV_3 (by omega)]; decide)]
           exact hCL)
        | (rw [if_neg (by rw [svV_n (by omega) (fun q => by have q9 : n = bnn s := (by omega); subst q9; obtain ⟨q1, q2, q3, q4⟩ := q; omega)]; decide)]
           obtain rfl : cr = 0 := hcb.1
           exact hCL1)
        | (rw [if_pos (by rw [svV_y (by omega) hfit]; exact Int.natCast_nonneg _)]
           have q9 : n = bnn s := (by omega)
           subst q9
           have z9 := p216hCL2
           rw [(svE_ok hIn hfit).2.1, (svE_ok hIn hfit).2.2] at z9
           exact z9)
    · refine And.intro (zA_145 hS) ⟨_, sn_A_gat.up (by decide), ?_⟩
      refine ⟨n, b, s, rfl, hS, hR, (by clear hQ; grind [xu]), (by first | exact hGd | (clear hQ; grind [xu])), (by omega), ?_⟩
      intro v191o I191o p191hv p191bhG2 p191bbfr
      have g191 : v191o ≤ 20 := (by have z9 := gaN_le hGd (n := n) (by omega) (Nat.le_refl _); omega)
      refine And.intro (by omega) ⟨fun h198 => ?_, fun h198 => ?_⟩
      · refine ⟨(2, (13 - (n + 1)), 0), zlt6 (by omega), [some (zvr (145)), some (zvr (82)), none, none, none, none, some (zvi ((n + 1))), none], ⟨rfl, rfl, rfl, rfl⟩, (n + 1), rfl, rfl, rfl, rfl, rfl, rfl, (by omega), (by first | exact hcb | (clear hQ; grind [xu])), (by first | exact hfit | (clear hQ; grind [xu])), (svIn_s hGd hIn hfit (by omega)), ?_, (fun c j h0 h1 h2 h3 h4 h5 h6 h7 h8 h9 h10 => ((p191bbfr c j h10).trans ((fr c j h0 h1 h2 h3 h4 h5 h6 h7 h8 h9 h10).trans rfl)))⟩
        · first
          | (rw [svK_n (by omega)]
             exact zCL_fr hCL1 (fun c j h => p191bbfr c j (by omega)))
          | (rw [svK_y (by omega), ← p191hv]
             exact p204hCL2)
      · refine And.intro (zA_145 hS) ⟨_, sn_A_recB.up (by decide), ?_⟩
        refine ⟨(svK s x n).1, (svK s x n).2.1, (svK s x n).2.2.1, (svK s x n).2.2.2, cn, (gaF s n (bnp s)), v191o, rfl, hS, hR, (zCL_fr hCL1 (fun c j h => p191bbfr c j (by omega))), (fun i hi => p191bhG2 i (by omega)), (by omega), (svIn_f hIn hfit (by omega) (by omega)).1, (by have w9 := (svIn_f hIn hfit (by omega) (by omega)).2; rw [← p191hv] at w9; exact w9), (fun i hi => by have w9 := gaF_b hGd (n := (n : Int)) (i := i) (Nat.le_refl (bnp s)); omega), ?_⟩
        intro I204o p204hCL2 p204bfr
        refine ⟨(2, (13 - (n + 1)), 0), zlt6 (by omega), [some (zvr (145)), some (zvr (82)), none, none, none, none, some (zvi ((n + 1))), none], ⟨rfl, rfl, rfl, rfl⟩, (n + 1), rfl, rfl, rfl, rfl, rfl, rfl, (by omega), (by first | exact hcb | (clear hQ; grind [xu])), (by first | exact hfit | (clear hQ; grind [xu])), (svIn_s hGd hIn hfit (by omega)), ?_, (fun c j h0 h1 h2 h3 h4 h5 h6 h7 h8 h9 h10 => ((p204bfr c j h0 h1 h2 h3 h4 h5 h6 h7 h8 h9).trans ((p191bbfr c j h10).trans ((fr c j h0 h1 h2 h3 h4 h5 h6 h7 h8 h9 h10).trans rfl))))⟩
        · first
          | (rw [svK_n (by omega)]
             exact zCL_fr hCL1 (fun c j h => p191bbfr c j (by omega)))
          | (rw [svK_y (by omega), ← p191hv]
             exact p204hCL2))
