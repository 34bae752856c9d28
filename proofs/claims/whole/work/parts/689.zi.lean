/-! zi -/
def T_Y_sav0 : ZT := fun args I L R S Q => args = [zvr 165] ∧ (zSh S) ∧ (zRs R) ∧ (R 165 12 = none) ∧ ∀ (I' : ZI), (I' 165 0 = 3) → (∀ c j : Nat, ¬ (c = 165 ∧ j = 0) → I' c j = I c j) → Q (some (zvi (-1))) I' L R S
theorem sn_Y_sav0 : ZSnd 7 21 62 T_Y_sav0 := ZSnd.of (zT21_62 6) (by
  rintro args I L R S Q hz ⟨rfl, hS, hR, hg, hQ⟩
  refine And.intro rfl ?_
  refine And.intro (zA_165 hS) (zrdR (v := none) hg ?_)
  refine And.intro (zA_165 hS) (Exists.intro _ (And.intro (zinl_ok (zT21_47 5)) (And.intro rfl ?_)))
  refine And.intro (zA_165 hS) ⟨_, (zWi (zRb rfl)), ?_⟩
  refine hQ _ zxe (fun c j h0 => (zxcj h0 rfl)))
def T_Y_sav : ZT := fun args I L R S Q => ∃ (x : SvK) (cr : Nat) (s : BdS) (q : Nat), args = [zvr 165] ∧ (zSh S) ∧ (zRs R) ∧ (R 165 12 = some q) ∧ (bGd s) ∧ (zPB s I) ∧ (zML x.1 x.2.1 x.2.2.1 x.2.2.2 cr I) ∧ ∀ (v : Int) (I' : ZI), (v = if 0 ≤ (svV 1 cr s x) then (svV 1 cr s x) else -1) → (I' 165 0 = if 0 ≤ (svV 1 cr s x) then 0 else -(svV 1 cr s x)) → (if 0 ≤ (svV 1 cr s x) then zML (svE s x).1 (svE s x).2.1 (svE s x).2.2.1 (svE s x).2.2.2 0 I' else zML x.1 x.2.1 x.2.2.1 x.2.2.2 cr I') → (∀ c j : Nat, ¬ c = 274 → ¬ c = 275 → ¬ c = 276 → ¬ c = 277 → ¬ c = 278 → ¬ c = 279 → ¬ (c = 268 ∧ j = 11) → ¬ (c = 268 ∧ j = 15) → ¬ (c = 268 ∧ j = 20) → ¬ (c = 268 ∧ j = 19) → ¬ (c = 268 ∧ j = 3) → ¬ c = 269 → ¬ (c = 268 ∧ j = 0) → ¬ c = 270 → ¬ (c = 268 ∧ j = 5) → ¬ (c = 165 ∧ j = 0) → I' c j = I c j) → Q (some (zvi (v))) I' L R S
theorem sn_Y_sav : ZSnd 7 21 62 T_Y_sav := ZSnd.loops (zT21_62 6) (by
  rintro args I L R S Q hz ⟨x, cr, s, q, rfl, hS, hR, hg, hGd, hPB, hML, hQ⟩
  obtain ⟨⟨⟨gW1, gW2⟩, ⟨gH1, gH2⟩, ⟨gD1, gD2⟩, gB9⟩, ⟨gnp, gnn⟩, gc, gp, gn, gco, gnd, gun⟩ := id hGd
  obtain ⟨k5, k2, hlg, ⟨hcr, hsm, hLg⟩, hzz⟩ := id hML
  have hz40 := hLg.2.2.1
  have hG9 : stG (stN x.1 x.2.1).1 x.2.2.1 := by have w := (stN_G hLg.1).1; rw [← hsm] at w; exact w
  have hsv12 : sV x.2.2.1 ≤ 12 := hG9.2.1
  refine ⟨[40], fun nM tM lsM stM I1 L1 R1 S1 => match tM with
      | 40 => ∃ (n : Nat), nM = ((13 - n), 99, 0) ∧ lsM = [some (zvr (165)), none, some (zvi (n))] ∧ stM = [] ∧ L1 = L ∧ R1 = R ∧ S1 = S ∧ (n ≤ bnn s) ∧ (cr = 0) ∧ (svFit s x) ∧ (svIn s x n) ∧ (zML (svK s x n).1 (svK s x n).2.1 (svK s x n).2.2.1 (svK s x n).2.2.2 0 I1) ∧ (∀ c j : Nat, ¬ c = 274 → ¬ c = 275 → ¬ c = 276 → ¬ c = 277 → ¬ c = 278 → ¬ c = 279 → ¬ (c = 268 ∧ j = 11) → ¬ (c = 268 ∧ j = 15) → ¬ (c = 268 ∧ j = 20) → ¬ (c = 268 ∧ j = 19) → ¬ (c = 268 ∧ j = 3) → ¬ c = 269 → ¬ (c = 268 ∧ j = 0) → ¬ c = 270 → ¬ (c = 268 ∧ j = 5) → ¬ (c = 165 ∧ j = 0) → I1 c j = I c j)
      | _ => False, rfl, ?_, ⟨?_, True.intro⟩⟩
  · refine And.intro (zA_165 hS) (zrdR (v := some q) hg ?_)
    refine And.intro (zA_165 hS) (zrdR (v := some 268) (zR_165_48 hR) ?_)
    refine And.intro (zA_268 hS) (zrd (v := cr) k2 ?_)
    refine And.intro (by omega) ⟨fun h14 => ?_, fun h14 => ?_⟩
    · refine And.intro (zA_165 hS) ⟨_, sn_Y_room.up (by decide), ?_⟩
      refine ⟨x, s, rfl, hS, hR, (by first | exact hGd | (clear hQ; grind [xu])), (by first | exact hPB | (clear hQ; grind [xu])), (by obtain rfl : cr = 0 := (by omega); exact hML), ?_⟩
      intro v24o I24o p24hv p24bh30 p24bbfr
      have g24 : v24o = 0 ∨ v24o = 1 := (by rcases p24hv with q9 | q9; exact Or.inr q9.1; exact Or.inl q9.1)
      refine And.intro (by omega) ⟨fun h27 => ?_, fun h27 => ?_⟩
      · refine ⟨((13 - (0 : Nat)), 99, 0), [some (zvr (165)), none, some (zvi ((0 : Nat)))], ⟨rfl, rfl, rfl⟩, 0, rfl, rfl, rfl, rfl, rfl, rfl, (by omega), (by omega), (by rcases p24hv with q9 | q9; exact q9.2; exfalso; omega), (svIn_0 (by obtain rfl : cr = 0 := (by omega); rw [hzz rfl] at hG9; exact hG9)), (by obtain rfl : cr = 0 := (by omega); exact zML_fr hML (fun c j h => p24bbfr c j (by omega) (by omega) (by omega) (by omega) (by omega) (by omega) (by omega) (by omega) (by omega) (by omega) (by omega) (by omega) )), (fun c j h0 h1 h2 h3 h4 h5 h6 h7 h8 h9 h10 h11 h12 h13 h14 h15 => ((p24bbfr c j h0 h1 h2 h3 h4 h5 h6 h7 h8 h9 h10 h11).trans rfl))⟩
      · refine And.intro (zA_165 hS) (Exists.intro _ (And.intro (zinl_ok (zT21_47 5)) (And.intro rfl ?_)))
        refine And.intro (zA_165 hS) ⟨_, (zWi (zRb rfl)), ?_⟩
        refine hQ _ _ ?_ ?_ ?_ (fun c j h0 h1 h2 h3 h4 h5 h6 h7 h8 h9 h10 h11 h12 h13 h14 h15 => (zxcj h15 ((p24bbfr c j h0 h1 h2 h3 h4 h5 h6 h7 h8 h9 h10 h11).trans rfl)))
        · first
          | (rw [if_neg (by rw [svV_3 (by omega)]; decide)])
          | (rw [if_neg (by rw [svV_n (by omega) (by rcases p24hv with q9 | q9; exfalso; omega; exact q9.2)]; decide)])
          | (rw [if_pos (by rw [svV_y (by omega) hfit]; exact Int.natCast_nonneg _), svV_y (by omega) hfit, p82hv, hIn.2.1])
        · first
          | (rw [if_neg (by rw [svV_3 (by omega)]; decide), svV_3 (by omega)]; exact zxe)
          | (have q8 := (svV_n (b := 1) (cr := cr) (s := s) (x := x) (by omega) (by rcases p24hv with q9 | q9; exfalso; omega; exact q9.2)); rw [if_neg (by rw [q8]; decide), q8]; exact zxe)
          | (rw [if_pos (by rw [svV_y (by omega) hfit]; exact Int.natCast_nonneg _)]; exact zxe)
        · first
          | (rw [if_neg (by rw [svV_3 (by omega)]; decide)]
             exact zML_fr hML (fun c j h => zxu (by omega) rfl))
          | (have q8 := (svV_n (b := 1) (cr := cr) (s := s) (x := x) (by omega) (by rcases p24hv with q9 | q9; exfalso; omega; exact q9.2))
             rw [if_neg (by rw [q8]; decide)]
             exact zML_fr hML (fun c j h => zxu (by omega) (p24bbfr c j (by omega) (by omega) (by omega) (by omega) (by omega) (by omega) (by omega) (by omega) (by omega) (by omega) (by omega) (by omega) )))
          | (rw [if_pos (by rw [svV_y (by omega) hfit]; exact Int.natCast_nonneg _)]
             have q9 : n = bnn s := (by omega)
             subst q9
             exact zML_fr p82bhML2 (fun c j h => zxu (by omega) rfl))
    · refine And.intro (zA_165 hS) (Exists.intro _ (And.intro (zinl_ok (zT21_47 5)) (And.intro rfl ?_)))
      refine And.intro (zA_165 hS) ⟨_, (zWi (zRb rfl)), ?_⟩
      refine hQ _ _ ?_ ?_ ?_ (fun c j h0 h1 h2 h3 h4 h5 h6 h7 h8 h9 h10 h11 h12 h13 h14 h15 => (zxcj h15 rfl))
      · first
        | (rw [if_neg (by rw [svV_3 (by omega)]; decide)])
        | (rw [if_neg (by rw [svV_n (by omega) (by rcases p24hv with q9 | q9; exfalso; omega; exact q9.2)]; decide)])
        | (rw [if_pos (by rw [svV_y (by omega) hfit]; exact Int.natCast_nonneg _), svV_y (by omega) hfit, p82hv, hIn.2.1])
      · first
        | (rw [if_neg (by rw [svV_3 (by omega)]; decide), svV_3 (by omega)]; exact zxe)
        | (have q8 := (svV_n (b := 1) (cr := cr) (s := s) (x := x) (by omega) (by rcases p24hv with q9 | q9; exfalso; omega; exact q9.2)); rw [if_neg (by rw [q8]; decide), q8]; exact zxe)
        | (rw [if_pos (by rw [svV_y (by omega) hfit]; exact Int.natCast_nonneg _)]; exact zxe)
      · first
        | (rw [if_neg (by rw [svV_3 (by omega)]; decide)]
           exact zML_fr hML (fun c j h => zxu (by omega) rfl))
        | (have q8 := (svV_n (b := 1) (cr := cr) (s := s) (x := x) (by omega) (by rcases p24hv with q9 | q9; exfalso; omega; exact q9.2))
           rw [if_neg (by rw [q8]; decide)]
           exact zML_fr hML (fun c j h => zxu (by omega) (p24bbfr c j (by omega) (by omega) (by omega) (by omega) (by omega) (by omega) (by omega) (by omega) (by omega) (by omega) (by omega) (by omega) )))
        | (rw [if_pos (by rw [svV_y (by omega) hfit]; exact Int.natCast_nonneg _)]
           have q9 : n = bnn s := (by omega)
           subst q9
           exact zML_fr p82bhML2 (fun c j h => zxu (by omega) rfl))
  · rintro nM lsM stM I1 L1 R1 S1 hz1 ⟨n, rfl, rfl, rfl, rfl, rfl, rfl, hn, hcb, hfit, hIn, hML1, fr⟩
    have hPB1 : zPB s I1 := (zPB_fr hPB (fun c j h => fr c j (by omega) (by omega) (by omega) (by omega) (by omega) (by omega) (by omega) (by omega) (by omega) (by omega) (by omega) (by omega) (by omega) (by omega) (by omega) (by omega) ))
    have hn221 := hPB1.2.1
    refine And.intro (zA_165 hS) (zrd (v := (bnn s)) hn221 ?_)
    refine And.intro ⟨(by omega), (by omega)⟩ ⟨fun h45 => ?_, fun h45 => ?_⟩
    · refine And.intro (zA_165 hS) (zrdR (v := some 268) (zR_165_48 hR) ?_)
      refine And.intro (zA_268 hS) ⟨_, sn_B_vers.up (by decide), ?_⟩
      refine ⟨(svK s x n).1, (svK s x n).2.1, (svK s x n).2.2.1, (svK s x n).2.2.2, rfl, hS, hR, hML1, (by have q9 : n = bnn s := (by omega); subst q9; have w9 := hIn.2.2.2.2.1; have w8 := hfit.2.2.2; omega), (by have w9 := hIn.2.1; have w8 := hfit.2.2.1; omega), ?_⟩
      intro v82o I82o p82hv p82bhML2 p82bbfr
      refine And.intro (zA_165 hS) (Exists.intro _ (And.intro (zinl_ok (zT21_12 5)) (And.intro rfl ?_)))
      refine And.intro (zA_165 hS) ⟨_, (zWi (zRb rfl)), ?_⟩
      refine hQ _ _ ?_ ?_ ?_ (fun c j h0 h1 h2 h3 h4 h5 h6 h7 h8 h9 h10 h11 h12 h13 h14 h15 => (zxcj h15 ((p82bbfr c j h0 h1 h2 h3 h4 h5 h6 h7 h8 h9 h12 h13 h14).trans ((fr c j h0 h1 h2 h3 h4 h5 h6 h7 h8 h9 h10 h11 h12 h13 h14 h15).trans rfl))))
      · first
        | (rw [if_neg (by rw [svV_3 (by omega)]; decide)])
        | (rw [if_neg (by rw [svV_n (by omega) (by rcases p24hv with q9 | q9; exfalso; omega; exact q9.2)]; decide)])
        | (rw [if_pos (by rw [svV_y (by omega) hfit]; exact Int.natCast_nonneg _), svV_y (by omega) hfit, p82hv, hIn.2.1])
      · first
        | (rw [if_neg (by rw [svV_3 (by omega)]; decide), svV_3 (by omega)]; exact zxe)
        | (have q8 := (svV_n (b := 1) (cr := cr) (s := s) (x := x) (by omega) (by rcases p24hv with q9 | q9; exfalso; omega; exact q9.2)); rw [if_neg (by rw [q8]; decide), q8]; exact zxe)
        | (rw [if_pos (by rw [svV_y (by omega) hfit]; exact Int.natCast_nonneg _)]; exact zxe)
      · first
        | (rw [if_neg (by rw [svV_3 (by omega)]; decide)]
           exact zML_fr hML (fun c j h => zxu (by omega) rfl))
        | (have q8 := (svV_n (b := 1) (cr := cr) (s := s) (x := x) (by omega) (by rcases p24hv with q9 | q9; exfalso; omega; exact q9.2))
           rw [if_neg (by rw [q8]; decide)]
           exact zML_fr hML (fun c j h => zxu (by omega) (p24bbfr c j (by omega) (by omega) (by omega) (by omega) (by omega) (by omega) (by omega) (by omega) (by omega) (by omega) (by omega) (by omega) )))
        | (rw [if_pos (by rw [svV_y (by omega) hfit]; exact Int.natCast_nonneg _)]
           have q9 : n = bnn s := (by omega)
           subst q9
           exact zML_fr p82bhML2 (fun c j h => zxu (by omega) rfl))
    · refine And.intro (zA_165 hS) ⟨_, sn_Y_feedN.up (by decide), ?_⟩
      refine ⟨n, s, rfl, hS, hR, (by first | exact hGd | (clear hQ; grind [xu])), (by first | exact hPB | (clear hQ; grind [xu])), (by omega), ?_⟩
      intro I50o p50h3 p50bhG2 p50bbfr
      have g50 : gaN s n (bnp s) ≤ 20 := (gaN_le hGd (by omega) (Nat.le_refl (bnp s)))
      refine And.intro (zA_165 hS) (zrdR (v := some 268) (zR_165_48 hR) ?_)
      refine And.intro (zA_268 hS) (zrd (v := (gaN s n (bnp s))) p50h3 ?_)
      refine And.intro (by omega) ⟨fun h60 => ?_, fun h60 => ?_⟩
      · refine ⟨((13 - (n + 1)), 99, 0), zlt6 (by omega), [some (zvr (165)), none, some (zvi ((n + 1)))], ⟨rfl, rfl, rfl⟩, (n + 1), rfl, rfl, rfl, rfl, rfl, rfl, (by omega), (by omega), (by first | exact hfit | (clear hQ; grind [xu])), (svIn_s hGd hIn hfit (by omega)), ?_, (fun c j h0 h1 h2 h3 h4 h5 h6 h7 h8 h9 h10 h11 h12 h13 h14 h15 => ((p50bbfr c j h10 h11).trans ((fr c j h0 h1 h2 h3 h4 h5 h6 h7 h8 h9 h10 h11 h12 h13 h14 h15).trans rfl)))⟩
        · first
          | (rw [svK_n (by omega)]
             exact zML_fr hML1 (fun c j h => p50bbfr c j (by omega) (by omega)))
          | (rw [svK_y (by omega)]
             exact p67hML2)
      · refine And.intro (zA_165 hS) (zrdR (v := some 268) (zR_165_48 hR) ?_)
        refine And.intro (zA_268 hS) ⟨_, sn_B_blk.up (by decide), ?_⟩
        refine ⟨(svK s x n).1, (svK s x n).2.1, (svK s x n).2.2.1, (svK s x n).2.2.2, (gaF s n (bnp s)), (gaN s n (bnp s)), rfl, hS, hR, (zML_fr hML1 (fun c j h => p50bbfr c j (by omega) (by omega))), p50h3, (fun i hi => p50bhG2 i hi), (by omega), (svIn_f hIn hfit (by omega) (by omega)).1, (svIn_f hIn hfit (by omega) (by omega)).2, (fun i hi => by have w9 := gaF_b hGd (n := (n : Int)) (i := i) (Nat.le_refl (bnp s)); omega), ?_⟩
        intro v67o I67o p67hML2 p67bhF0 p67bbfr
        refine ⟨((13 - (n + 1)), 99, 0), zlt6 (by omega), [some (zvr (165)), none, some (zvi ((n + 1)))], ⟨rfl, rfl, rfl⟩, (n + 1), rfl, rfl, rfl, rfl, rfl, rfl, (by omega), (by omega), (by first | exact hfit | (clear hQ; grind [xu])), (svIn_s hGd hIn hfit (by omega)), ?_, (fun c j h0 h1 h2 h3 h4 h5 h6 h7 h8 h9 h10 h11 h12 h13 h14 h15 => ((p67bbfr c j h0 h1 h2 h3 h4 h5 h6 h7 h8 h9 h12 h13 h14 h10).trans ((p50bbfr c j h10 h11).trans ((fr c j h0 h1 h2 h3 h4 h5 h6 h7 h8 h9 h10 h11 h12 h13 h14 h15).trans rfl))))⟩
        · first
          | (rw [svK_n (by omega)]
             exact zML_fr hML1 (fun c j h => p50bbfr c j (by omega) (by omega)))
          | (rw [svK_y (by omega)]
             exact p67hML2))
