/-! le -/
def T_A_first : ZT := fun args I L R S Q => ∃ (b : Nat) (s : BdS) (n : Int), args = [zvr 98, zvi n] ∧ (zSh S) ∧ (zRs R) ∧ (zBA b s I L) ∧ (r32 n) ∧ (bnp s ≤ 40) ∧ (∀ p : Nat, p < bnp s → 0 ≤ bP s p 2 ∧ bP s p 2 < bK s) ∧ ∀ (v : Int), (v = bFp s n) → Q (some (zvi (v))) I L R S
theorem sn_A_first : ZSnd 3 6 3 T_A_first := ZSnd.loops (zT6_3 2) (by
  rintro args I L R S Q hz ⟨b, s, n, rfl, hS, hR, hBA, hr, hnp, hpd, hQ⟩
  obtain ⟨⟨hb0, hbw, hbh, hbd, hbs⟩, hnb, hcl, hPT, hNT, hwy, hco, hnd⟩ := id hBA
  obtain ⟨hP1, hP2, hP3, hP4⟩ := id hPT
  obtain ⟨hN1, hN2, hN3, hN4⟩ := id hNT
  refine ⟨[2], fun nM tM lsM stM I1 L1 R1 S1 => match tM with
      | 2 => ∃ (p : Nat), nM = ((41 - p), 0, 0) ∧ lsM = [some (zvr (98)), some (zvi (n)), some (zvi (p))] ∧ stM = [] ∧ I1 = I ∧ L1 = L ∧ R1 = R ∧ S1 = S ∧ (p ≤ bnp s) ∧ (∀ q : Nat, q < p → ¬ bP s q 3 = n)
      | _ => False, rfl, ?_, ⟨?_, True.intro⟩⟩
  · refine ⟨((41 - (0 : Nat)), 0, 0), [some (zvr (98)), some (zvi (n)), some (zvi ((0 : Nat)))], ⟨rfl, rfl, rfl, rfl⟩, 0, rfl, rfl, rfl, rfl, rfl, rfl, rfl, (by omega), (fun q h => absurd h (Nat.not_lt_zero q))⟩
  · rintro nM lsM stM I1 L1 R1 S1 hz1 ⟨p, rfl, rfl, rfl, rfl, rfl, rfl, rfl, hp, hno⟩
    refine And.intro (zA_98 hS) (zrdR (v := some 82) (zR_98_0 hR) ?_)
    refine And.intro (zA_82 hS) (zrdR (v := some 88) (zR_82_10 hR) ?_)
    refine And.intro (zA_88 hS) (zrd (v := (bnp s)) hP2 ?_)
    refine And.intro ⟨(by omega), (by omega)⟩ ⟨fun h13 => ?_, fun h13 => ?_⟩
    · refine hQ _ ?_
      · unfold bFp
        first
        | rw [zlow_no (P := fun p => bP s p 3 = n) (n := bnp s) (fun q hq => hno q (by omega)), if_pos rfl]
        | (have e2 : v6_21o = bP s p 3 := p6_21hv
           rw [zlow_at (P := fun p => bP s p 3 = n) (n := bnp s) (r := p) (by omega) hno (by omega), if_neg (by omega)]
           exact p6_33hv)
    · refine And.intro (zA_98 hS) (zrdR (v := some 82) (zR_98_0 hR) ?_)
      refine And.intro (zA_82 hS) (Exists.intro _ (And.intro (zinl_ok (zT0_19 1)) (And.intro rfl ?_)))
      refine And.intro (zA_82 hS) (zrdR (v := some 88) (zR_82_10 hR) ?_)
      refine And.intro (zA_88 hS) ⟨_, sn_A_at.up (by decide), ?_⟩
      refine ⟨_, _, _, _, p, 3, (p : Int), (3 : Int), rfl, hS, hR, (zRw_88 hR hS), (by first | exact (zRT_fr hPT (fun c j h => rfl)) | (clear hQ; grind [xu])), (by omega), (by omega), ?_⟩
      intro v6_21o p6_21hv p6_21bhr
      refine And.intro ⟨(by omega), (by omega)⟩ ⟨fun h25 => ?_, fun h25 => ?_⟩
      · refine ⟨((41 - (p + 1)), 0, 0), zlt6 (by omega), [some (zvr (98)), some (zvi (n)), some (zvi ((p + 1)))], ⟨rfl, rfl, rfl, rfl⟩, (p + 1), rfl, rfl, rfl, rfl, rfl, rfl, rfl, (by omega), ?_⟩
        · intro q hq
          by_cases e : q = p
          · subst e
            have e2 : v6_21o = bP s q 3 := p6_21hv
            omega
          · exact hno q (by omega)
      · refine And.intro (zA_98 hS) (zrdR (v := some 82) (zR_98_0 hR) ?_)
        refine And.intro (zA_82 hS) (Exists.intro _ (And.intro (zinl_ok (zT0_18 1)) (And.intro rfl ?_)))
        refine And.intro (zA_82 hS) (zrdR (v := some 88) (zR_82_10 hR) ?_)
        refine And.intro (zA_88 hS) ⟨_, sn_A_at.up (by decide), ?_⟩
        refine ⟨_, _, _, _, p, 2, (p : Int), (2 : Int), rfl, hS, hR, (zRw_88 hR hS), (by first | exact (zRT_fr hPT (fun c j h => rfl)) | (clear hQ; grind [xu])), (by omega), (by omega), ?_⟩
        intro v6_33o p6_33hv p6_33bhr
        refine hQ _ ?_
        · unfold bFp
          first
          | rw [zlow_no (P := fun p => bP s p 3 = n) (n := bnp s) (fun q hq => hno q (by omega)), if_pos rfl]
          | (have e2 : v6_21o = bP s p 3 := p6_21hv
             rw [zlow_at (P := fun p => bP s p 3 = n) (n := bnp s) (r := p) (by omega) hno (by omega), if_neg (by omega)]
             exact p6_33hv))
def T_A_has : ZT := fun args I L R S Q => ∃ (b : Nat) (s : BdS) (n : Int) (tr : Nat → Int), args = [zvr 98, zvi n] ∧ (zSh S) ∧ (zRs R) ∧ (zBA b s I L) ∧ (bGz s) ∧ (r32 n) ∧ (∀ p : Nat, p < bnp s → 0 ≤ bP s p 2 ∧ bP s p 2 < bK s) ∧ (∀ j : Nat, j < 1024 → I 101 j = tr j) ∧ ∀ (v : Int), ((v = 1 ∧ bAll s n tr) ∨ (v = 0 ∧ ¬ bAll s n tr)) → Q (some (zvi (v))) I L R S
theorem sn_A_has : ZSnd 3 6 18 T_A_has := ZSnd.loops (zT6_18 2) (by
  rintro args I L R S Q hz ⟨b, s, n, tr, rfl, hS, hR, hBA, hGz, hr, hpd, htr, hQ⟩
  obtain ⟨⟨hb0, hbw, hbh, hbd, hbs⟩, hnb, hcl, hPT, hNT, hwy, hco, hnd⟩ := id hBA
  obtain ⟨hP1, hP2, hP3, hP4⟩ := id hPT
  obtain ⟨hN1, hN2, hN3, hN4⟩ := id hNT
  obtain ⟨⟨⟨gW1, gW2⟩, ⟨gH1, gH2⟩, ⟨gD1, gD2⟩, gB9⟩, ⟨gnp, gnn⟩, gco⟩ := id hGz
  have hKe : bK s = bW s * bH s * bD s := rfl
  refine ⟨[4], fun nM tM lsM stM I1 L1 R1 S1 => match tM with
      | 4 => ∃ (u : Int) (p : Nat), nM = ((41 - p), 0, 0) ∧ lsM = [some (zvr (98)), some (zvi (n)), some (zvi (u)), some (zvi (p))] ∧ stM = [] ∧ I1 = I ∧ L1 = L ∧ R1 = R ∧ S1 = S ∧ (p ≤ bnp s) ∧ (u = 0 ∨ u = 1) ∧ (u = 1 → ∀ q : Nat, q < p → ¬ bOut s n tr (bP s q 2).toNat) ∧ (u = 0 → ¬ bAll s n tr)
      | _ => False, rfl, ?_, ⟨?_, True.intro⟩⟩
  · refine ⟨((41 - (0 : Nat)), 0, 0), [some (zvr (98)), some (zvi (n)), some (zvi ((1 : Int))), some (zvi ((0 : Nat)))], ⟨rfl, rfl, rfl, rfl, rfl⟩, 1, 0, rfl, rfl, rfl, rfl, rfl, rfl, rfl, (by omega), (Or.inr rfl), (fun _ q h => absurd h (Nat.not_lt_zero q)), (fun h => absurd h (by decide))⟩
  · rintro nM lsM stM I1 L1 R1 S1 hz1 ⟨u, p, rfl, rfl, rfl, rfl, rfl, rfl, rfl, hp, hu0, hu1, hu2⟩
    refine And.intro (zA_98 hS) (zrdR (v := some 82) (zR_98_0 hR) ?_)
    refine And.intro (zA_82 hS) (zrdR (v := some 88) (zR_82_10 hR) ?_)
    refine And.intro (zA_88 hS) (zrd (v := (bnp s)) hP2 ?_)
    refine And.intro ⟨(by omega), (by omega)⟩ ⟨fun h15 => ?_, fun h15 => ?_⟩
    · refine And.intro (by omega) ?_
      refine hQ _ ?_
      · rcases hu0 with e | e
        · exact Or.inr ⟨e, hu2 e⟩
        · exact Or.inl ⟨e, fun q hq => hu1 e q (by omega)⟩
    · refine And.intro (by omega) ⟨fun h19 => ?_, fun h19 => ?_⟩
      · refine And.intro (by omega) ?_
        refine hQ _ ?_
        · rcases hu0 with e | e
          · exact Or.inr ⟨e, hu2 e⟩
          · exact Or.inl ⟨e, fun q hq => hu1 e q (by omega)⟩
      · refine And.intro (zA_98 hS) (zrdR (v := some 82) (zR_98_0 hR) ?_)
        refine And.intro (zA_82 hS) (Exists.intro _ (And.intro (zinl_ok (zT0_18 1)) (And.intro rfl ?_)))
        refine And.intro (zA_82 hS) (zrdR (v := some 88) (zR_82_10 hR) ?_)
        refine And.intro (zA_88 hS) ⟨_, sn_A_at.up (by decide), ?_⟩
        refine ⟨_, _, _, _, p, 2, (p : Int), (2 : Int), rfl, hS, hR, (zRw_88 hR hS), (by first | exact (zRT_fr hPT (fun c j h => rfl)) | (clear hQ; grind [xu])), (by omega), (by omega), ?_⟩
        intro v6_28o p6_28hv p6_28bhr
        have g6_28 : 0 ≤ bP s p 2 ∧ bP s p 2 < bK s := (hpd p (by omega))
        have g6_28b : v6_28o = bP s p 2 := p6_28hv
        refine And.intro (zA_98 hS) ⟨_, sn_A_out.up (by decide), ?_⟩
        refine ⟨b, s, (v6_28o : Int), (bP s p 2).toNat, (n : Int), tr, rfl, hS, hR, (by first | exact (zBA_fr hBA (fun c j h => rfl) (fun c j h => rfl)) | (clear hQ; grind [xu])), (by first | exact hGz | (clear hQ; grind [xu])), (by omega), (by omega), (by omega), (by first | exact htr | exact (fun j h1 => rfl.trans (htr j h1)) | (clear hQ; grind [xu])), ?_⟩
        intro v32o p32hv
        refine And.intro (by omega) ⟨fun h35 => ?_, fun h35 => ?_⟩
        · refine ⟨((41 - (p + 1)), 0, 0), zlt6 (by omega), [some (zvr (98)), some (zvi (n)), some (zvi ((0 : Int))), some (zvi ((p + 1)))], ⟨rfl, rfl, rfl, rfl, rfl⟩, 0, (p + 1), rfl, rfl, rfl, rfl, rfl, rfl, rfl, (by omega), (by first | exact Or.inl rfl | exact Or.inr rfl), ?_, ?_⟩
          · intro h q hq
            first
            | exact absurd h (by decide)
            | (by_cases e : q = p
               · subst e
                 exact (p32hv.resolve_left (fun w => by have := w.1; omega)).2
               · exact hu1 (by omega) q (by omega))
          · intro h
            first
            | exact absurd h (by decide)
            | exact fun w => w p (by omega) (p32hv.resolve_right (fun w => by have := w.1; omega)).2
        · refine ⟨((41 - (p + 1)), 0, 0), zlt6 (by omega), [some (zvr (98)), some (zvi (n)), some (zvi ((1 : Int))), some (zvi ((p + 1)))], ⟨rfl, rfl, rfl, rfl, rfl⟩, 1, (p + 1), rfl, rfl, rfl, rfl, rfl, rfl, rfl, (by omega), (by first | exact Or.inl rfl | exact Or.inr rfl), ?_, ?_⟩
          · intro h q hq
            first
            | exact absurd h (by decide)
            | (by_cases e : q = p
               · subst e
                 exact (p32hv.resolve_left (fun w => by have := w.1; omega)).2
               · exact hu1 (by omega) q (by omega))
          · intro h
            first
            | exact absurd h (by decide)
            | exact fun w => w p (by omega) (p32hv.resolve_right (fun w => by have := w.1; omega)).2)
def T_A_growR : ZT := fun args I L R S Q => ∃ (b : Nat) (s : BdS) (n : Nat) (x : Int) (a : Int) (c : Nat), args = [zvr 98, zvi x, zvi a] ∧ (zSh S) ∧ (zRs R) ∧ (zBA b s I L) ∧ (x = n ∧ n < bnn s) ∧ (a = c ∧ c < 1024) ∧ (bho s c = n) ∧ (bwl s n < 1024) ∧ (∀ m, m < bnn s → bwl s m ≤ 1024) ∧ (bnn s ≤ 12) ∧ ∀ (I' : ZI), (zBA b (bWay s n c) I' L) → (∀ j : Nat, j < 1024 → I' 101 j = if j = c then 1 else I 101 j) → (∀ c j : Nat, ¬ c = 92 → ¬ c = 93 → ¬ c = 101 → I' c j = I c j) → Q none I' L R S
theorem sn_A_growR : ZSnd 2 6 5 T_A_growR := ZSnd.of (zT6_5 1) (by
  rintro args I L R S Q hz ⟨b, s, n, x, a, c, rfl, hS, hR, hBA, hxn, hac, hh, hl, hWL, hnn, hQ⟩
  obtain ⟨⟨hb0, hbw, hbh, hbd, hbs⟩, hnb, hcl, hPT, hNT, hwy, hco, hnd⟩ := id hBA
  obtain ⟨hP1, hP2, hP3, hP4⟩ := id hPT
  obtain ⟨hN1, hN2, hN3, hN4⟩ := id hNT
  refine And.intro rfl ?_
  refine And.intro ⟨(by omega), (zRb rfl)⟩ ⟨(fun h2 => False.elim (by omega)), fun h2 => ?_⟩
  refine And.intro (zA_98 hS) (zrdR (v := some 101) (zR_98_3 hR) ?_)
  refine And.intro ⟨(zx0 rfl), Or.inr ⟨(zP_101 hS (by omega) (by omega)), (Or.inr rfl)⟩⟩ ?_
  refine And.intro (zA_98 hS) (zrdR (v := some 82) (zR_98_0 hR) ?_)
  refine And.intro (zA_82 hS) (zrdR (v := some 86) (zR_82_8 hR) ?_)
  refine And.intro ⟨(zx0 rfl), (zP_86 hS (by omega) (by omega))⟩ ⟨_, (zWi (by omega)), ?_⟩
  refine And.intro (zA_98 hS) (zrdR (v := some 82) (zR_98_0 hR) ?_)
  refine And.intro (zA_82 hS) ⟨_, sn_A_addW.up (by decide), ?_⟩
  refine ⟨b, s, n, (x : Int), c, (a : Int), rfl, hS, hR, (zBA_fr hBA (fun q j h => by
  by_cases e : q = 86 ∧ j = a.toNat
  · obtain ⟨rfl, rfl⟩ := e
    refine Eq.trans zxe (Eq.symm ?_)
    rw [(hcl a.toNat (by omega)).2.2.1, show a.toNat = c by omega, hh]
    exact hxn.1.symm
  · exact zxcj e (zxu (by omega) rfl)) (fun q j h => rfl)), (by omega), (by omega), (by omega), (by first | exact hWL | (clear hQ; grind [xu])), ?_⟩
  intro I28o p28hBA2 p28bfr
  refine hQ _ (by first | exact (zBA_fr hBA (fun c j h => ((p28bfr c j (by omega) (by omega)).trans (zxcj (by omega) (zxcj (by omega) rfl)))) (fun c j h => rfl)) | (clear hQ; grind [xu])) ?_ ?_
  · intro j hj
    refine (p28bfr 101 j (by omega) (by omega)).trans (zxu (by decide) ?_)
    by_cases e : j = c
    · rw [if_pos e, show j = a.toNat by omega]
      exact zxe
    · rw [if_neg e]
      exact zxs (by omega) rfl
  · intro q j h0 h1 h2
    refine (p28bfr q j h0 h1).trans ?_
    by_cases e : q = 86 ∧ j = a.toNat
    · obtain ⟨rfl, rfl⟩ := e
      refine Eq.trans zxe (Eq.symm ?_)
      rw [(hcl a.toNat (by omega)).2.2.1, show a.toNat = c by omega, hh]
      exact hxn.1.symm
    · exact zxcj e (zxu h2 rfl))
def T_A_draw : ZT := fun args I L R S Q => ∃ (b : Nat) (s : BdS), args = [zvr 98] ∧ (zSh S) ∧ (zRs R) ∧ (zBA b s I L) ∧ ∀ (v : Int) (L' : ZI), (v = bDr s) → (zBA b (bs_sd s (bSe s)) I L') → (∀ c j : Nat, ¬ (c = 82 ∧ j = 4) → L' c j = L c j) → Q (some (zvl (v))) I L' R S
theorem sn_A_draw : ZSnd 1 6 2 T_A_draw := ZSnd.of (zT6_2 0) (by
  rintro args I L R S Q hz ⟨b, s, rfl, hS, hR, hBA, hQ⟩
  obtain ⟨⟨hb0, hbw, hbh, hbd, hbs⟩, hnb, hcl, hPT, hNT, hwy, hco, hnd⟩ := id hBA
  obtain ⟨hP1, hP2, hP3, hP4⟩ := id hPT
  obtain ⟨hN1, hN2, hN3, hN4⟩ := id hNT
  refine And.intro rfl ?_
  refine And.intro (zA_98 hS) (zrdR (v := some 82) (zR_98_0 hR) ?_)
  refine And.intro (zA_98 hS) (zrdR (v := some 82) (zR_98_0 hR) ?_)
  refine And.intro (zA_82 hS) (zrdL (v := (bsd s)) hbs ?_)
  refine And.intro (zA_82 hS) ⟨_, zW6t _, ?_⟩
  refine And.intro (zA_98 hS) (zrdR (v := some 82) (zR_98_0 hR) ?_)
  refine And.intro (zA_82 hS) (zrdL (v := (zn6 (((bsd s) * 6364136223846793005) + 1442695040888963407))) rfl ?_)
  refine hQ _ _ rfl ⟨⟨hb0, hbw, hbh, hbd, zxe⟩, hnb, hcl, hPT, hNT, hwy, hco, hnd⟩ (fun c j h0 => (zxcj h0 rfl)))
