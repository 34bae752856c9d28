/-! cuc -/
def T_U_mak : ZT := fun args I L R S Q => ∃ (k : Nat) (b : Nat) (s : BdS) (nr : Nat) (rf : Nat → Nat → Int), args = [zvr k, zvr 82, zvr 104] ∧ (zSh S) ∧ (zRs R) ∧ (zSt I L) ∧ (zDy zT1 zF1 k R S) ∧ (k = 106 ∨ k = 118) ∧ (zBA b s I L) ∧ (bGd s) ∧ (zRT 104 30 nr rf I) ∧ (cuRg nr rf) ∧ (I (k + 1) 1 = 60) ∧ (I (k + 5) 1 = 40) ∧ (b ≤ 7) ∧ ∀ (I' : ZI), ((60 < (cuS s).length ∧ I' k 2 = 1) ∨ ((cuS s).length ≤ 60 ∧ I' k 2 = 0 ∧ zUC k (cuS s) (bnp s) nr rf ((b : Int) - 1) (if bOpn s (bnn s) = 0 then 1 else 0) I')) → (∀ c j : Nat, ¬ (c = k ∧ j = 0) → ¬ (c = k ∧ j = 2) → ¬ (c = k ∧ j = 3) → ¬ (c = k ∧ j = 4) → ¬ (c = k ∧ j = 6) → ¬ (c = k ∧ j = 9) → ¬ (c = k ∧ j = 11) → ¬ (c = k ∧ j = 13) → ¬ (c = k + 1 ∧ j = 2) → ¬ c = k + 2 → ¬ c = k + 3 → ¬ c = k + 4 → ¬ (c = k + 5 ∧ j = 2) → ¬ c = k + 6 → ¬ c = k + 7 → ¬ c = k + 8 → ¬ c = k + 9 → ¬ c = k + 10 → I' c j = I c j) → Q none I' L R S
theorem sn_U_mak : ZSnd 7 1 37 T_U_mak := ZSnd.loops (zT1_37 6) (by
  rintro args I L R S Q hz ⟨k, b, s, nr, rf, rfl, hS, hR, hT, hD, hk, hBA, hGd, hR1, hRg, h60, h40, hb7, hQ⟩
  obtain ⟨⟨hb0, hbw, hbh, hbd, hbs⟩, hnb, hcl, hPT, hNT, hwy, hco, hnd⟩ := id hBA
  obtain ⟨hP1, hP2, hP3, hP4⟩ := id hPT
  obtain ⟨hN1, hN2, hN3, hN4⟩ := id hNT
  obtain ⟨⟨⟨gW1, gW2⟩, ⟨gH1, gH2⟩, ⟨gD1, gD2⟩, gB9⟩, ⟨gnp, gnn⟩, gc, gp, gn, gco, gnd, gun⟩ := id hGd
  have hk106 : 106 ≤ k := by omega
  have hk118 : k ≤ 118 := by omega
  have hwG := cuS_G hGd
  have hwp := cuS_p hGd
  have hpl : (cuC (fun p => [cuPd s p]) (bnp s)).length = bnp s := cuC_1 _
  have hop : bOpn s (bnn s) ≤ 12 := by have z := bOpn_le (s := s) (bnn s); omega
  refine ⟨[50, 100], fun nM tM lsM stM I1 L1 R1 S1 => match tM with
      | 50 => ∃ (p : Nat), nM = (3, (61 - p), 0) ∧ lsM = [some (zvr (k)), some (zvr (82)), some (zvr (104)), some (zvi (p)), none] ∧ stM = [] ∧ L1 = L ∧ R1 = R ∧ S1 = S ∧ (p ≤ bnp s) ∧ (I1 k 0 = (b : Int) - 1 ∧ I1 k 3 = (if bOpn s (bnn s) = 0 then 1 else 0)) ∧ (I1 k 4 = bnp s) ∧ (zUw k (cuC (fun p => [cuPd s p]) p) I1) ∧ (∀ c j : Nat, ¬ (c = k ∧ j = 0) → ¬ (c = k ∧ j = 2) → ¬ (c = k ∧ j = 3) → ¬ (c = k ∧ j = 4) → ¬ (c = k + 1 ∧ j = 2) → ¬ c = k + 2 → I1 c j = I c j)
      | 100 => ∃ (n : Nat), nM = (2, (61 - n), 0) ∧ lsM = [some (zvr (k)), some (zvr (82)), some (zvr (104)), some (zvi (n)), none] ∧ stM = [] ∧ L1 = L ∧ R1 = R ∧ S1 = S ∧ (n ≤ bnn s) ∧ (I1 k 0 = (b : Int) - 1 ∧ I1 k 3 = (if bOpn s (bnn s) = 0 then 1 else 0)) ∧ (I1 k 4 = bnp s) ∧ (zUw k (cuC (fun p => [cuPd s p]) (bnp s) ++ cuC (cuNt s) n) I1) ∧ (∀ c j : Nat, ¬ (c = k ∧ j = 0) → ¬ (c = k ∧ j = 2) → ¬ (c = k ∧ j = 3) → ¬ (c = k ∧ j = 4) → ¬ (c = k + 1 ∧ j = 2) → ¬ c = k + 2 → I1 c j = I c j)
      | _ => False, rfl, ?_, ⟨?_, ?_, True.intro⟩⟩
  · refine And.intro (zA_82 hS) (zrd (v := (b - 1)) hb0 ?_)
    refine And.intro (zDX hD 0 rfl) ⟨_, (zWi (by omega)), ?_⟩
    refine And.intro (zA_82 hS) ⟨_, sn_A_opens.up (by decide), ?_⟩
    refine ⟨b, s, rfl, hS, hR, (by first | exact (zBA_fr hBA (fun c j h => (zxcj (by omega) rfl)) (fun c j h => rfl)) | (clear hQ; grind [xu])), ?_⟩
    intro v10o p10hv
    refine And.intro (by omega) ⟨fun h13 => ?_, fun h13 => ?_⟩
    · refine And.intro ⟨(zDX hD 0 rfl), (Or.inl rfl)⟩ ?_
      refine And.intro (zDX hD 0 rfl) (zrdR (v := some (k + 1)) (zDR hD 0 rfl) ?_)
      refine And.intro (zDX hD 1 rfl) ⟨_, (zWi (zRb rfl)), ?_⟩
      refine And.intro ⟨(zDX hD 0 rfl), (Or.inl rfl)⟩ ?_
      refine And.intro (zA_82 hS) (zrdR (v := some 88) (zR_82_10 hR) ?_)
      refine And.intro (zA_88 hS) (zrd (v := (bnp s)) (zxu (by omega) (zxu (by omega) (zxu (by omega) (zxu (by omega) hP2)))) ?_)
      refine And.intro (zDX hD 0 rfl) ⟨_, (zWi (by omega)), ?_⟩
      refine ⟨(3, (61 - (0 : Nat)), 0), [some (zvr (k)), some (zvr (82)), some (zvr (104)), some (zvi ((0 : Nat))), none], ⟨rfl, rfl, rfl, rfl, rfl⟩, 0, rfl, rfl, rfl, rfl, rfl, rfl, (by omega), ?_, zxe, ?_, (fun c j h0 h1 h2 h3 h4 h5 => (zxcj h3 (zxcj h1 (zxcj h4 (zxcj h2 (zxcj h0 rfl))))))⟩
      · refine ⟨?_, ?_⟩
        · repeat first
          | exact zxe.trans (by omega)
          | refine zxs (by omega) ?_
          | refine zxu (by omega) ?_
        · first
          | (rw [if_pos (by omega)]
             repeat first
             | exact zxe
             | refine zxs (by omega) ?_
             | refine zxu (by omega) ?_)
          | (rw [if_neg (by omega)]
             repeat first
             | exact zxe
             | refine zxs (by omega) ?_
             | refine zxu (by omega) ?_)
      · refine zUw_0 ?_ ?_ ?_
        · repeat first
          | exact h60
          | refine zxs (by omega) ?_
          | refine zxu (by omega) ?_
        · repeat first
          | exact zxe
          | refine zxs (by omega) ?_
          | refine zxu (by omega) ?_
        · repeat first
          | exact zxe
          | refine zxs (by omega) ?_
          | refine zxu (by omega) ?_
    · refine And.intro ⟨(zDX hD 0 rfl), (Or.inr rfl)⟩ ?_
      refine And.intro (zDX hD 0 rfl) (zrdR (v := some (k + 1)) (zDR hD 0 rfl) ?_)
      refine And.intro (zDX hD 1 rfl) ⟨_, (zWi (zRb rfl)), ?_⟩
      refine And.intro ⟨(zDX hD 0 rfl), (Or.inl rfl)⟩ ?_
      refine And.intro (zA_82 hS) (zrdR (v := some 88) (zR_82_10 hR) ?_)
      refine And.intro (zA_88 hS) (zrd (v := (bnp s)) (zxu (by omega) (zxu (by omega) (zxu (by omega) (zxu (by omega) hP2)))) ?_)
      refine And.intro (zDX hD 0 rfl) ⟨_, (zWi (by omega)), ?_⟩
      refine ⟨(3, (61 - (0 : Nat)), 0), [some (zvr (k)), some (zvr (82)), some (zvr (104)), some (zvi ((0 : Nat))), none], ⟨rfl, rfl, rfl, rfl, rfl⟩, 0, rfl, rfl, rfl, rfl, rfl, rfl, (by omega), ?_, zxe, ?_, (fun c j h0 h1 h2 h3 h4 h5 => (zxcj h3 (zxcj h1 (zxcj h4 (zxcj h2 (zxcj h0 rfl))))))⟩
      · refine ⟨?_, ?_⟩
        · repeat first
          | exact zxe.trans (by omega)
          | refine zxs (by omega) ?_
          | refine zxu (by omega) ?_
        · first
          | (rw [if_pos (by omega)]
             repeat first
             | exact zxe
             | refine zxs (by omega) ?_
             | refine zxu (by omega) ?_)
          | (rw [if_neg (by omega)]
             repeat first
             | exact zxe
             | refine zxs (by omega) ?_
             | refine zxu (by omega) ?_)
      · refine zUw_0 ?_ ?_ ?_
        · repeat first
          | exact h60
          | refine zxs (by omega) ?_
          | refine zxu (by omega) ?_
        · repeat first
          | exact zxe
          | refine zxs (by omega) ?_
          | refine zxu (by omega) ?_
        · repeat first
          | exact zxe
          | refine zxs (by omega) ?_
          | refine zxu (by omega) ?_
  · rintro nM lsM stM I1 L1 R1 S1 hz1 ⟨p, rfl, rfl, rfl, rfl, rfl, rfl, hp, hk0, hk4, hW3, fr⟩
    have hpc := fun h => gp p h
    have hcx := fun h => cx_of (W := bW s) (H := bH s) (D := bD s) (c := (bP s p 2).toNat) h
    refine And.intro (zDX hD 0 rfl) (zrd (v := (bnp s)) hk4 ?_)
    refine And.intro ⟨(by omega), (by omega)⟩ ⟨fun h55 => ?_, fun h55 => ?_⟩
    · refine ⟨(2, (61 - (0 : Nat)), 0), zlt6 (by omega), [some (zvr (k)), some (zvr (82)), some (zvr (104)), some (zvi ((0 : Nat))), none], ⟨rfl, rfl, rfl, rfl, rfl⟩, 0, rfl, rfl, rfl, rfl, rfl, rfl, (by omega), hk0, (Eq.trans (b := ((bnp s) : Int)) hk4 (by omega)), (by have e : p = bnp s := (by omega); subst e; exact zUw_e hW3 (List.append_nil _).symm), (fun c j h0 h1 h2 h3 h4 h5 => ((fr c j h0 h1 h2 h3 h4 h5).trans rfl))⟩
    · have t55 : p + 1 ≤ bnp s := (by omega)
      have t55b : ((0 ≤ bP s p 2 ∧ bP s p 2 < (bW s * bH s * bD s : Nat)) ∧ 0 ≤ bP s p 3 ∧ bP s p 3 ≤ 11) ∧ (bP s p 2).toNat < bW s * bH s * bD s := (by have z := hpc (by omega); have z2 := z.2.2.1; have z3 := z.2.2.2.1; refine ⟨⟨z2, by omega⟩, by omega⟩)
      refine And.intro (zA_82 hS) (Exists.intro _ (And.intro (zinl_ok (zT0_18 5)) (And.intro rfl ?_)))
      refine And.intro (zA_82 hS) (zrdR (v := some 88) (zR_82_10 hR) ?_)
      refine And.intro (zA_88 hS) ⟨_, sn_A_at.up (by decide), ?_⟩
      refine ⟨_, _, _, _, p, 2, (p : Int), (2 : Int), rfl, hS, hR, (zRw_88 hR hS), (by first | exact (zRT_fr hPT (fun c j h => ((fr c j (by omega) (by omega) (by omega) (by omega) (by omega) (by omega)).trans rfl))) | (clear hQ; grind [xu])), (by omega), (by omega), ?_⟩
      intro v6_61o p6_61hv p6_61bhr
      refine ⟨_, sn_U_plc.up (by decide), ?_⟩
      refine ⟨b, s, (v6_61o : Int), (bP s p 2).toNat, rfl, hS, hR, (by first | exact (zBA_fr hBA (fun c j h => ((fr c j (by omega) (by omega) (by omega) (by omega) (by omega) (by omega)).trans rfl)) (fun c j h => rfl)) | (clear hQ; grind [xu])), (by first | exact hGd | (clear hQ; grind [xu])), (by have z : v6_61o = bP s p 2 := p6_61hv; omega), t55b.2, ?_⟩
      intro v64o p64hv p64bhv2
      refine And.intro (zA_82 hS) (Exists.intro _ (And.intro (zinl_ok (zT0_19 5)) (And.intro rfl ?_)))
      refine And.intro (zA_82 hS) (zrdR (v := some 88) (zR_82_10 hR) ?_)
      refine And.intro (zA_88 hS) ⟨_, sn_A_at.up (by decide), ?_⟩
      refine ⟨_, _, _, _, p, 3, (p : Int), (3 : Int), rfl, hS, hR, (zRw_88 hR hS), (by first | exact (zRT_fr hPT (fun c j h => ((fr c j (by omega) (by omega) (by omega) (by omega) (by omega) (by omega)).trans rfl))) | (clear hQ; grind [xu])), (by omega), (by omega), ?_⟩
      intro v6_73o p6_73hv p6_73bhr
      refine And.intro (zA_82 hS) (Exists.intro _ (And.intro (zinl_ok (zT0_18 5)) (And.intro rfl ?_)))
      refine And.intro (zA_82 hS) (zrdR (v := some 88) (zR_82_10 hR) ?_)
      refine And.intro (zA_88 hS) ⟨_, sn_A_at.up (by decide), ?_⟩
      refine ⟨_, _, _, _, p, 2, (p : Int), (2 : Int), rfl, hS, hR, (zRw_88 hR hS), (by first | exact (zRT_fr hPT (fun c j h => ((fr c j (by omega) (by omega) (by omega) (by omega) (by omega) (by omega)).trans rfl))) | (clear hQ; grind [xu])), (by omega), (by omega), ?_⟩
      intro v6_79o p6_79hv p6_79bhr
      refine And.intro (zA_82 hS) ⟨_, sn_A_lay.up (by decide), ?_⟩
      refine ⟨(bW s), (bH s), (bD s), (v6_79o : Int), (bP s p 2).toNat, rfl, hS, hR, ((fr 82 1 (by omega) (by omega) (by omega) (by omega) (by omega) (by omega)).trans hbw), ((fr 82 2 (by omega) (by omega) (by omega) (by omega) (by omega) (by omega)).trans hbh), ((fr 82 3 (by omega) (by omega) (by omega) (by omega) (by omega) (by omega)).trans hbd), (by omega), (by have z : v6_79o = bP s p 2 := p6_79hv; omega), t55b.2, gB9, ?_⟩
      intro v82o p82hv p82bhv2
      refine And.intro (zDX hD 0 rfl) ⟨_, sn_U_add.up (by decide), ?_⟩
      refine ⟨k, (cuC (fun p => [cuPd s p]) p), (1 : Int), (v6_73o : Int), (v82o : Int), (v64o : Int), (v64o : Int), rfl, hS, hR, hD, (by first | exact hk | (clear hQ; grind [xu])), (by first | exact (zUw_fr hW3 (fun c j h => rfl)) | (clear hQ; grind [xu])), (by have z : v6_73o = bP s p 3 := p6_73hv; omega), ?_⟩
      intro I89o p89hW2 p89bfr
      refine ⟨(3, (61 - (p + 1)), 0), zlt6 (by omega), [some (zvr (k)), some (zvr (82)), some (zvr (104)), some (zvi ((p + 1))), none], ⟨rfl, rfl, rfl, rfl, rfl⟩, (p + 1), rfl, rfl, rfl, rfl, rfl, rfl, (by omega), ⟨(p89bfr k 0 (by omega) (by omega) (by omega)).trans hk0.1, (p89bfr k 3 (by omega) (by omega) (by omega)).trans hk0.2⟩, ((p89bfr k 4 (by omega) (by omega) (by omega)).trans hk4), (zUw_e p89hW2 (by show _ = cuC _ p ++ [cuPd s p]; unfold cuPd; rw [← p64hv, ← p82hv, show bP s p 3 = v6_73o from p6_73hv.symm])), (fun c j h0 h1 h2 h3 h4 h5 => ((p89bfr c j h1 h4 h5).trans ((fr c j h0 h1 h2 h3 h4 h5).trans rfl)))⟩
  · rintro nM lsM stM I1 L1 R1 S1 hz1 ⟨n, rfl, rfl, rfl, rfl, rfl, rfl, hn, hk0, hk4, hW3, fr⟩
    refine And.intro (zA_82 hS) (zrdR (v := some 90) (zR_82_11 hR) ?_)
    refine And.intro (zA_90 hS) (zrd (v := (bnn s)) ((fr 90 2 (by omega) (by omega) (by omega) (by omega) (by omega) (by omega)).trans hN2) ?_)
    refine And.intro ⟨(by omega), (by omega)⟩ ⟨fun h108 => ?_, fun h108 => ?_⟩
    · refine And.intro (zDX hD 0 rfl) (fun v146 e146 r146 => ?_)
      refine And.intro r146 ⟨fun h149 => ?_, fun h149 => ?_⟩
      · have t149 : 60 < (cuS s).length := (by have e : n = bnn s := (by omega); subst e; rcases zUw_sp hW3 with z | z; (exfalso; omega); exact z.2)
        refine hQ _ ?_ (fun c j h0 h1 h2 h3 h4 h5 h6 h7 h8 h9 h10 h11 h12 h13 h14 h15 h16 h17 => ((fr c j h0 h1 h2 h3 h8 h9).trans rfl))
        · first
          | exact Or.inl ⟨t149, by have e : n = bnn s := (by omega); subst e; rcases zUw_sp hW3 with z | z; (exfalso; omega); exact z.1⟩
          | (refine Or.inr ⟨t149.2, ?_, ?_⟩
             · have z := zUw_sp t149.1
               refine (p170bbfr k 2 (by omega) (by omega) (by omega) (by omega)).trans ((p166bbbfr k 2 (by omega) (by omega)).trans ((p161bfr k 2 (by omega)).trans ((p157bbfr k 2 (by omega) (by omega) (by omega)).trans ((p153bfr k 2 (by omega) (by omega) (by omega) (by omega)).trans ?_))))
               have y := t149.2
               omega
             · have f1 : ∀ c j : Nat, (c = k ∧ (j ≤ 4 ∨ j = 6)) ∨ (c = k + 1 ∧ (j = 1 ∨ j = 2)) ∨ c = k + 2 ∨ c = k + 3 ∨ c = k + 4 → I170o c j = I153o c j := fun c j h => (p170bbfr c j (by omega) (by omega) (by omega) (by omega)).trans ((p166bbbfr c j (by omega) (by omega)).trans ((p161bfr c j (by omega)).trans (p157bbfr c j (by omega) (by omega) (by omega))))
               have f0 : ∀ j : Nat, j ≤ 4 → I170o k j = I1 k j := fun j h => (f1 k j (by omega)).trans (p153bfr k j (by omega) (by omega) (by omega) (by omega))
               have f2 : ∀ c j : Nat, (c = k + 5 ∧ (j = 1 ∨ j = 2)) ∨ c = k + 6 → I170o c j = I157o c j := fun c j h => (p170bbfr c j (by omega) (by omega) (by omega) (by omega)).trans ((p166bbbfr c j (by omega) (by omega)).trans (p161bfr c j (by omega)))
               have f3 : ∀ c j : Nat, (c = k ∧ j = 11) ∨ c = k + 7 → I170o c j = I166o c j := fun c j h => p170bbfr c j (by omega) (by omega) (by omega) (by omega)
               refine ⟨⟨⟨(f0 0 (by omega)).trans hk0.1, (f0 3 (by omega)).trans hk0.2, (f0 4 (by omega)).trans hk4⟩, t149.2, hwG, hwp, cuS_20 hGd t149.2, p157bhl40⟩, ?_, zUp_fr p153hUp (fun c j h => f1 c j (by omega)), zUa_fr p157hUa (fun c j h => f2 c j (by omega)), ?_, ⟨zFs_fr p166hF2 (fun c j h => f3 c j h), ?_, ?_⟩, p170hUh, p170bhUo⟩
               · exact zUw_fr t149.1 (fun c j h => (f1 c j (by omega)).trans (p153bfr c j (by omega) (by omega) (by omega) (by omega)))
               · exact (p170bbfr k 9 (by omega) (by omega) (by omega) (by omega)).trans ((p166bbbfr k 9 (by omega) (by omega)).trans p161hv)
               · rw [f3 k 11 (by omega)]
                 intro x y q1 q2
                 rw [f3 (k + 7) x (by omega), f3 (k + 7) y (by omega)]
                 exact p166bhs x y q1 q2
               · rw [f3 k 11 (by omega)]
                 exact p166bbhm4)
      · have t149 : zUw k (cuS s) I1 ∧ (cuS s).length ≤ 60 := (by have e : n = bnn s := (by omega); subst e; refine ⟨hW3, ?_⟩; rcases zUw_sp hW3 with z | z; exact z.2; (exfalso; omega))
        refine And.intro (zDX hD 0 rfl) ⟨_, sn_U_pcs.up (by decide), ?_⟩
        refine ⟨_, (cuS s), rfl, hS, hR, (zStf hT (fun c j h1 h2 => ⟨((fr c j (by omega) (by omega) (by omega) (by omega) (by omega) (by omega)).trans rfl), rfl⟩)), hD, (by first | exact hk | (clear hQ; grind [xu])), t149.1, t149.2, hwG, ?_⟩
        intro I153o p153hUp p153bfr
        refine And.intro (zDX hD 0 rfl) ⟨_, sn_U_fal.up (by decide), ?_⟩
        refine ⟨_, (cuS s), (bnp s), rfl, hS, hR, hD, (by first | exact hk | (clear hQ; grind [xu])), (zUw_fr t149.1 (fun c j h => p153bfr c j (by omega) (by omega) (by omega) (by omega))), t149.2, hwG, ((p153bfr _ _ (by omega) (by omega) (by omega) (by omega)).trans hk4), hwp, p153hUp, ((p153bfr _ _ (by omega) (by omega) (by omega) (by omega)).trans ((fr _ _ (by omega) (by omega) (by omega) (by omega) (by omega) (by omega)).trans h40)), ?_⟩
        intro I157o p157hUa p157bhl40 p157bbfr
        refine And.intro (zDX hD 0 rfl) ⟨_, sn_U_shr.up (by decide), ?_⟩
        refine ⟨_, (cuS s), (bnp s), rfl, hS, hR, hD, (by first | exact hk | (clear hQ; grind [xu])), (zUw_fr t149.1 (fun c j h => (p157bbfr c j (by omega) (by omega) (by omega)).trans (p153bfr c j (by omega) (by omega) (by omega) (by omega)))), t149.2, hwG, ((p157bbfr _ _ (by omega) (by omega) (by omega)).trans ((p153bfr _ _ (by omega) (by omega) (by omega) (by omega)).trans hk4)), hwp, (zUp_fr p153hUp (fun c j h => p157bbfr c j (by omega) (by omega) (by omega))), ?_⟩
        intro I161o p161hv p161bfr
        refine And.intro (zDX hD 0 rfl) ⟨_, sn_U_ffs.up (by decide), ?_⟩
        refine ⟨_, (cuS s), nr, rf, rfl, hS, hR, (zStf hT (fun c j h1 h2 => ⟨((p161bfr c j (by omega)).trans ((p157bbfr c j (by omega) (by omega) (by omega)).trans ((p153bfr c j (by omega) (by omega) (by omega) (by omega)).trans ((fr c j (by omega) (by omega) (by omega) (by omega) (by omega) (by omega)).trans rfl)))), rfl⟩)), hD, (by first | exact hk | (clear hQ; grind [xu])), (zUw_fr t149.1 (fun c j h => (p161bfr c j (by omega)).trans ((p157bbfr c j (by omega) (by omega) (by omega)).trans (p153bfr c j (by omega) (by omega) (by omega) (by omega))))), t149.2, hwG, (by first | exact (zRT_fr hR1 (fun c j h => ((p161bfr c j (by omega)).trans ((p157bbfr c j (by omega) (by omega) (by omega)).trans ((p153bfr c j (by omega) (by omega) (by omega) (by omega)).trans ((fr c j (by omega) (by omega) (by omega) (by omega) (by omega) (by omega)).trans rfl)))))) | (clear hQ; grind [xu])), (by first | exact hRg | (clear hQ; grind [xu])), ?_⟩
        intro I166o p166hF2 p166bhs p166bbhm4 p166bbbfr
        refine And.intro (zDX hD 0 rfl) ⟨_, sn_U_orh.up (by decide), ?_⟩
        refine ⟨_, (cuS s), rfl, hS, hR, hD, (by first | exact hk | (clear hQ; grind [xu])), (zUw_fr t149.1 (fun c j h => (p166bbbfr c j (by omega) (by omega)).trans ((p161bfr c j (by omega)).trans ((p157bbfr c j (by omega) (by omega) (by omega)).trans (p153bfr c j (by omega) (by omega) (by omega) (by omega)))))), t149.2, hwG, ?_⟩
        intro I170o p170hUh p170bhUo p170bbfr
        refine hQ _ ?_ (fun c j h0 h1 h2 h3 h4 h5 h6 h7 h8 h9 h10 h11 h12 h13 h14 h15 h16 h17 => ((p170bbfr c j h7 h15 h16 h17).trans ((p166bbbfr c j h6 h14).trans ((p161bfr c j h5).trans ((p157bbfr c j h12 h13 h16).trans ((p153bfr c j h4 h10 h11 h16).trans ((fr c j h0 h1 h2 h3 h8 h9).trans rfl)))))))
        · first
          | exact Or.inl ⟨t149, by have e : n = bnn s := (by omega); subst e; rcases zUw_sp hW3 with z | z; (exfalso; omega); exact z.1⟩
          | (refine Or.inr ⟨t149.2, ?_, ?_⟩
             · have z := zUw_sp t149.1
               refine (p170bbfr k 2 (by omega) (by omega) (by omega) (by omega)).trans ((p166bbbfr k 2 (by omega) (by omega)).trans ((p161bfr k 2 (by omega)).trans ((p157bbfr k 2 (by omega) (by omega) (by omega)).trans ((p153bfr k 2 (by omega) (by omega) (by omega) (by omega)).trans ?_))))
               have y := t149.2
               omega
             · have f1 : ∀ c j : Nat, (c = k ∧ (j ≤ 4 ∨ j = 6)) ∨ (c = k + 1 ∧ (j = 1 ∨ j = 2)) ∨ c = k + 2 ∨ c = k + 3 ∨ c = k + 4 → I170o c j = I153o c j := fun c j h => (p170bbfr c j (by omega) (by omega) (by omega) (by omega)).trans ((p166bbbfr c j (by omega) (by omega)).trans ((p161bfr c j (by omega)).trans (p157bbfr c j (by omega) (by omega) (by omega))))
               have f0 : ∀ j : Nat, j ≤ 4 → I170o k j = I1 k j := fun j h => (f1 k j (by omega)).trans (p153bfr k j (by omega) (by omega) (by omega) (by omega))
               have f2 : ∀ c j : Nat, (c = k + 5 ∧ (j = 1 ∨ j = 2)) ∨ c = k + 6 → I170o c j = I157o c j := fun c j h => (p170bbfr c j (by omega) (by omega) (by omega) (by omega)).trans ((p166bbbfr c j (by omega) (by omega)).trans (p161bfr c j (by omega)))
               have f3 : ∀ c j : Nat, (c = k ∧ j = 11) ∨ c = k + 7 → I170o c j = I166o c j := fun c j h => p170bbfr c j (by omega) (by omega) (by omega) (by omega)
               refine ⟨⟨⟨(f0 0 (by omega)).trans hk0.1, (f0 3 (by omega)).trans hk0.2, (f0 4 (by omega)).trans hk4⟩, t149.2, hwG, hwp, cuS_20 hGd t149.2, p157bhl40⟩, ?_, zUp_fr p153hUp (fun c j h => f1 c j (by omega)), zUa_fr p157hUa (fun c j h => f2 c j (by omega)), ?_, ⟨zFs_fr p166hF2 (fun c j h => f3 c j h), ?_, ?_⟩, p170hUh, p170bhUo⟩
               · exact zUw_fr t149.1 (fun c j h => (f1 c j (by omega)).trans (p153bfr c j (by omega) (by omega) (by omega) (by omega)))
               · exact (p170bbfr k 9 (by omega) (by omega) (by omega) (by omega)).trans ((p166bbbfr k 9 (by omega) (by omega)).trans p161hv)
               · rw [f3 k 11 (by omega)]
                 intro x y q1 q2
                 rw [f3 (k + 7) x (by omega), f3 (k + 7) y (by omega)]
                 exact p166bhs x y q1 q2
               · rw [f3 k 11 (by omega)]
                 exact p166bbhm4)
    · have t108 : n + 1 ≤ bnn s := (by omega)
      refine And.intro (zA_82 hS) ⟨_, sn_A_led.up (by decide), ?_⟩
      refine ⟨b, s, (n : Int), rfl, hS, hR, (by first | exact (zBA_fr hBA (fun c j h => ((fr c j (by omega) (by omega) (by omega) (by omega) (by omega) (by omega)).trans rfl)) (fun c j h => rfl)) | (clear hQ; grind [xu])), (by omega), ?_⟩
      intro v113o p113hv
      refine And.intro (by omega) ⟨fun h116 => ?_, fun h116 => ?_⟩
      · have t116 : ¬ bN s n 2 = 1 := (fun q => by rcases p113hv with z | z; omega; exact z.2 ⟨by omega, by omega, q⟩)
        refine ⟨(2, (61 - (n + 1)), 0), zlt6 (by omega), [some (zvr (k)), some (zvr (82)), some (zvr (104)), some (zvi ((n + 1))), none], ⟨rfl, rfl, rfl, rfl, rfl⟩, (n + 1), rfl, rfl, rfl, rfl, rfl, rfl, (by omega), (by first | exact hk0 | exact ⟨(p136bfr k 0 (by omega) (by omega) (by omega)).trans ((p130bfr k 0 (by omega) (by omega) (by omega)).trans ((p123bfr k 0 (by omega) (by omega) (by omega)).trans hk0.1)), (p136bfr k 3 (by omega) (by omega) (by omega)).trans ((p130bfr k 3 (by omega) (by omega) (by omega)).trans ((p123bfr k 3 (by omega) (by omega) (by omega)).trans hk0.2))⟩), (by first | exact hk4 | exact (p136bfr k 4 (by omega) (by omega) (by omega)).trans ((p130bfr k 4 (by omega) (by omega) (by omega)).trans ((p123bfr k 4 (by omega) (by omega) (by omega)).trans hk4))), ?_, (fun c j h0 h1 h2 h3 h4 h5 => ((fr c j h0 h1 h2 h3 h4 h5).trans rfl))⟩
        · first
          | exact zUw_e p136hW2 (by
              show _ = _ ++ (cuC (cuNt s) n ++ cuNt s n)
              rw [cuNt_y t116]
              simp only [List.append_assoc])
          | exact zUw_e hW3 (by
              show _ = _ ++ (cuC (cuNt s) n ++ cuNt s n)
              rw [cuNt_n t116, List.append_nil])
      · have t116 : bN s n 2 = 1 := (by rcases p113hv with z | z; exact z.2.2.2; omega)
        refine And.intro (zDX hD 0 rfl) ⟨_, sn_U_run.up (by decide), ?_⟩
        refine ⟨k, (cuC (fun p => [cuPd s p]) (bnp s) ++ cuC (cuNt s) n), b, s, n, 1, rfl, hS, hR, hD, (by first | exact hk | (clear hQ; grind [xu])), hW3, (by first | exact (zBA_fr hBA (fun c j h => ((fr c j (by omega) (by omega) (by omega) (by omega) (by omega) (by omega)).trans rfl)) (fun c j h => rfl)) | (clear hQ; grind [xu])), (by first | exact hGd | (clear hQ; grind [xu])), (by omega), (by omega), ?_⟩
        intro I123o p123hW2 p123bfr
        refine And.intro (zDX hD 0 rfl) ⟨_, sn_U_run.up (by decide), ?_⟩
        refine ⟨k, ((cuC (fun p => [cuPd s p]) (bnp s) ++ cuC (cuNt s) n) ++ cuRs s n 1), b, s, n, 0, rfl, hS, hR, hD, (by first | exact hk | (clear hQ; grind [xu])), p123hW2, (by first | exact (zBA_fr hBA (fun c j h => ((p123bfr c j (by omega) (by omega) (by omega)).trans ((fr c j (by omega) (by omega) (by omega) (by omega) (by omega) (by omega)).trans rfl))) (fun c j h => rfl)) | (clear hQ; grind [xu])), (by first | exact hGd | (clear hQ; grind [xu])), (by omega), (by omega), ?_⟩
        intro I130o p130hW2 p130bfr
        refine And.intro (zDX hD 0 rfl) ⟨_, sn_U_hol.up (by decide), ?_⟩
        refine ⟨k, (((cuC (fun p => [cuPd s p]) (bnp s) ++ cuC (cuNt s) n) ++ cuRs s n 1) ++ cuRs s n 0), b, s, n, rfl, hS, hR, hD, (by first | exact hk | (clear hQ; grind [xu])), p130hW2, (by first | exact (zBA_fr hBA (fun c j h => ((p130bfr c j (by omega) (by omega) (by omega)).trans ((p123bfr c j (by omega) (by omega) (by omega)).trans ((fr c j (by omega) (by omega) (by omega) (by omega) (by omega) (by omega)).trans rfl)))) (fun c j h => rfl)) | (clear hQ; grind [xu])), (by first | exact hGd | (clear hQ; grind [xu])), (by omega), ?_⟩
        intro I136o p136hW2 p136bfr
        refine ⟨(2, (61 - (n + 1)), 0), zlt6 (by omega), [some (zvr (k)), some (zvr (82)), some (zvr (104)), some (zvi ((n + 1))), none], ⟨rfl, rfl, rfl, rfl, rfl⟩, (n + 1), rfl, rfl, rfl, rfl, rfl, rfl, (by omega), (by first | exact hk0 | exact ⟨(p136bfr k 0 (by omega) (by omega) (by omega)).trans ((p130bfr k 0 (by omega) (by omega) (by omega)).trans ((p123bfr k 0 (by omega) (by omega) (by omega)).trans hk0.1)), (p136bfr k 3 (by omega) (by omega) (by omega)).trans ((p130bfr k 3 (by omega) (by omega) (by omega)).trans ((p123bfr k 3 (by omega) (by omega) (by omega)).trans hk0.2))⟩), (by first | exact hk4 | exact (p136bfr k 4 (by omega) (by omega) (by omega)).trans ((p130bfr k 4 (by omega) (by omega) (by omega)).trans ((p123bfr k 4 (by omega) (by omega) (by omega)).trans hk4))), ?_, (fun c j h0 h1 h2 h3 h4 h5 => ((p136bfr c j h1 h4 h5).trans ((p130bfr c j h1 h4 h5).trans ((p123bfr c j h1 h4 h5).trans ((fr c j h0 h1 h2 h3 h4 h5).trans rfl)))))⟩
        · first
          | exact zUw_e p136hW2 (by
              show _ = _ ++ (cuC (cuNt s) n ++ cuNt s n)
              rw [cuNt_y t116]
              simp only [List.append_assoc])
          | exact zUw_e hW3 (by
              show _ = _ ++ (cuC (cuNt s) n ++ cuNt s n)
              rw [cuNt_n t116, List.append_nil]))
