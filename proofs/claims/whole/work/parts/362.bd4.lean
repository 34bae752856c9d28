/-! bd4 -/
def T_A_wayPart : ZT := fun args I L R S Q => ∃ (b : Nat) (s : BdS) (n : Int) (k : Int) (w : Int), args = [zvr 82, zvi n, zvi k, zvi w] ∧ (zSh S) ∧ (zRs R) ∧ (zBA b s I L) ∧ (bGd s) ∧ (r32 n ∧ r32 k ∧ r32 w) ∧ ∀ (v : Int), (v = bWp s n k w) → Q (some (zvi (v))) I L R S
theorem sn_A_wayPart : ZSnd 3 0 28 T_A_wayPart := ZSnd.of (zT0_28 2) (by
  rintro args I L R S Q hz ⟨b, s, n, k, w, rfl, hS, hR, hBA, hGd, hr, hQ⟩
  obtain ⟨⟨hb0, hbw, hbh, hbd, hbs⟩, hnb, hcl, hPT, hNT, hwy, hco, hnd⟩ := id hBA
  obtain ⟨hP1, hP2, hP3, hP4⟩ := id hPT
  obtain ⟨hN1, hN2, hN3, hN4⟩ := id hNT
  obtain ⟨⟨⟨gW1, gW2⟩, ⟨gH1, gH2⟩, ⟨gD1, gD2⟩, gB9⟩, ⟨gnp, gnn⟩, gc, gp, gn, gco, gnd, gun⟩ := id hGd
  refine And.intro rfl ?_
  refine And.intro (zA_82 hS) ⟨_, sn_A_led.up (by decide), ?_⟩
  refine ⟨_, _, (n : Int), rfl, hS, hR, (by first | exact (zBA_fr hBA (fun c j h => rfl) (fun c j h => rfl)) | (clear hQ; grind [xu])), (by omega), ?_⟩
  intro v2o p2hv
  refine And.intro (by omega) ⟨fun h5 => ?_, fun h5 => ?_⟩
  · refine And.intro ⟨(zRb rfl), (zRb rfl)⟩ (zbf rfl ?_)
    refine hQ _ ?_
    · rcases p2hv with w9 | w9
      · first
        | (exfalso; omega)
        | (unfold bWp
           rw [if_neg (by omega)])
        | (unfold bWp
           rw [if_pos ⟨by omega, by omega, w9.2.2.2, by omega, by omega⟩]
           first
           | (rw [if_pos (by omega)]
              assumption)
           | (rw [if_neg (by omega), if_pos (by omega)]
              assumption)
           | (rw [if_neg (by omega), if_neg (by omega), if_pos (by omega)]
              assumption)
           | (rw [if_neg (by omega), if_neg (by omega), if_neg (by omega)]))
      · first
        | (exfalso; omega)
        | (unfold bWp
           rw [if_neg (fun q => w9.2 ⟨q.1, q.2.1, q.2.2.1⟩)])
  · refine And.intro (zA_82 hS) (Exists.intro _ (And.intro (zinl_ok (zT0_26 1)) (And.intro rfl ?_)))
    refine And.intro (by omega) ⟨fun h1_11 => ?_, fun h1_11 => ?_⟩
    · refine And.intro ⟨(zRb rfl), (zRb rfl)⟩ (zbf rfl ?_)
      refine hQ _ ?_
      · rcases p2hv with w9 | w9
        · first
          | (exfalso; omega)
          | (unfold bWp
             rw [if_neg (by omega)])
          | (unfold bWp
             rw [if_pos ⟨by omega, by omega, w9.2.2.2, by omega, by omega⟩]
             first
             | (rw [if_pos (by omega)]
                assumption)
             | (rw [if_neg (by omega), if_pos (by omega)]
                assumption)
             | (rw [if_neg (by omega), if_neg (by omega), if_pos (by omega)]
                assumption)
             | (rw [if_neg (by omega), if_neg (by omega), if_neg (by omega)]))
        · first
          | (exfalso; omega)
          | (unfold bWp
             rw [if_neg (fun q => w9.2 ⟨q.1, q.2.1, q.2.2.1⟩)])
    · refine And.intro (zA_82 hS) (Exists.intro _ (And.intro (zinl_ok (zT0_27 0)) (And.intro rfl ?_)))
      refine And.intro (by omega) ⟨fun h1_11_7 => ?_, fun h1_11_7 => ?_⟩
      · refine And.intro ⟨(by omega), (zRb rfl)⟩ ⟨fun h10_11 => ?_, (fun h10_11 => False.elim (by omega))⟩
        refine And.intro ⟨(zRb rfl), (zRb rfl)⟩ (zbf rfl ?_)
        refine hQ _ ?_
        · rcases p2hv with w9 | w9
          · first
            | (exfalso; omega)
            | (unfold bWp
               rw [if_neg (by omega)])
            | (unfold bWp
               rw [if_pos ⟨by omega, by omega, w9.2.2.2, by omega, by omega⟩]
               first
               | (rw [if_pos (by omega)]
                  assumption)
               | (rw [if_neg (by omega), if_pos (by omega)]
                  assumption)
               | (rw [if_neg (by omega), if_neg (by omega), if_pos (by omega)]
                  assumption)
               | (rw [if_neg (by omega), if_neg (by omega), if_neg (by omega)]))
          · first
            | (exfalso; omega)
            | (unfold bWp
               rw [if_neg (fun q => w9.2 ⟨q.1, q.2.1, q.2.2.1⟩)])
      · refine And.intro (zA_82 hS) (zrdR (v := some 90) (zR_82_11 hR) ?_)
        refine And.intro (zA_90 hS) (zrd (v := (bnn s)) hN2 ?_)
        refine And.intro ⟨(by omega), (by omega)⟩ ⟨fun h12_11_7 => ?_, fun h12_11_7 => ?_⟩
        · refine And.intro ⟨(by omega), (zRb rfl)⟩ ⟨fun h10_11 => ?_, (fun h10_11 => False.elim (by omega))⟩
          refine And.intro ⟨(zRb rfl), (zRb rfl)⟩ (zbf rfl ?_)
          refine hQ _ ?_
          · rcases p2hv with w9 | w9
            · first
              | (exfalso; omega)
              | (unfold bWp
                 rw [if_neg (by omega)])
              | (unfold bWp
                 rw [if_pos ⟨by omega, by omega, w9.2.2.2, by omega, by omega⟩]
                 first
                 | (rw [if_pos (by omega)]
                    assumption)
                 | (rw [if_neg (by omega), if_pos (by omega)]
                    assumption)
                 | (rw [if_neg (by omega), if_neg (by omega), if_pos (by omega)]
                    assumption)
                 | (rw [if_neg (by omega), if_neg (by omega), if_neg (by omega)]))
            · first
              | (exfalso; omega)
              | (unfold bWp
                 rw [if_neg (fun q => w9.2 ⟨q.1, q.2.1, q.2.2.1⟩)])
        · refine And.intro (zA_82 hS) (zrdR (v := some 93) (zR_82_13 hR) ?_)
          refine And.intro (zP_93 hS (by omega) (by omega)) (fun v20_11_7 e20_11_7 r20_11_7 => ?_)
          have f20_11_7 : v20_11_7 = bwl s n.toNat := (e20_11_7.trans (hwy n.toNat (by omega)).1)
          have f20_11_7b : v20_11_7 ≤ 1024 := (by have := (gn n.toNat (by omega)).2.2.2.2.1; omega)
          refine And.intro ⟨(by omega), r20_11_7⟩ ⟨fun h10_11 => ?_, fun h10_11 => ?_⟩
          · refine And.intro ⟨(zRb rfl), (zRb rfl)⟩ (zbf rfl ?_)
            refine hQ _ ?_
            · rcases p2hv with w9 | w9
              · first
                | (exfalso; omega)
                | (unfold bWp
                   rw [if_neg (by omega)])
                | (unfold bWp
                   rw [if_pos ⟨by omega, by omega, w9.2.2.2, by omega, by omega⟩]
                   first
                   | (rw [if_pos (by omega)]
                      assumption)
                   | (rw [if_neg (by omega), if_pos (by omega)]
                      assumption)
                   | (rw [if_neg (by omega), if_neg (by omega), if_pos (by omega)]
                      assumption)
                   | (rw [if_neg (by omega), if_neg (by omega), if_neg (by omega)]))
              · first
                | (exfalso; omega)
                | (unfold bWp
                   rw [if_neg (fun q => w9.2 ⟨q.1, q.2.1, q.2.2.1⟩)])
          · refine And.intro (zA_82 hS) (zrdR (v := some 92) (zR_82_12 hR) ?_)
            refine And.intro (zP_92 hS (by omega) (by omega)) (fun v24_11 e24_11 r24_11 => ?_)
            have f24_11 : v24_11 = bwy s n.toNat k.toNat := (e24_11.trans ((congrArg (I 92) (by omega)).trans ((hwy n.toNat (by omega)).2 k.toNat (by omega))))
            have f24_11b : v24_11 ≤ 1023 ∧ 0 ≤ v24_11 := (by have := ((gn n.toNat (by omega)).2.2.2.2.2.2.1 k.toNat (by omega)).1; omega)
            refine And.intro ⟨r24_11, (zRb rfl)⟩ ⟨fun h23 => ?_, (fun h23 => False.elim (by omega))⟩
            refine And.intro (by omega) (And.intro (And.intro (fun h29 => ?_) (And.intro (fun h29 => ?_) (And.intro (fun h29 => ?_) True.intro))) (fun h29 => ?_))
            · refine And.intro (zA_82 hS) ⟨_, sn_A_lay.up (by decide), ?_⟩
              refine ⟨(bW s), (bH s), (bD s), (v24_11 : Int), (bwy s n.toNat k.toNat), rfl, hS, hR, hbw, hbh, hbd, (by omega), (by omega), ((gn n.toNat (by omega)).2.2.2.2.2.2.1 k.toNat (by omega)).1, gB9, ?_⟩
              intro v59o p59hv p59bhv2
              refine hQ _ ?_
              · rcases p2hv with w9 | w9
                · first
                  | (exfalso; omega)
                  | (unfold bWp
                     rw [if_neg (by omega)])
                  | (unfold bWp
                     rw [if_pos ⟨by omega, by omega, w9.2.2.2, by omega, by omega⟩]
                     first
                     | (rw [if_pos (by omega)]
                        assumption)
                     | (rw [if_neg (by omega), if_pos (by omega)]
                        assumption)
                     | (rw [if_neg (by omega), if_neg (by omega), if_pos (by omega)]
                        assumption)
                     | (rw [if_neg (by omega), if_neg (by omega), if_neg (by omega)]))
                · first
                  | (exfalso; omega)
                  | (unfold bWp
                     rw [if_neg (fun q => w9.2 ⟨q.1, q.2.1, q.2.2.1⟩)])
            · refine And.intro (zA_82 hS) ⟨_, sn_A_col.up (by decide), ?_⟩
              refine ⟨(bW s), (bH s), (bD s), (v24_11 : Int), (bwy s n.toNat k.toNat), rfl, hS, hR, hbw, hbh, hbd, (by omega), (by omega), ((gn n.toNat (by omega)).2.2.2.2.2.2.1 k.toNat (by omega)).1, gB9, ?_⟩
              intro v66o p66hv p66bhv2
              refine hQ _ ?_
              · rcases p2hv with w9 | w9
                · first
                  | (exfalso; omega)
                  | (unfold bWp
                     rw [if_neg (by omega)])
                  | (unfold bWp
                     rw [if_pos ⟨by omega, by omega, w9.2.2.2, by omega, by omega⟩]
                     first
                     | (rw [if_pos (by omega)]
                        assumption)
                     | (rw [if_neg (by omega), if_pos (by omega)]
                        assumption)
                     | (rw [if_neg (by omega), if_neg (by omega), if_pos (by omega)]
                        assumption)
                     | (rw [if_neg (by omega), if_neg (by omega), if_neg (by omega)]))
                · first
                  | (exfalso; omega)
                  | (unfold bWp
                     rw [if_neg (fun q => w9.2 ⟨q.1, q.2.1, q.2.2.1⟩)])
            · refine And.intro (zA_82 hS) ⟨_, sn_A_row.up (by decide), ?_⟩
              refine ⟨(bW s), (bH s), (bD s), (v24_11 : Int), (bwy s n.toNat k.toNat), rfl, hS, hR, hbw, hbh, hbd, (by omega), (by omega), ((gn n.toNat (by omega)).2.2.2.2.2.2.1 k.toNat (by omega)).1, gB9, ?_⟩
              intro v73o p73hv p73bhv2
              refine hQ _ ?_
              · rcases p2hv with w9 | w9
                · first
                  | (exfalso; omega)
                  | (unfold bWp
                     rw [if_neg (by omega)])
                  | (unfold bWp
                     rw [if_pos ⟨by omega, by omega, w9.2.2.2, by omega, by omega⟩]
                     first
                     | (rw [if_pos (by omega)]
                        assumption)
                     | (rw [if_neg (by omega), if_pos (by omega)]
                        assumption)
                     | (rw [if_neg (by omega), if_neg (by omega), if_pos (by omega)]
                        assumption)
                     | (rw [if_neg (by omega), if_neg (by omega), if_neg (by omega)]))
                · first
                  | (exfalso; omega)
                  | (unfold bWp
                     rw [if_neg (fun q => w9.2 ⟨q.1, q.2.1, q.2.2.1⟩)])
            · refine hQ _ ?_
              · rcases p2hv with w9 | w9
                · first
                  | (exfalso; omega)
                  | (unfold bWp
                     rw [if_neg (by omega)])
                  | (unfold bWp
                     rw [if_pos ⟨by omega, by omega, w9.2.2.2, by omega, by omega⟩]
                     first
                     | (rw [if_pos (by omega)]
                        assumption)
                     | (rw [if_neg (by omega), if_pos (by omega)]
                        assumption)
                     | (rw [if_neg (by omega), if_neg (by omega), if_pos (by omega)]
                        assumption)
                     | (rw [if_neg (by omega), if_neg (by omega), if_neg (by omega)]))
                · first
                  | (exfalso; omega)
                  | (unfold bWp
                     rw [if_neg (fun q => w9.2 ⟨q.1, q.2.1, q.2.2.1⟩)]))
def T_A_blk : ZT := fun args I L R S Q => ∃ (b : Nat) (s : BdS) (n : Int) (k : Int), args = [zvr 82, zvi n, zvi k] ∧ (zSh S) ∧ (zRs R) ∧ (zBA b s I L) ∧ (r32 n ∧ r32 k) ∧ ∀ (v : Int), (v = bBlk s n k) → Q (some (zvi (v))) I L R S
theorem sn_A_blk : ZSnd 2 0 4 T_A_blk := ZSnd.loops (zT0_4 1) (by
  rintro args I L R S Q hz ⟨b, s, n, k, rfl, hS, hR, hBA, hr, hQ⟩
  obtain ⟨⟨hb0, hbw, hbh, hbd, hbs⟩, hnb, hcl, hPT, hNT, hwy, hco, hnd⟩ := id hBA
  obtain ⟨hP1, hP2, hP3, hP4⟩ := id hPT
  obtain ⟨hN1, hN2, hN3, hN4⟩ := id hNT
  refine ⟨[22], fun nM tM lsM stM I1 L1 R1 S1 => match tM with
      | 22 => ∃ (f : Int) (o : Nat), nM = ((12 - o), 0, 0) ∧ lsM = [some (zvr (82)), some (zvi (n)), some (zvi (k)), some (zvi (f)), some (zvi (o))] ∧ stM = [] ∧ I1 = I ∧ L1 = L ∧ R1 = R ∧ S1 = S ∧ (0 ≤ n ∧ n < bnn s) ∧ (o ≤ 12) ∧ (0 ≤ f ∧ f ≤ o) ∧ (bNth (bN s n.toNat 5) 12 0 k = bNth (bN s n.toNat 5) (12 - o) o (k - f))
      | _ => False, rfl, ?_, ⟨?_, True.intro⟩⟩
  · refine And.intro (by omega) ⟨fun h1 => ?_, fun h1 => ?_⟩
    · refine hQ _ ?_
      · unfold bBlk
        first
        | (rw [if_neg (by omega)])
        | (rw [if_pos hn9, hb, show 12 - o = 0 by omega]
           rfl)
        | (rw [if_pos hn9, hb, show 12 - o = 12 - (o + 1) + 1 by omega]
           have e5 : v35o = bN s n.toNat 5 := p35hv
           subst e5
           refine ((zite_t (show bBit (bN s n.toNat 5) o from by assumption)).trans ?_).symm
           rw [if_pos (by omega)])
    · refine And.intro (zA_82 hS) (zrdR (v := some 90) (zR_82_11 hR) ?_)
      refine And.intro (zA_90 hS) (zrd (v := (bnn s)) hN2 ?_)
      refine And.intro ⟨(by omega), (by omega)⟩ ⟨fun h12 => ?_, fun h12 => ?_⟩
      · refine ⟨((12 - (0 : Nat)), 0, 0), [some (zvr (82)), some (zvi (n)), some (zvi (k)), some (zvi ((0 : Int))), some (zvi ((0 : Nat)))], ⟨rfl, rfl, rfl, rfl, rfl, rfl⟩, 0, 0, rfl, rfl, rfl, rfl, rfl, rfl, rfl, (by omega), (by omega), (by omega), (by rw [Int.sub_zero])⟩
      · refine hQ _ ?_
        · unfold bBlk
          first
          | (rw [if_neg (by omega)])
          | (rw [if_pos hn9, hb, show 12 - o = 0 by omega]
             rfl)
          | (rw [if_pos hn9, hb, show 12 - o = 12 - (o + 1) + 1 by omega]
             have e5 : v35o = bN s n.toNat 5 := p35hv
             subst e5
             refine ((zite_t (show bBit (bN s n.toNat 5) o from by assumption)).trans ?_).symm
             rw [if_pos (by omega)])
  · rintro nM lsM stM I1 L1 R1 S1 hz1 ⟨f, o, rfl, rfl, rfl, rfl, rfl, rfl, rfl, hn9, ho, hf, hb⟩
    refine And.intro ⟨(by omega), (zRb rfl)⟩ ⟨fun h26 => ?_, fun h26 => ?_⟩
    · refine hQ _ ?_
      · unfold bBlk
        first
        | (rw [if_neg (by omega)])
        | (rw [if_pos hn9, hb, show 12 - o = 0 by omega]
           rfl)
        | (rw [if_pos hn9, hb, show 12 - o = 12 - (o + 1) + 1 by omega]
           have e5 : v35o = bN s n.toNat 5 := p35hv
           subst e5
           refine ((zite_t (show bBit (bN s n.toNat 5) o from by assumption)).trans ?_).symm
           rw [if_pos (by omega)])
    · refine And.intro (zA_82 hS) (zrdR (v := some 90) (zR_82_11 hR) ?_)
      refine And.intro (zA_90 hS) ⟨_, sn_A_at.up (by decide), ?_⟩
      refine ⟨_, _, _, _, n.toNat, 5, (n : Int), (5 : Int), rfl, hS, hR, (zRw_90 hR hS), (by first | exact (zRT_fr hNT (fun c j h => rfl)) | (clear hQ; grind [xu])), (by omega), (by omega), ?_⟩
      intro v35o p35hv p35bhr
      have b42 : (zand (zshr v35o o) 1) = (zshr v35o o) % 2 := zand1 _
      refine And.intro zr_and ⟨fun h43 => ?_, fun h43 => ?_⟩
      · refine ⟨((12 - (o + 1)), 0, 0), zlt6 (by omega), [some (zvr (82)), some (zvi (n)), some (zvi (k)), some (zvi (f)), some (zvi ((o + 1)))], ⟨rfl, rfl, rfl, rfl, rfl, rfl⟩, f, (o + 1), rfl, rfl, rfl, rfl, rfl, rfl, rfl, (by omega), (by omega), (by omega), ?_⟩
        · refine hb.trans ?_
          rw [show 12 - o = 12 - (o + 1) + 1 by omega]
          have e5 : v35o = bN s n.toNat 5 := p35hv
          subst e5
          first
          | (refine (zite_f (show ¬ bBit (bN s n.toNat 5) o from fun q => q (by assumption))).trans rfl)
          | (refine (zite_t (show bBit (bN s n.toNat 5) o from by assumption)).trans ?_
             rw [if_neg (by omega), show k - f - 1 = k - (f + 1) by omega])
      · refine And.intro ⟨(by omega), (by omega)⟩ ⟨fun h48 => ?_, fun h48 => ?_⟩
        · refine ⟨((12 - (o + 1)), 0, 0), zlt6 (by omega), [some (zvr (82)), some (zvi (n)), some (zvi (k)), some (zvi ((f + 1))), some (zvi ((o + 1)))], ⟨rfl, rfl, rfl, rfl, rfl, rfl⟩, (f + 1), (o + 1), rfl, rfl, rfl, rfl, rfl, rfl, rfl, (by omega), (by omega), (by omega), ?_⟩
          · refine hb.trans ?_
            rw [show 12 - o = 12 - (o + 1) + 1 by omega]
            have e5 : v35o = bN s n.toNat 5 := p35hv
            subst e5
            first
            | (refine (zite_f (show ¬ bBit (bN s n.toNat 5) o from fun q => q (by assumption))).trans rfl)
            | (refine (zite_t (show bBit (bN s n.toNat 5) o from by assumption)).trans ?_
               rw [if_neg (by omega), show k - f - 1 = k - (f + 1) by omega])
        · refine hQ _ ?_
          · unfold bBlk
            first
            | (rw [if_neg (by omega)])
            | (rw [if_pos hn9, hb, show 12 - o = 0 by omega]
               rfl)
            | (rw [if_pos hn9, hb, show 12 - o = 12 - (o + 1) + 1 by omega]
               have e5 : v35o = bN s n.toNat 5 := p35hv
               subst e5
               refine ((zite_t (show bBit (bN s n.toNat 5) o from by assumption)).trans ?_).symm
               rw [if_pos (by omega)]))
