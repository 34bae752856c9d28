/-! jo -/
def T_A_bkF : ZT := fun args I L R S Q => ∃ (b : Nat) (s1 : BdS) (s : BdS) (n : Nat) (rr : Int) (tr : Nat → Int) (hb_ : Nat) (a : Int) (c : Nat), args = [zvr 98, zvi a] ∧ (zSh S) ∧ (zRs R) ∧ (zBA b s1 I L) ∧ (bGz s1) ∧ (s1.1 = s.1 ∧ bco s1 = bco s) ∧ (a = c) ∧ (0 ≤ bDn s n rr c) ∧ (bNst s n rr tr c) ∧ (¬ bTr s n c) ∧ ((∀ d : Nat, d < bK s → I 99 d = -1 ∨ (0 ≤ bDn s n rr d ∧ bDn s n rr d ≤ I 99 d ∧ I 99 d ≤ (hb_ + 352 : Int) * 1025))) ∧ ((∀ d : Nat, 0 ≤ bDn s n rr d → bNst s n rr tr d → I 99 d = bDn s n rr d)) ∧ (∀ d : Nat, d < bK s → I 100 d = bTl s n rr d) ∧ (hb_ ≤ 1000000 ∧ ∀ d : Nat, d < bK s → bTl s n rr d ≤ hb_ + 300) ∧ ∀ (v : Int), (v = bBk s n rr c) → (-1 ≤ v ∧ v ≤ 1023) → Q (some (zvi (v))) I L R S
theorem sn_A_bkF : ZSnd 3 6 0 T_A_bkF := ZSnd.loops (zT6_0 2) (by
  rintro args I L R S Q hz ⟨b, s1, s, n, rr, tr, hb_, a, c, rfl, hS, hR, hBA, hGz, hss, ha, hD, hN, hT, hd2, hd3, htl, hbh9, hQ⟩
  obtain ⟨⟨hb0, hbw, hbh, hbd, hbs⟩, hnb, hcl, hPT, hNT, hwy, hco, hnd⟩ := id hBA
  obtain ⟨hP1, hP2, hP3, hP4⟩ := id hPT
  obtain ⟨hN1, hN2, hN3, hN4⟩ := id hNT
  obtain ⟨⟨⟨gW1, gW2⟩, ⟨gH1, gH2⟩, ⟨gD1, gD2⟩, gB9⟩, ⟨gnp, gnn⟩, gco⟩ := id hGz
  obtain ⟨hK1, hnb1, hst1⟩ := bss hss
  have hKe : bK s1 = bW s1 * bH s1 * bD s1 := rfl
  have gB8 : bK s ≤ 1024 := by rw [← hK1]; exact gB9
  have hc : c < bK s := bDi_lt gB8 hD
  have ht0 : 0 ≤ bTl s n rr c ∧ bTl s n rr c ≤ hb_ + 300 := by
      obtain ⟨c9, x9, y1, y2, y3, y4, y5⟩ := bDi_p hD hT
      have q := bTl_ge s n rr c
      exact ⟨by omega, hbh9.2 c hc⟩
  have hDc := hd3 c hD hN
  refine ⟨[2], fun nM tM lsM stM I1 L1 R1 S1 => match tM with
      | 2 => ∃ (x : Nat), nM = ((6 - x), 0, 0) ∧ lsM = [some (zvr (98)), some (zvi (c)), some (zvi (x)), none] ∧ stM = [] ∧ I1 = I ∧ L1 = L ∧ R1 = R ∧ S1 = S ∧ (x ≤ 6) ∧ (∀ y : Nat, y < x → ¬ bBp s n rr c y)
      | _ => False, rfl, ?_, ⟨?_, True.intro⟩⟩
  · refine ⟨((6 - (0 : Nat)), 0, 0), [some (zvr (98)), some (zvi (c)), some (zvi ((0 : Nat))), none], ⟨rfl, (congrArg (fun z => some (zvi z)) (by omega)), rfl, rfl⟩, 0, rfl, rfl, rfl, rfl, rfl, rfl, rfl, (by omega), (fun q h => absurd h (Nat.not_lt_zero q))⟩
  · rintro nM lsM stM I1 L1 R1 S1 hz1 ⟨x, rfl, rfl, rfl, rfl, rfl, rfl, rfl, hx6, hno⟩
    refine And.intro ⟨(by omega), (zRb rfl)⟩ ⟨fun h5 => ?_, fun h5 => ?_⟩
    · refine hQ _ ?_ (by omega)
      · unfold bBk
        first
        | (have h6 : x = 6 := by omega
           subst h6
           rw [zlow_no hno, if_pos rfl])
        | (have hP : bBp s n rr c x := by
             have w := hd2 v14o.toNat (by omega)
             have w9 := nbI_sym (W := bW s) (H := bH s) (D := bD s) (c := c) (x := x) (e := v14o.toNat) hc (by omega) ((show nbI (bW s) (bH s) (bD s) c x = v14o from g14.symm).trans (by omega))
             have e1 : bDn s n rr c = bDi s n rr (bTr s n) c := rfl
             have e2 : bDn s n rr v14o.toNat = bDi s n rr (bTr s n) v14o.toNat := rfl
             have w8 := (bDi_s (s := s) (n := n) (r := rr) (T := bTr s n) (c := v14o.toNat) (x := 5 - x) (d := c) (by omega) (by omega) w9 (by omega)).2
             refine ⟨by rw [← g14]; omega, ?_, ?_⟩
             · rw [← g14]
               omega
             · rw [← g14]
               omega
           rw [zlow_at hP hno (by omega), if_neg (by omega)]
           exact g14)
    · refine And.intro (zA_98 hS) (zrdR (v := some 82) (zR_98_0 hR) ?_)
      refine And.intro (zA_82 hS) ⟨_, sn_A_nb.up (by decide), ?_⟩
      refine ⟨(bW s1), (bH s1), (bD s1), (c : Int), c, (x : Int), x, rfl, hS, hR, (by omega), (by omega), gB9, (by omega), (by clear hQ; grind [xu]), ?_⟩
      intro v14o p14hv p14bhv2
      have g14 : v14o = bnb s c x := (p14hv.trans (hnb1 c x))
      refine And.intro ⟨(by omega), (zRb rfl)⟩ ⟨fun h20 => ?_, fun h20 => ?_⟩
      · refine ⟨((6 - (x + 1)), 0, 0), zlt6 (by omega), [some (zvr (98)), some (zvi (c)), some (zvi ((x + 1))), none], ⟨rfl, rfl, rfl, rfl⟩, (x + 1), rfl, rfl, rfl, rfl, rfl, rfl, rfl, (by omega), ?_⟩
        · intro y hy
          by_cases e : y = x
          · subst e
            intro w
            obtain ⟨w1, w2, w3⟩ := w
            rw [← g14] at w1 w2 w3
            first
            | exact absurd p14hv (by omega)
            | (have t1 := bStp_2 s v14o.toNat (5 - y)
               have hN2 : bNst s n rr tr v14o.toNat := fun q q1 q2 => by
                 have := hN q q1 q2
                 omega
               have w4 := hd3 v14o.toNat w2 hN2
               omega)
          · exact hno y (by omega)
      · refine And.intro (zA_98 hS) (zrdR (v := some 99) (zR_98_1 hR) ?_)
        refine And.intro (zP_99 hS (by omega) (by omega)) (fun v28 e28 r28 => ?_)
        have f28 : v28 = I1 99 v14o.toNat := (e28.trans (congrArg (I1 99) (by omega)))
        refine And.intro ⟨r28, (zRb rfl)⟩ ⟨fun h30 => ?_, fun h30 => ?_⟩
        · refine ⟨((6 - (x + 1)), 0, 0), zlt6 (by omega), [some (zvr (98)), some (zvi (c)), some (zvi ((x + 1))), none], ⟨rfl, rfl, rfl, rfl⟩, (x + 1), rfl, rfl, rfl, rfl, rfl, rfl, rfl, (by omega), ?_⟩
          · intro y hy
            by_cases e : y = x
            · subst e
              intro w
              obtain ⟨w1, w2, w3⟩ := w
              rw [← g14] at w1 w2 w3
              first
              | exact absurd p14hv (by omega)
              | (have t1 := bStp_2 s v14o.toNat (5 - y)
                 have hN2 : bNst s n rr tr v14o.toNat := fun q q1 q2 => by
                   have := hN q q1 q2
                   omega
                 have w4 := hd3 v14o.toNat w2 hN2
                 omega)
            · exact hno y (by omega)
        · refine And.intro (zA_98 hS) (zrdR (v := some 99) (zR_98_1 hR) ?_)
          refine And.intro (zP_99 hS (by omega) (by omega)) (fun v38 e38 r38 => ?_)
          have f38 : v38 = I1 99 v14o.toNat := (e38.trans (congrArg (I1 99) (by omega)))
          have f38b : 0 ≤ v38 ∧ v38 ≤ 1025360800 := (by have w := hd2 v14o.toNat (by omega); omega)
          refine And.intro (zA_98 hS) (zrdR (v := some 82) (zR_98_0 hR) ?_)
          refine And.intro (zA_82 hS) ⟨_, sn_A_stp.up (by decide), ?_⟩
          refine ⟨b, s1, (v14o : Int), (v14o.toNat), ((5 - x) : Int), (5 - x), rfl, hS, hR, (by first | exact (zBA_fr hBA (fun c j h => rfl) (fun c j h => rfl)) | (clear hQ; grind [xu])), (by clear hQ; grind [xu]), (by omega), (by omega), (by omega), ?_⟩
          intro v47o p47hv p47bhv2
          have g47 : v47o = bStp s v14o.toNat (5 - x) := (p47hv.trans (congrArg (fun q : Nat => (q : Int)) (hst1 _ _)))
          refine And.intro (zA_98 hS) (zrdR (v := some 100) (zR_98_2 hR) ?_)
          refine And.intro (zP_100 hS (by omega) (by omega)) (fun v56 e56 r56 => ?_)
          have f56 : v56 = bTl s n rr c := (e56.trans ((congrArg (I1 100) (by omega)).trans (htl c hc)))
          refine And.intro (zA_98 hS) (zrdR (v := some 99) (zR_98_1 hR) ?_)
          refine And.intro (zP_99 hS (by omega) (by omega)) (fun v63 e63 r63 => ?_)
          have f63 : v63 = bDn s n rr c := (e63.trans ((congrArg (I1 99) (by omega)).trans hDc))
          refine And.intro ⟨(by omega), r63⟩ ⟨fun h64 => ?_, fun h64 => ?_⟩
          · refine ⟨((6 - (x + 1)), 0, 0), zlt6 (by omega), [some (zvr (98)), some (zvi (c)), some (zvi ((x + 1))), none], ⟨rfl, rfl, rfl, rfl⟩, (x + 1), rfl, rfl, rfl, rfl, rfl, rfl, rfl, (by omega), ?_⟩
            · intro y hy
              by_cases e : y = x
              · subst e
                intro w
                obtain ⟨w1, w2, w3⟩ := w
                rw [← g14] at w1 w2 w3
                first
                | exact absurd p14hv (by omega)
                | (have t1 := bStp_2 s v14o.toNat (5 - y)
                   have hN2 : bNst s n rr tr v14o.toNat := fun q q1 q2 => by
                     have := hN q q1 q2
                     omega
                   have w4 := hd3 v14o.toNat w2 hN2
                   omega)
              · exact hno y (by omega)
          · refine hQ _ ?_ (by omega)
            · unfold bBk
              first
              | (have h6 : x = 6 := by omega
                 subst h6
                 rw [zlow_no hno, if_pos rfl])
              | (have hP : bBp s n rr c x := by
                   have w := hd2 v14o.toNat (by omega)
                   have w9 := nbI_sym (W := bW s) (H := bH s) (D := bD s) (c := c) (x := x) (e := v14o.toNat) hc (by omega) ((show nbI (bW s) (bH s) (bD s) c x = v14o from g14.symm).trans (by omega))
                   have e1 : bDn s n rr c = bDi s n rr (bTr s n) c := rfl
                   have e2 : bDn s n rr v14o.toNat = bDi s n rr (bTr s n) v14o.toNat := rfl
                   have w8 := (bDi_s (s := s) (n := n) (r := rr) (T := bTr s n) (c := v14o.toNat) (x := 5 - x) (d := c) (by omega) (by omega) w9 (by omega)).2
                   refine ⟨by rw [← g14]; omega, ?_, ?_⟩
                   · rw [← g14]
                     omega
                   · rw [← g14]
                     omega
                 rw [zlow_at hP hno (by omega), if_neg (by omega)]
                 exact g14))
def T_A_blkOf : ZT := fun args I L R S Q => ∃ (b : Nat) (s : BdS) (n : Nat) (x : Int), args = [zvr 98, zvi x] ∧ (zSh S) ∧ (zRs R) ∧ (zBA b s I L) ∧ (bGz s) ∧ (x = n ∧ n < bnn s) ∧ (∀ c, c < 1024 → -1 ≤ bho s c ∧ bho s c < 12) ∧ (∀ d : Nat, d < bK s → I 99 d = bDn s n 0 d) ∧ ∀ (v : Int), (v = bMc s n (bK s)) → (0 ≤ v ∧ v < 4096) → Q (some (zvi (v))) I L R S
theorem sn_A_blkOf : ZSnd 2 6 1 T_A_blkOf := ZSnd.loops (zT6_1 1) (by
  rintro args I L R S Q hz ⟨b, s, n, x, rfl, hS, hR, hBA, hGz, hxn, hho, hdd, hQ⟩
  obtain ⟨⟨hb0, hbw, hbh, hbd, hbs⟩, hnb, hcl, hPT, hNT, hwy, hco, hnd⟩ := id hBA
  obtain ⟨hP1, hP2, hP3, hP4⟩ := id hPT
  obtain ⟨hN1, hN2, hN3, hN4⟩ := id hNT
  obtain ⟨⟨⟨gW1, gW2⟩, ⟨gH1, gH2⟩, ⟨gD1, gD2⟩, gB9⟩, ⟨gnp, gnn⟩, gco⟩ := id hGz
  have hKe : bK s = bW s * bH s * bD s := rfl
  have m1 := zmb (a := (bW s : Int)) (b := (bH s : Int)) (A := 16) (B := 16) (by omega) (by omega) (by omega) (by omega)
  have m2 := zmb (a := (bW s : Int) * bH s) (b := (bD s : Int)) (A := 256) (B := 4) (by omega) (by omega) (by omega) (by omega)
  refine ⟨[29, 38], fun nM tM lsM stM I1 L1 R1 S1 => match tM with
      | 29 => ∃ (k : Nat), nM = ((1025 - k), 7, 0) ∧ lsM = [some (zvr (98)), some (zvi (n)), some (zvi (bK s)), some (zvi (bMc s n k)), some (zvi (k)), none, none] ∧ stM = [] ∧ I1 = I ∧ L1 = L ∧ R1 = R ∧ S1 = S ∧ (k ≤ bK s)
      | 38 => ∃ (k : Nat) (y : Nat), nM = ((1025 - k), (6 - y), 0) ∧ lsM = [some (zvr (98)), some (zvi (n)), some (zvi (bK s)), some (zvi (bMs s n k (bMc s n k) y)), some (zvi (k)), some (zvi (y)), none] ∧ stM = [] ∧ I1 = I ∧ L1 = L ∧ R1 = R ∧ S1 = S ∧ (k < bK s ∧ y ≤ 6) ∧ (y = 0 ∨ bDn s n 0 k ≠ -1)
      | _ => False, rfl, ?_, ⟨?_, ?_, True.intro⟩⟩
  · refine And.intro (zA_98 hS) (zrdR (v := some 82) (zR_98_0 hR) ?_)
    refine And.intro (zA_82 hS) (zrd (v := (bW s)) hbw ?_)
    refine And.intro (zA_98 hS) (zrdR (v := some 82) (zR_98_0 hR) ?_)
    refine And.intro (zA_82 hS) (zrd (v := (bH s)) hbh ?_)
    refine And.intro (zA_98 hS) (zrdR (v := some 82) (zR_98_0 hR) ?_)
    refine And.intro (zA_82 hS) (zrd (v := (bD s)) hbd ?_)
    refine ⟨((1025 - (0 : Nat)), 7, 0), [some (zvr (98)), some (zvi (n)), some (zvi (bK s)), some (zvi (bMc s n (0 : Nat))), some (zvi ((0 : Nat))), none, none], ⟨rfl, (congrArg (fun z => some (zvi z)) (by omega)), (congrArg (fun z => some (zvi z)) (by rw [hKe, Int.natCast_mul, Int.natCast_mul])), (congrArg (fun z => some (zvi z)) rfl), rfl, rfl⟩, 0, rfl, rfl, rfl, rfl, rfl, rfl, rfl, (by omega)⟩
  · rintro nM lsM stM I1 L1 R1 S1 hz1 ⟨k, rfl, rfl, rfl, rfl, rfl, rfl, rfl, hk⟩
    have hm := bMc_b (n := n) gB9 hho k
    refine And.intro ⟨(by omega), (by omega)⟩ ⟨fun h32 => ?_, fun h32 => ?_⟩
    · refine hQ _ (by rw [show k = bK s by omega]) (by omega)
    · refine ⟨((1025 - k), (6 - (0 : Nat)), 0), zlt6 (by omega), [some (zvr (98)), some (zvi (n)), some (zvi (bK s)), some (zvi (bMs s n k (bMc s n k) (0 : Nat))), some (zvi (k)), some (zvi ((0 : Nat))), none], ⟨rfl, rfl, rfl, (congrArg (fun z => some (zvi z)) rfl), rfl, rfl, rfl⟩, k, 0, rfl, rfl, rfl, rfl, rfl, rfl, rfl, (by omega), (Or.inl rfl)⟩
  · rintro nM lsM stM I1 L1 R1 S1 hz1 ⟨k, y, rfl, rfl, rfl, rfl, rfl, rfl, rfl, hk, hxk⟩
    have hm := bMs_b (n := n) (c := k) gB9 hho (bMc_b (n := n) gB9 hho k) y
    refine And.intro ⟨(by omega), (zRb rfl)⟩ ⟨fun h42 => ?_, fun h42 => ?_⟩
    · refine ⟨((1025 - (k + 1)), 7, 0), zlt6 (by omega), [some (zvr (98)), some (zvi (n)), some (zvi (bK s)), some (zvi (bMc s n (k + 1))), some (zvi ((k + 1))), none, none], ⟨rfl, rfl, rfl, (congrArg (fun z => some (zvi z)) (by
  show _ = if bDn s n 0 k ≠ -1 then bMs s n k (bMc s n k) 6 else bMc s n k
  first
  | (rw [if_neg (by omega)]
     have h0 : y = 0 := by omega
     subst h0
     rfl)
  | rw [if_pos (by omega), show y = 6 by omega])), rfl, rfl⟩, (k + 1), rfl, rfl, rfl, rfl, rfl, rfl, rfl, (by omega)⟩
    · refine And.intro (zA_98 hS) (zrdR (v := some 99) (zR_98_1 hR) ?_)
      refine And.intro (zP_99 hS (by omega) (by omega)) (fun v51 e51 r51 => ?_)
      have f51 : v51 = bDn s n 0 k := (e51.trans ((congrArg (I1 99) (by omega)).trans (hdd k (by omega))))
      refine And.intro ⟨r51, (zRb rfl)⟩ ⟨fun h53 => ?_, fun h53 => ?_⟩
      · refine ⟨((1025 - (k + 1)), 7, 0), zlt6 (by omega), [some (zvr (98)), some (zvi (n)), some (zvi (bK s)), some (zvi (bMc s n (k + 1))), some (zvi ((k + 1))), none, none], ⟨rfl, rfl, rfl, (congrArg (fun z => some (zvi z)) (by
  show _ = if bDn s n 0 k ≠ -1 then bMs s n k (bMc s n k) 6 else bMc s n k
  first
  | (rw [if_neg (by omega)]
     have h0 : y = 0 := by omega
     subst h0
     rfl)
  | rw [if_pos (by omega), show y = 6 by omega])), rfl, rfl⟩, (k + 1), rfl, rfl, rfl, rfl, rfl, rfl, rfl, (by omega)⟩
      · refine And.intro (zA_98 hS) (zrdR (v := some 82) (zR_98_0 hR) ?_)
        refine And.intro (zA_82 hS) ⟨_, sn_A_nb.up (by decide), ?_⟩
        refine ⟨(bW s), (bH s), (bD s), (k : Int), k, (y : Int), y, rfl, hS, hR, (by omega), (by omega), gB9, (by omega), (by clear hQ; grind [xu]), ?_⟩
        intro v64o p64hv p64bhv2
        have g64 : v64o = bnb s k y := p64hv
        refine And.intro ⟨(by omega), (zRb rfl)⟩ ⟨fun h72 => ?_, fun h72 => ?_⟩
        · refine ⟨((1025 - k), (6 - (y + 1)), 0), zlt6 (by omega), [some (zvr (98)), some (zvi (n)), some (zvi (bK s)), some (zvi (bMs s n k (bMc s n k) (y + 1))), some (zvi (k)), some (zvi ((y + 1))), none], ⟨rfl, rfl, rfl, (congrArg (fun z => some (zvi z)) (by
  show _ = zite (bHO s n (bnb s k y)) (zmk (bMs s n k (bMc s n k) y) (bho s (bnb s k y).toNat)) (bMs s n k (bMc s n k) y)
  rw [← g64]
  first
  | (have hq : ¬ bHO s n v64o := fun q => q.1 (by omega)
     rw [zite_f hq])
  | (rcases p82hv with w9 | w9
     · first
       | (exfalso; omega)
       | (have hq : bHO s n v64o := And.intro (by omega) (And.intro (by omega) (by omega))
          rw [zite_t hq, ← f99]
          rfl)
     · have hq : ¬ bHO s n v64o := fun q => by
         have q1 := q.2.1
         have q2 := q.2.2
         omega
       first
       | (exfalso; omega)
       | rw [zite_f hq]))), rfl, rfl, rfl⟩, k, (y + 1), rfl, rfl, rfl, rfl, rfl, rfl, rfl, (by omega), (by omega)⟩
        · refine And.intro (zA_98 hS) (zrdR (v := some 82) (zR_98_0 hR) ?_)
          refine And.intro (zA_82 hS) ⟨_, sn_A_hby.up (by decide), ?_⟩
          refine ⟨(v64o : Int), (n : Int), (v64o).toNat, (bho s v64o.toNat), rfl, hS, hR, (by omega), (hcl v64o.toNat (by omega)).2.2.1, (by omega), ?_⟩
          intro v82o p82hv
          refine And.intro (by omega) ⟨fun h85 => ?_, fun h85 => ?_⟩
          · refine ⟨((1025 - k), (6 - (y + 1)), 0), zlt6 (by omega), [some (zvr (98)), some (zvi (n)), some (zvi (bK s)), some (zvi (bMs s n k (bMc s n k) (y + 1))), some (zvi (k)), some (zvi ((y + 1))), none], ⟨rfl, rfl, rfl, (congrArg (fun z => some (zvi z)) (by
  show _ = zite (bHO s n (bnb s k y)) (zmk (bMs s n k (bMc s n k) y) (bho s (bnb s k y).toNat)) (bMs s n k (bMc s n k) y)
  rw [← g64]
  first
  | (have hq : ¬ bHO s n v64o := fun q => q.1 (by omega)
     rw [zite_f hq])
  | (rcases p82hv with w9 | w9
     · first
       | (exfalso; omega)
       | (have hq : bHO s n v64o := And.intro (by omega) (And.intro (by omega) (by omega))
          rw [zite_t hq, ← f99]
          rfl)
     · have hq : ¬ bHO s n v64o := fun q => by
         have q1 := q.2.1
         have q2 := q.2.2
         omega
       first
       | (exfalso; omega)
       | rw [zite_f hq]))), rfl, rfl, rfl⟩, k, (y + 1), rfl, rfl, rfl, rfl, rfl, rfl, rfl, (by omega), (by omega)⟩
          · refine And.intro (zA_98 hS) (zrdR (v := some 82) (zR_98_0 hR) ?_)
            refine And.intro (zA_82 hS) (zrdR (v := some 86) (zR_82_8 hR) ?_)
            refine And.intro (zP_86 hS (by omega) (by omega)) (fun v99 e99 r99 => ?_)
            have f99 : v99 = bho s v64o.toNat := (e99.trans ((congrArg (I1 86) (by omega)).trans (hcl v64o.toNat (by omega)).2.2.1))
            refine ⟨((1025 - k), (6 - (y + 1)), 0), zlt6 (by omega), [some (zvr (98)), some (zvi (n)), some (zvi (bK s)), some (zvi (bMs s n k (bMc s n k) (y + 1))), some (zvi (k)), some (zvi ((y + 1))), none], ⟨rfl, rfl, rfl, (congrArg (fun z => some (zvi z)) (by
  show _ = zite (bHO s n (bnb s k y)) (zmk (bMs s n k (bMc s n k) y) (bho s (bnb s k y).toNat)) (bMs s n k (bMc s n k) y)
  rw [← g64]
  first
  | (have hq : ¬ bHO s n v64o := fun q => q.1 (by omega)
     rw [zite_f hq])
  | (rcases p82hv with w9 | w9
     · first
       | (exfalso; omega)
       | (have hq : bHO s n v64o := And.intro (by omega) (And.intro (by omega) (by omega))
          rw [zite_t hq, ← f99]
          rfl)
     · have hq : ¬ bHO s n v64o := fun q => by
         have q1 := q.2.1
         have q2 := q.2.2
         omega
       first
       | (exfalso; omega)
       | rw [zite_f hq]))), rfl, rfl, rfl⟩, k, (y + 1), rfl, rfl, rfl, rfl, rfl, rfl, rfl, (by omega), (by omega)⟩)
