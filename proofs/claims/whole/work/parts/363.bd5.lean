/-! bd5 -/
def T_A_stp : ZT := fun args I L R S Q => ∃ (b : Nat) (s : BdS) (a : Int) (c : Nat) (d : Int) (x : Nat), args = [zvr 82, zvi a, zvi d] ∧ (zSh S) ∧ (zRs R) ∧ (zBA b s I L) ∧ (bGz s) ∧ (a = c) ∧ (c < bW s * bH s * bD s) ∧ (d = x ∧ x < 6) ∧ ∀ (v : Int), (v = bStp s c x) → (2 ≤ v ∧ v ≤ 52) → Q (some (zvi (v))) I L R S
theorem sn_A_stp : ZSnd 2 0 24 T_A_stp := ZSnd.of (zT0_24 1) (by
  rintro args I L R S Q hz ⟨b, s, a, c, d, x, rfl, hS, hR, hBA, hGz, ha, hc, hd9, hQ⟩
  obtain ⟨⟨hb0, hbw, hbh, hbd, hbs⟩, hnb, hcl, hPT, hNT, hwy, hco, hnd⟩ := id hBA
  obtain ⟨hP1, hP2, hP3, hP4⟩ := id hPT
  obtain ⟨hN1, hN2, hN3, hN4⟩ := id hNT
  obtain ⟨⟨⟨gW1, gW2⟩, ⟨gH1, gH2⟩, ⟨gD1, gD2⟩, gB9⟩, ⟨gnp, gnn⟩, gco⟩ := id hGz
  have hq := cx_of hc
  have h1024 : c < 1024 := Nat.lt_of_lt_of_le hc gB9
  obtain ⟨l, hl⟩ : ∃ l, l = c / bW s / bH s := ⟨_, rfl⟩
  have hl3 : l < bD s := by rw [hl]; exact hq.1
  have gc0 := gco 0 l (by decide) (by omega)
  have gc1 := gco 1 l (by decide) (by omega)
  have gc2 := gco 1 (l - 1) (by decide) (by omega)
  refine And.intro rfl ?_
  refine And.intro (zA_82 hS) ⟨_, sn_A_lay.up (by decide), ?_⟩
  refine ⟨(bW s), (bH s), (bD s), (a : Int), c, rfl, hS, hR, hbw, hbh, hbd, (by omega), (by omega), hc, gB9, ?_⟩
  intro v2o p2hv p2bhv2
  have g2 : v2o = l := (p2hv.trans (by rw [hl]))
  refine And.intro (by omega) ⟨fun h7 => ?_, fun h7 => ?_⟩
  · refine And.intro ⟨(by omega), (zRb rfl)⟩ ⟨fun h31 => ?_, fun h31 => ?_⟩
    · refine And.intro ⟨(by omega), (zRb rfl)⟩ ⟨fun h45 => ?_, fun h45 => ?_⟩
      · refine And.intro ⟨(by omega), (zRb rfl), (by decide)⟩ (zdv (by omega) (fun q62 e62 => ?_))
        refine And.intro (by omega) ⟨fun h63 => ?_, fun h63 => ?_⟩
        · refine And.intro ⟨(zRb rfl), (zRb rfl)⟩ (zbt rfl ?_)
          refine hQ _ ?_ (by omega)
          · unfold bStp
            rw [← hl]
            first
            | (rw [if_pos (by omega), if_pos (by omega)]; omega)
            | (rw [if_pos (by omega), if_neg (by omega)]; omega)
            | (rw [if_neg (by omega), if_pos (by omega)]; omega)
            | (rw [if_neg (by omega), if_neg (by omega), if_pos (by omega)]; omega)
            | (rw [if_neg (by omega), if_neg (by omega), if_neg (by omega)]; omega)
        · refine And.intro ⟨(zRb rfl), (zRb rfl)⟩ (zbf rfl ?_)
          refine And.intro (zA_82 hS) (zrdR (v := some 94) (zR_82_14 hR) ?_)
          refine And.intro (zP_94 hS (by omega) (by omega)) (fun v86 e86 r86 => ?_)
          have f86 : v86 = bco s 0 l := (e86.trans ((congrArg (I 94) (by omega)).trans (hco l (by omega)).1))
          have f86b : 0 ≤ v86 ∧ v86 ≤ 50 := (by omega)
          refine hQ _ ?_ (by omega)
          · unfold bStp
            rw [← hl]
            first
            | (rw [if_pos (by omega), if_pos (by omega)]; omega)
            | (rw [if_pos (by omega), if_neg (by omega)]; omega)
            | (rw [if_neg (by omega), if_pos (by omega)]; omega)
            | (rw [if_neg (by omega), if_neg (by omega), if_pos (by omega)]; omega)
            | (rw [if_neg (by omega), if_neg (by omega), if_neg (by omega)]; omega)
      · refine And.intro ⟨(by omega), (zRb rfl)⟩ ⟨fun h50 => ?_, fun h50 => ?_⟩
        · refine And.intro ⟨(by omega), (zRb rfl), (by decide)⟩ (zdv (by omega) (fun q62 e62 => ?_))
          refine And.intro (by omega) ⟨fun h63 => ?_, fun h63 => ?_⟩
          · refine And.intro ⟨(zRb rfl), (zRb rfl)⟩ (zbf rfl ?_)
            refine And.intro (zA_82 hS) (zrdR (v := some 94) (zR_82_14 hR) ?_)
            refine And.intro (zP_94 hS (by omega) (by omega)) (fun v86 e86 r86 => ?_)
            have f86 : v86 = bco s 0 l := (e86.trans ((congrArg (I 94) (by omega)).trans (hco l (by omega)).1))
            have f86b : 0 ≤ v86 ∧ v86 ≤ 50 := (by omega)
            refine hQ _ ?_ (by omega)
            · unfold bStp
              rw [← hl]
              first
              | (rw [if_pos (by omega), if_pos (by omega)]; omega)
              | (rw [if_pos (by omega), if_neg (by omega)]; omega)
              | (rw [if_neg (by omega), if_pos (by omega)]; omega)
              | (rw [if_neg (by omega), if_neg (by omega), if_pos (by omega)]; omega)
              | (rw [if_neg (by omega), if_neg (by omega), if_neg (by omega)]; omega)
          · refine And.intro ⟨(zRb rfl), (zRb rfl)⟩ (zbt rfl ?_)
            refine hQ _ ?_ (by omega)
            · unfold bStp
              rw [← hl]
              first
              | (rw [if_pos (by omega), if_pos (by omega)]; omega)
              | (rw [if_pos (by omega), if_neg (by omega)]; omega)
              | (rw [if_neg (by omega), if_pos (by omega)]; omega)
              | (rw [if_neg (by omega), if_neg (by omega), if_pos (by omega)]; omega)
              | (rw [if_neg (by omega), if_neg (by omega), if_neg (by omega)]; omega)
        · refine And.intro ⟨(by omega), (zRb rfl), (by decide)⟩ (zdv (by omega) (fun q62 e62 => ?_))
          refine And.intro (by omega) ⟨fun h63 => ?_, fun h63 => ?_⟩
          · refine And.intro ⟨(zRb rfl), (zRb rfl)⟩ (zbt rfl ?_)
            refine hQ _ ?_ (by omega)
            · unfold bStp
              rw [← hl]
              first
              | (rw [if_pos (by omega), if_pos (by omega)]; omega)
              | (rw [if_pos (by omega), if_neg (by omega)]; omega)
              | (rw [if_neg (by omega), if_pos (by omega)]; omega)
              | (rw [if_neg (by omega), if_neg (by omega), if_pos (by omega)]; omega)
              | (rw [if_neg (by omega), if_neg (by omega), if_neg (by omega)]; omega)
          · refine And.intro ⟨(zRb rfl), (zRb rfl)⟩ (zbf rfl ?_)
            refine And.intro (zA_82 hS) (zrdR (v := some 94) (zR_82_14 hR) ?_)
            refine And.intro (zP_94 hS (by omega) (by omega)) (fun v86 e86 r86 => ?_)
            have f86 : v86 = bco s 0 l := (e86.trans ((congrArg (I 94) (by omega)).trans (hco l (by omega)).1))
            have f86b : 0 ≤ v86 ∧ v86 ≤ 50 := (by omega)
            refine hQ _ ?_ (by omega)
            · unfold bStp
              rw [← hl]
              first
              | (rw [if_pos (by omega), if_pos (by omega)]; omega)
              | (rw [if_pos (by omega), if_neg (by omega)]; omega)
              | (rw [if_neg (by omega), if_pos (by omega)]; omega)
              | (rw [if_neg (by omega), if_neg (by omega), if_pos (by omega)]; omega)
              | (rw [if_neg (by omega), if_neg (by omega), if_neg (by omega)]; omega)
    · refine And.intro (zA_82 hS) (zrdR (v := some 95) (zR_82_15 hR) ?_)
      refine And.intro (zP_95 hS (by omega) (by omega)) (fun v40 e40 r40 => ?_)
      have f40 : v40 = bco s 1 l := (e40.trans ((congrArg (I 95) (by omega)).trans (hco l (by omega)).2.1))
      have f40b : 0 ≤ v40 ∧ v40 ≤ 50 := (by omega)
      refine hQ _ ?_ (by omega)
      · unfold bStp
        rw [← hl]
        first
        | (rw [if_pos (by omega), if_pos (by omega)]; omega)
        | (rw [if_pos (by omega), if_neg (by omega)]; omega)
        | (rw [if_neg (by omega), if_pos (by omega)]; omega)
        | (rw [if_neg (by omega), if_neg (by omega), if_pos (by omega)]; omega)
        | (rw [if_neg (by omega), if_neg (by omega), if_neg (by omega)]; omega)
  · refine And.intro (by omega) ⟨fun h12 => ?_, fun h12 => ?_⟩
    · refine hQ _ ?_ (by omega)
      · unfold bStp
        rw [← hl]
        first
        | (rw [if_pos (by omega), if_pos (by omega)]; omega)
        | (rw [if_pos (by omega), if_neg (by omega)]; omega)
        | (rw [if_neg (by omega), if_pos (by omega)]; omega)
        | (rw [if_neg (by omega), if_neg (by omega), if_pos (by omega)]; omega)
        | (rw [if_neg (by omega), if_neg (by omega), if_neg (by omega)]; omega)
    · refine And.intro (zA_82 hS) (zrdR (v := some 95) (zR_82_15 hR) ?_)
      refine And.intro (zP_95 hS (by omega) (by omega)) (fun v22 e22 r22 => ?_)
      have f22 : v22 = bco s 1 (l - 1) := (e22.trans ((congrArg (I 95) (by omega)).trans (hco (l - 1) (by omega)).2.1))
      have f22b : 0 ≤ v22 ∧ v22 ≤ 50 := (by omega)
      refine hQ _ ?_ (by omega)
      · unfold bStp
        rw [← hl]
        first
        | (rw [if_pos (by omega), if_pos (by omega)]; omega)
        | (rw [if_pos (by omega), if_neg (by omega)]; omega)
        | (rw [if_neg (by omega), if_pos (by omega)]; omega)
        | (rw [if_neg (by omega), if_neg (by omega), if_pos (by omega)]; omega)
        | (rw [if_neg (by omega), if_neg (by omega), if_neg (by omega)]; omega))
def T_A_ent : ZT := fun args I L R S Q => ∃ (b : Nat) (s : BdS) (a : Int) (c : Nat) (n : Int) (hb_ : Nat), args = [zvr 82, zvi a, zvi n] ∧ (zSh S) ∧ (zRs R) ∧ (zBA b s I L) ∧ (bGz s) ∧ (a = c) ∧ (c < bW s * bH s * bD s) ∧ (r32 n) ∧ (bhi s c ≤ hb_ ∧ hb_ ≤ 1000000) ∧ ∀ (v : Int), (v = bEnt s n c) → (0 ≤ v ∧ v ≤ hb_ + 200) → Q (some (zvi (v))) I L R S
theorem sn_A_ent : ZSnd 2 0 7 T_A_ent := ZSnd.loops (zT0_7 1) (by
  rintro args I L R S Q hz ⟨b, s, a, c, n, hb_, rfl, hS, hR, hBA, hGz, ha, hc, hr, hbh9, hQ⟩
  obtain ⟨⟨hb0, hbw, hbh, hbd, hbs⟩, hnb, hcl, hPT, hNT, hwy, hco, hnd⟩ := id hBA
  obtain ⟨hP1, hP2, hP3, hP4⟩ := id hPT
  obtain ⟨hN1, hN2, hN3, hN4⟩ := id hNT
  obtain ⟨⟨⟨gW1, gW2⟩, ⟨gH1, gH2⟩, ⟨gD1, gD2⟩, gB9⟩, ⟨gnp, gnn⟩, gco⟩ := id hGz
  have hq := cx_of hc
  have h1024 : c < 1024 := Nat.lt_of_lt_of_le hc gB9
  obtain ⟨l, hl⟩ : ∃ l, l = c / bW s / bH s := ⟨_, rfl⟩
  have hl3 : l < bD s := by rw [hl]; exact hq.1
  have gc0 := gco 2 l (by decide) (by omega)
  obtain ⟨ec, hec⟩ : ∃ ec, ec = bco s 2 l := ⟨_, rfl⟩
  have he5 : ec ≤ 50 := by rw [hec]; exact gc0
  refine ⟨[22], fun nM tM lsM stM I1 L1 R1 S1 => match tM with
      | 22 => ∃ (x : Nat), nM = ((5 - x), 0, 0) ∧ lsM = [some (zvr (82)), some (zvi (c)), some (zvi (n)), some (zvi (ec)), some (zvi (bhi s c + ec * bNr s n c x)), some (zvi (x + 1)), none] ∧ stM = [] ∧ I1 = I ∧ L1 = L ∧ R1 = R ∧ S1 = S ∧ (x ≤ 4) ∧ (ec = 0 → x = 0)
      | _ => False, rfl, ?_, ⟨?_, True.intro⟩⟩
  · refine And.intro (zA_82 hS) (zrdR (v := some 96) (zR_82_16 hR) ?_)
    refine And.intro (zA_82 hS) ⟨_, sn_A_lay.up (by decide), ?_⟩
    refine ⟨(bW s), (bH s), (bD s), (a : Int), c, rfl, hS, hR, hbw, hbh, hbd, (by omega), (by omega), hc, gB9, ?_⟩
    intro v6o p6hv p6bhv2
    have g6 : v6o = l := (p6hv.trans (by rw [hl]))
    refine And.intro (zP_96 hS (by omega) (by omega)) (fun v9 e9 r9 => ?_)
    have f9 : v9 = ec := (e9.trans ((congrArg (I 96) (by omega)).trans ((hco l (by omega)).2.2.trans (by rw [hec]))))
    refine And.intro (zA_82 hS) (zrdR (v := some 85) (zR_82_7 hR) ?_)
    refine And.intro (zP_85 hS (by omega) (by omega)) (fun v16 e16 r16 => ?_)
    have f16 : v16 = bhi s c := (e16.trans ((congrArg (I 85) (by omega)).trans (hcl c h1024).2.1))
    refine ⟨((5 - (0 : Nat)), 0, 0), [some (zvr (82)), some (zvi (c)), some (zvi (n)), some (zvi (ec)), some (zvi (bhi s c + ec * bNr s n c (0 : Nat))), some (zvi ((0 : Nat) + 1)), none], ⟨rfl, (congrArg (fun z => some (zvi z)) (by omega)), rfl, (congrArg (fun z => some (zvi z)) (by omega)), (congrArg (fun z => some (zvi z)) (by show v16 = (bhi s c : Int) + (ec : Int) * ((0 : Nat) : Int); rw [Int.natCast_zero, Int.mul_zero]; omega)), (congrArg (fun z => some (zvi z)) (by omega)), rfl⟩, 0, rfl, rfl, rfl, rfl, rfl, rfl, rfl, (by omega), (fun _ => rfl)⟩
  · rintro nM lsM stM I1 L1 R1 S1 hz1 ⟨x, rfl, rfl, rfl, rfl, rfl, rfl, rfl, hx, hz0⟩
    have hnl := bNr_le s n c x
    have hml := zmb (a := (ec : Int)) (b := bNr s n c x) (by omega) (show (ec : Int) ≤ 50 by omega) (by omega) (show ((bNr s n c x : Nat) : Int) ≤ 4 by omega)
    have hsx : bNr s n c (x + 1) = bNr s n c x + zite (bHO s n (nbI (bW s) (bH s) (bD s) c (x + 1))) 1 0 := rfl
    refine And.intro ⟨(by omega), (zRb rfl)⟩ ⟨fun h25 => ?_, fun h25 => ?_⟩
    · refine hQ _ ?_ (by omega)
      · unfold bEnt
        rw [← hl, ← hec, Int.natCast_add, Int.natCast_mul]
        by_cases h0 : ec = 0
        · rw [hz0 h0, h0]
          show _ + ((0 : Nat) : Int) * _ = _ + ((0 : Nat) : Int) * _
          rw [Int.natCast_zero, Int.zero_mul, Int.zero_mul]
        · obtain rfl : x = 4 := by omega
          rfl
    · refine And.intro (by omega) ⟨fun h29 => ?_, fun h29 => ?_⟩
      · refine hQ _ ?_ (by omega)
        · unfold bEnt
          rw [← hl, ← hec, Int.natCast_add, Int.natCast_mul]
          by_cases h0 : ec = 0
          · rw [hz0 h0, h0]
            show _ + ((0 : Nat) : Int) * _ = _ + ((0 : Nat) : Int) * _
            rw [Int.natCast_zero, Int.zero_mul, Int.zero_mul]
          · obtain rfl : x = 4 := by omega
            rfl
      · refine And.intro (zA_82 hS) ⟨_, sn_A_nb.up (by decide), ?_⟩
        refine ⟨(bW s), (bH s), (bD s), (c : Int), c, ((x + 1) : Int), (x + 1), rfl, hS, hR, (by omega), hc, gB9, (by omega), hnb, ?_⟩
        intro v36o p36hv p36bhv2
        refine And.intro ⟨(by omega), (zRb rfl)⟩ ⟨fun h44 => ?_, fun h44 => ?_⟩
        · refine ⟨((5 - (x + 1)), 0, 0), zlt6 (by omega), [some (zvr (82)), some (zvi (c)), some (zvi (n)), some (zvi (ec)), some (zvi (bhi s c + ec * bNr s n c (x + 1))), some (zvi ((x + 1) + 1)), none], ⟨rfl, rfl, rfl, rfl, (congrArg (fun z => some (zvi z)) (by
  have ev : v36o = nbI (bW s) (bH s) (bD s) c (x + 1) := p36hv
  first
  | (have q : bNr s n c (x + 1) = bNr s n c x := by rw [hsx, zite_f (fun q => by have := q.1; omega)]; rfl
     rw [q])
  | (rcases p51hv with w9 | w9
     · first
       | (exfalso; omega)
       | (have q : bNr s n c (x + 1) = bNr s n c x + 1 := by rw [hsx, zite_t ⟨by omega, by omega, by omega⟩]
          rw [q, Int.natCast_add, Int.mul_add]
          omega)
     · first
       | (exfalso; omega)
       | (have q : bNr s n c (x + 1) = bNr s n c x := by rw [hsx, zite_f (fun q => by have h1 := q.2.1; have h2 := q.2.2; omega)]; rfl
          rw [q])))), rfl, rfl⟩, (x + 1), rfl, rfl, rfl, rfl, rfl, rfl, rfl, (by omega), (fun h => absurd h (by omega))⟩
        · refine And.intro (zA_82 hS) ⟨_, sn_A_hby.up (by decide), ?_⟩
          refine ⟨(v36o : Int), (n : Int), (v36o).toNat, (bho s (nbI (bW s) (bH s) (bD s) c (x + 1)).toNat), rfl, hS, hR, (by omega), ((congrArg (I1 86) (by omega)).trans (hcl (nbI (bW s) (bH s) (bD s) c (x + 1)).toNat (by omega)).2.2.1), (by omega), ?_⟩
          intro v51o p51hv
          refine And.intro (by omega) ⟨fun h54 => ?_, fun h54 => ?_⟩
          · refine ⟨((5 - (x + 1)), 0, 0), zlt6 (by omega), [some (zvr (82)), some (zvi (c)), some (zvi (n)), some (zvi (ec)), some (zvi (bhi s c + ec * bNr s n c (x + 1))), some (zvi ((x + 1) + 1)), none], ⟨rfl, rfl, rfl, rfl, (congrArg (fun z => some (zvi z)) (by
  have ev : v36o = nbI (bW s) (bH s) (bD s) c (x + 1) := p36hv
  first
  | (have q : bNr s n c (x + 1) = bNr s n c x := by rw [hsx, zite_f (fun q => by have := q.1; omega)]; rfl
     rw [q])
  | (rcases p51hv with w9 | w9
     · first
       | (exfalso; omega)
       | (have q : bNr s n c (x + 1) = bNr s n c x + 1 := by rw [hsx, zite_t ⟨by omega, by omega, by omega⟩]
          rw [q, Int.natCast_add, Int.mul_add]
          omega)
     · first
       | (exfalso; omega)
       | (have q : bNr s n c (x + 1) = bNr s n c x := by rw [hsx, zite_f (fun q => by have h1 := q.2.1; have h2 := q.2.2; omega)]; rfl
          rw [q])))), rfl, rfl⟩, (x + 1), rfl, rfl, rfl, rfl, rfl, rfl, rfl, (by omega), (fun h => absurd h (by omega))⟩
          · refine ⟨((5 - (x + 1)), 0, 0), zlt6 (by omega), [some (zvr (82)), some (zvi (c)), some (zvi (n)), some (zvi (ec)), some (zvi (bhi s c + ec * bNr s n c (x + 1))), some (zvi ((x + 1) + 1)), none], ⟨rfl, rfl, rfl, rfl, (congrArg (fun z => some (zvi z)) (by
  have ev : v36o = nbI (bW s) (bH s) (bD s) c (x + 1) := p36hv
  first
  | (have q : bNr s n c (x + 1) = bNr s n c x := by rw [hsx, zite_f (fun q => by have := q.1; omega)]; rfl
     rw [q])
  | (rcases p51hv with w9 | w9
     · first
       | (exfalso; omega)
       | (have q : bNr s n c (x + 1) = bNr s n c x + 1 := by rw [hsx, zite_t ⟨by omega, by omega, by omega⟩]
          rw [q, Int.natCast_add, Int.mul_add]
          omega)
     · first
       | (exfalso; omega)
       | (have q : bNr s n c (x + 1) = bNr s n c x := by rw [hsx, zite_f (fun q => by have h1 := q.2.1; have h2 := q.2.2; omega)]; rfl
          rw [q])))), rfl, rfl⟩, (x + 1), rfl, rfl, rfl, rfl, rfl, rfl, rfl, (by omega), (fun h => absurd h (by omega))⟩)
