/-! gb3 -/
def T_G_all : ZT := fun args I L R S Q => ∃ (k : Nat) (q : Int) (s : BdS) (n : Nat) (x : Int), args = [zvr k, zvi x] ∧ (zDy zT17 zF17 k R S) ∧ (zBB k q s I L) ∧ (bGz s) ∧ (x = n ∧ n < bnn s) ∧ (gPd s) ∧ (∀ j : Nat, j < 1024 → I (k + 17) j = bTn s n j) ∧ ∀ (v : Int), ((v = 1 ∧ bAll s n (bTn s n)) ∨ (v = 0 ∧ ¬ bAll s n (bTn s n))) → Q (some (zvi (v))) I L R S
theorem sn_G_all : ZSnd 1 17 10 T_G_all := ZSnd.loops (zT17_10 0) (by
  rintro args I L R S Q hz ⟨k, q, s, n, x, rfl, hd, hBB, hGz, hxn, hpd, htr, hQ⟩
  have h5 := hd.1
  obtain ⟨⟨hbw, hbh, hbd, hbs, hbn⟩, hcl, hco, hpc, hne, hpi⟩ := id hBB
  obtain ⟨⟨⟨gW1, gW2⟩, ⟨gH1, gH2⟩, ⟨gD1, gD2⟩, gB9⟩, ⟨gnp, gnn⟩, gco⟩ := id hGz
  obtain ⟨m1, m2, hKe⟩ := gWH hGz
  have hKd : bK s = bW s * bH s * bD s := rfl
  obtain ⟨g1, g2, g3⟩ := id hpd
  have hpn := g3 n hxn.2
  refine ⟨[6], fun nM tM lsM stM I1 L1 R1 S1 => match tM with
      | 6 => ∃ (j : Nat) (u : Int), nM = ((6 - j), 0, 0) ∧ lsM = [some (zvr (k)), some (zvi (n)), some (zvi (u)), some (zvi (5 * n + j))] ∧ stM = [] ∧ I1 = I ∧ L1 = L ∧ R1 = R ∧ S1 = S ∧ (j ≤ bcn (bP s) n (bnp s)) ∧ (gAl s n j u) ∧ (0 ≤ u ∧ u ≤ 1)
      | _ => False, rfl, ?_, ⟨?_, True.intro⟩⟩
  · refine ⟨((6 - (0 : Nat)), 0, 0), [some (zvr (k)), some (zvi (n)), some (zvi ((1 : Int))), some (zvi (5 * n + (0 : Nat)))], ⟨rfl, (congrArg (fun z => some (zvi z)) (by omega)), rfl, (congrArg (fun z => some (zvi z)) (by omega)), rfl⟩, 0, 1, rfl, rfl, rfl, rfl, rfl, rfl, rfl, (by omega), gAl_0, (by omega)⟩
  · rintro nM lsM stM I1 L1 R1 S1 hz1 ⟨j, u, rfl, rfl, rfl, rfl, rfl, rfl, rfl, hj, hA, hu⟩
    have hj5 : j ≤ 5 := by omega
    refine And.intro (zDX hd 0 rfl) (zrdR (v := some (k + 1)) (zDR hd 0 rfl) ?_)
    refine And.intro (zDP hd 1 rfl rfl (by omega) (by omega)) (fun v15 e15 r15 => ?_)
    have f15 : v15 = bcn (bP s) n (bnp s) := (e15.trans ((congrArg (I1 (k + 1)) (by omega)).trans (hpc n (by omega)).1))
    refine And.intro ⟨(by omega), (by omega)⟩ ⟨fun h17 => ?_, fun h17 => ?_⟩
    · refine And.intro (by omega) ?_
      refine hQ _ (by obtain rfl : j = bcn (bP s) n (bnp s) := (by omega); exact gAl_end hpd hA)
    · refine And.intro (by omega) ⟨fun h21 => ?_, fun h21 => ?_⟩
      · refine ⟨((6 - (j + 1)), 0, 0), zlt6 (by omega), [some (zvr (k)), some (zvi (n)), some (zvi ((0 : Int))), some (zvi (5 * n + (j + 1)))], ⟨rfl, rfl, rfl, (congrArg (fun z => some (zvi z)) (by omega)), rfl⟩, (j + 1), 0, rfl, rfl, rfl, rfl, rfl, rfl, rfl, (by omega), ?_, (by omega)⟩
        · first
          | exact gAl_y hA (by omega) f33 (by omega)
          | exact gAl_n f33 (by omega)
          | exact gAl_k hA (by omega)
      · refine And.intro (zDX hd 0 rfl) (zrdR (v := some (k + 17)) (zDR hd 16 rfl) ?_)
        refine And.intro (zDX hd 0 rfl) (zrdR (v := some (k + 2)) (zDR hd 1 rfl) ?_)
        refine And.intro (zDP hd 2 rfl rfl (by omega) (by omega)) (fun v33 e33 r33 => ?_)
        have f33 : gPj s n j v33 := (by obtain ⟨p, a1, a2, a3⟩ := bcn_ix (P := bP s) (n := (n : Int)) (j := j) (m := bnp s) (by omega); exact ⟨p, a1, a2, a3, e33.trans ((congrArg (I1 (k + 2)) (by rw [a2, a3]; omega)).trans (hpi p a1))⟩)
        have f33b : 0 ≤ v33 ∧ v33 + 1 ≤ bK s := (by obtain ⟨p, a1, a2, a3, a4⟩ := f33; have := (g2 p a1).1; omega)
        refine And.intro (Or.inr (zDP hd 17 rfl rfl (by omega) (by omega))) (fun v34 e34 r34 => ?_)
        have f34 : v34 = bTn s n v33.toNat := (e34.trans (htr v33.toNat (by omega)))
        refine And.intro r34 ⟨fun h35 => ?_, fun h35 => ?_⟩
        · refine ⟨((6 - (j + 1)), 0, 0), zlt6 (by omega), [some (zvr (k)), some (zvi (n)), some (zvi ((0 : Int))), some (zvi (5 * n + (j + 1)))], ⟨rfl, rfl, rfl, (congrArg (fun z => some (zvi z)) (by omega)), rfl⟩, (j + 1), 0, rfl, rfl, rfl, rfl, rfl, rfl, rfl, (by omega), ?_, (by omega)⟩
          · first
            | exact gAl_y hA (by omega) f33 (by omega)
            | exact gAl_n f33 (by omega)
            | exact gAl_k hA (by omega)
        · refine ⟨((6 - (j + 1)), 0, 0), zlt6 (by omega), [some (zvr (k)), some (zvi (n)), some (zvi ((1 : Int))), some (zvi (5 * n + (j + 1)))], ⟨rfl, rfl, rfl, (congrArg (fun z => some (zvi z)) (by omega)), rfl⟩, (j + 1), 1, rfl, rfl, rfl, rfl, rfl, rfl, rfl, (by omega), ?_, (by omega)⟩
          · first
            | exact gAl_y hA (by omega) f33 (by omega)
            | exact gAl_n f33 (by omega)
            | exact gAl_k hA (by omega))
def T_G_next : ZT := fun args I L R S Q => ∃ (k : Nat) (q : Int) (s : BdS) (n : Nat) (x : Int) (rr : Int), args = [zvr k, zvi x] ∧ (zDy zT17 zF17 k R S) ∧ (zBB k q s I L) ∧ (bGz s) ∧ (x = n ∧ n < bnn s) ∧ (gPd s) ∧ (∀ j : Nat, j < 1024 → I (k + 17) j = bTn s n j) ∧ (∀ d : Nat, d < bK s → L (k + 16) d = bDn s n rr d) ∧ ∀ (v : Int), (v = gPk s n rr) → (-1 ≤ v ∧ v < bK s) → (v = -1 ↔ bPk s n rr (bTn s n) = -1) → Q (some (zvi (v))) I L R S
theorem sn_G_next : ZSnd 1 17 21 T_G_next := ZSnd.loops (zT17_21 0) (by
  rintro args I L R S Q hz ⟨k, q, s, n, x, rr, rfl, hd, hBB, hGz, hxn, hpd, htr, hdd, hQ⟩
  have h5 := hd.1
  obtain ⟨⟨hbw, hbh, hbd, hbs, hbn⟩, hcl, hco, hpc, hne, hpi⟩ := id hBB
  obtain ⟨⟨⟨gW1, gW2⟩, ⟨gH1, gH2⟩, ⟨gD1, gD2⟩, gB9⟩, ⟨gnp, gnn⟩, gco⟩ := id hGz
  obtain ⟨m1, m2, hKe⟩ := gWH hGz
  have hKd : bK s = bW s * bH s * bD s := rfl
  obtain ⟨g1, g2, g3⟩ := id hpd
  have hpn := g3 n hxn.2
  refine ⟨[6], fun nM tM lsM stM I1 L1 R1 S1 => match tM with
      | 6 => ∃ (j : Nat) (B : Int), nM = ((6 - j), 0, 0) ∧ lsM = [some (zvr (k)), some (zvi (n)), some (zvi (B)), some (zvi (5 * n + j)), none] ∧ stM = [] ∧ I1 = I ∧ L1 = L ∧ R1 = R ∧ S1 = S ∧ (j ≤ bcn (bP s) n (bnp s)) ∧ (-1 ≤ B ∧ B < bK s) ∧ (gNp s n (bDn s n rr) (bTn s n) j B)
      | _ => False, rfl, ?_, ⟨?_, True.intro⟩⟩
  · refine ⟨((6 - (0 : Nat)), 0, 0), [some (zvr (k)), some (zvi (n)), some (zvi (((-1) : Int))), some (zvi (5 * n + (0 : Nat))), none], ⟨rfl, (congrArg (fun z => some (zvi z)) (by omega)), (congrArg (fun z => some (zvi z)) (by omega)), (congrArg (fun z => some (zvi z)) (by omega)), rfl⟩, 0, (-1), rfl, rfl, rfl, rfl, rfl, rfl, rfl, (by omega), (by omega), gNp_0⟩
  · rintro nM lsM stM I1 L1 R1 S1 hz1 ⟨j, B, rfl, rfl, rfl, rfl, rfl, rfl, rfl, hj, hB9, hB⟩
    have hj5 : j ≤ 5 := by omega
    refine And.intro (zDX hd 0 rfl) (zrdR (v := some (k + 1)) (zDR hd 0 rfl) ?_)
    refine And.intro (zDP hd 1 rfl rfl (by omega) (by omega)) (fun v15 e15 r15 => ?_)
    have f15 : v15 = bcn (bP s) n (bnp s) := (e15.trans ((congrArg (I1 (k + 1)) (by omega)).trans (hpc n (by omega)).1))
    refine And.intro ⟨(by omega), (by omega)⟩ ⟨fun h17 => ?_, fun h17 => ?_⟩
    · refine hQ _ (by obtain rfl : j = bcn (bP s) n (bnp s) := (by omega); exact (gNp_end gB9 hpd hB).1) (by omega) (by obtain rfl : j = bcn (bP s) n (bnp s) := (by omega); exact (gNp_end gB9 hpd hB).2)
    · refine And.intro (zDX hd 0 rfl) (zrdR (v := some (k + 2)) (zDR hd 1 rfl) ?_)
      refine And.intro (zDP hd 2 rfl rfl (by omega) (by omega)) (fun v25 e25 r25 => ?_)
      have f25 : gPj s n j v25 := (by obtain ⟨p, a1, a2, a3⟩ := bcn_ix (P := bP s) (n := (n : Int)) (j := j) (m := bnp s) (by omega); exact ⟨p, a1, a2, a3, e25.trans ((congrArg (I1 (k + 2)) (by rw [a2, a3]; omega)).trans (hpi p a1))⟩)
      have f25b : 0 ≤ v25 ∧ v25 + 1 ≤ bK s := (by obtain ⟨p, a1, a2, a3, a4⟩ := f25; have := (g2 p a1).1; omega)
      refine And.intro (zDX hd 0 rfl) (zrdR (v := some (k + 17)) (zDR hd 16 rfl) ?_)
      refine And.intro (Or.inr (zDP hd 17 rfl rfl (by omega) (by omega))) (fun v34 e34 r34 => ?_)
      have f34 : v34 = bTn s n v25.toNat := (e34.trans (htr v25.toNat (by omega)))
      refine And.intro r34 ⟨fun h35 => ?_, fun h35 => ?_⟩
      · refine ⟨((6 - (j + 1)), 0, 0), zlt6 (by omega), [some (zvr (k)), some (zvi (n)), some (zvi (B)), some (zvi (5 * n + (j + 1))), none], ⟨rfl, rfl, rfl, (congrArg (fun z => some (zvi z)) (by omega)), rfl⟩, (j + 1), B, rfl, rfl, rfl, rfl, rfl, rfl, rfl, (by omega), (by omega), ?_⟩
        · first
          | exact gNp_sk hB f25 (fun w => by have w1 := w.1; have w2 := w.2; omega)
          | exact gNp_tk hB f25 (by omega) (by omega) (by omega) (Or.inl (by omega))
          | exact gNp_tk hB f25 (by omega) (by omega) (by omega) (Or.inr (by omega))
          | exact gNp_kp hB f25 (by omega) (by omega)
      · refine And.intro (zDX hd 0 rfl) (zrdR (v := some (k + 16)) (zDR hd 15 rfl) ?_)
        refine And.intro (zDP hd 16 rfl rfl (by omega) (by omega)) (fun v44 e44 r44 => ?_)
        have f44 : v44 = bDn s n rr v25.toNat := (e44.trans (hdd v25.toNat (by omega)))
        refine ⟨_, _, ⟨zW6i r44, zW6i (zRL rfl)⟩, fun z46 c46 => ?_⟩
        refine And.intro c46.2.2 ⟨fun h47 => ?_, fun h47 => ?_⟩
        · refine And.intro ⟨(by omega), (zRb rfl)⟩ ⟨fun h55 => ?_, fun h55 => ?_⟩
          · refine ⟨((6 - (j + 1)), 0, 0), zlt6 (by omega), [some (zvr (k)), some (zvi (n)), some (zvi (v25)), some (zvi (5 * n + (j + 1))), none], ⟨rfl, rfl, rfl, (congrArg (fun z => some (zvi z)) (by omega)), rfl⟩, (j + 1), v25, rfl, rfl, rfl, rfl, rfl, rfl, rfl, (by omega), (by omega), ?_⟩
            · first
              | exact gNp_sk hB f25 (fun w => by have w1 := w.1; have w2 := w.2; omega)
              | exact gNp_tk hB f25 (by omega) (by omega) (by omega) (Or.inl (by omega))
              | exact gNp_tk hB f25 (by omega) (by omega) (by omega) (Or.inr (by omega))
              | exact gNp_kp hB f25 (by omega) (by omega)
          · refine And.intro (zDX hd 0 rfl) (zrdR (v := some (k + 16)) (zDR hd 15 rfl) ?_)
            refine And.intro (zDP hd 16 rfl rfl (by omega) (by omega)) (fun v64 e64 r64 => ?_)
            refine And.intro (zDX hd 0 rfl) (zrdR (v := some (k + 16)) (zDR hd 15 rfl) ?_)
            refine And.intro (zDP hd 16 rfl rfl (by omega) (by omega)) (fun v70 e70 r70 => ?_)
            have f70 : v70 = bDn s n rr B.toNat := (e70.trans (hdd B.toNat (by omega)))
            refine ⟨_, _, ⟨zW6i r64, zW6i r70⟩, fun z71 c71 => ?_⟩
            refine And.intro c71.2.2 ⟨fun h72 => ?_, fun h72 => ?_⟩
            · refine ⟨((6 - (j + 1)), 0, 0), zlt6 (by omega), [some (zvr (k)), some (zvi (n)), some (zvi (B)), some (zvi (5 * n + (j + 1))), none], ⟨rfl, rfl, rfl, (congrArg (fun z => some (zvi z)) (by omega)), rfl⟩, (j + 1), B, rfl, rfl, rfl, rfl, rfl, rfl, rfl, (by omega), (by omega), ?_⟩
              · first
                | exact gNp_sk hB f25 (fun w => by have w1 := w.1; have w2 := w.2; omega)
                | exact gNp_tk hB f25 (by omega) (by omega) (by omega) (Or.inl (by omega))
                | exact gNp_tk hB f25 (by omega) (by omega) (by omega) (Or.inr (by omega))
                | exact gNp_kp hB f25 (by omega) (by omega)
            · refine ⟨((6 - (j + 1)), 0, 0), zlt6 (by omega), [some (zvr (k)), some (zvi (n)), some (zvi (v25)), some (zvi (5 * n + (j + 1))), none], ⟨rfl, rfl, rfl, (congrArg (fun z => some (zvi z)) (by omega)), rfl⟩, (j + 1), v25, rfl, rfl, rfl, rfl, rfl, rfl, rfl, (by omega), (by omega), ?_⟩
              · first
                | exact gNp_sk hB f25 (fun w => by have w1 := w.1; have w2 := w.2; omega)
                | exact gNp_tk hB f25 (by omega) (by omega) (by omega) (Or.inl (by omega))
                | exact gNp_tk hB f25 (by omega) (by omega) (by omega) (Or.inr (by omega))
                | exact gNp_kp hB f25 (by omega) (by omega)
        · refine ⟨((6 - (j + 1)), 0, 0), zlt6 (by omega), [some (zvr (k)), some (zvi (n)), some (zvi (B)), some (zvi (5 * n + (j + 1))), none], ⟨rfl, rfl, rfl, (congrArg (fun z => some (zvi z)) (by omega)), rfl⟩, (j + 1), B, rfl, rfl, rfl, rfl, rfl, rfl, rfl, (by omega), (by omega), ?_⟩
          · first
            | exact gNp_sk hB f25 (fun w => by have w1 := w.1; have w2 := w.2; omega)
            | exact gNp_tk hB f25 (by omega) (by omega) (by omega) (Or.inl (by omega))
            | exact gNp_tk hB f25 (by omega) (by omega) (by omega) (Or.inr (by omega))
            | exact gNp_kp hB f25 (by omega) (by omega))
def T_G_back : ZT := fun args I L R S Q => ∃ (k : Nat) (q : Int) (s1 : BdS) (s : BdS) (n : Nat) (x : Int) (y : Int) (c : Nat) (rr : Int) (hb_ : Nat), args = [zvr k, zvi x, zvi y, zvi rr] ∧ (zDy zT17 zF17 k R S) ∧ (zBB k q s1 I L) ∧ (bGz s1) ∧ (gSm s1 s) ∧ (x = n) ∧ (r32 x) ∧ (y = c) ∧ (0 ≤ bDn s n rr c) ∧ (¬ bTr s n c) ∧ (rr = 0 ∨ rr = 1) ∧ (∀ d : Nat, d < bK s → L (k + 16) d = bDn s n rr d) ∧ ((∀ d, d < bK s → bhi s1 d ≤ hb_) ∧ hb_ ≤ 1000000) ∧ (∀ d, bDn s n rr d ≤ 2000000000) ∧ ∀ (v : Int), (v = bBk s n rr c) → (0 ≤ v ∧ v ≤ 1023) → Q (some (zvi (v))) I L R S
theorem sn_G_back : ZSnd 4 17 0 T_G_back := ZSnd.loops (zT17_0 3) (by
  rintro args I L R S Q hz ⟨k, q, s1, s, n, x, y, c, rr, hb_, rfl, hd, hBB, hGz, hsm, hx0, hr9, hyc, hD, hT, hrr, hdd, hbh9, hdm, hQ⟩
  have h5 := hd.1
  obtain ⟨⟨hbw, hbh, hbd, hbs, hbn⟩, hcl, hco, hpc, hne, hpi⟩ := id hBB
  obtain ⟨⟨⟨gW1, gW2⟩, ⟨gH1, gH2⟩, ⟨gD1, gD2⟩, gB9⟩, ⟨gnp, gnn⟩, gco⟩ := id hGz
  obtain ⟨m1, m2, hKe⟩ := gWH hGz
  have hKd : bK s1 = bW s1 * bH s1 * bD s1 := rfl
  obtain ⟨hK1, hnb1, hst1⟩ := bss ⟨hsm.1, hsm.2.1⟩
  have gB8 : bK s ≤ 1024 := by rw [← hK1]; exact gB9
  have hc : c < bK s := bDi_lt gB8 hD
  have hsp := bBk_sp gB8 hD hT
  have ht0 : bTl s n rr c ≠ -1 := by
      obtain ⟨c9, x9, y1, y2, y3, y4, y5⟩ := bDi_p hD hT
      exact y4
  have hr8 : r32 (n : Int) := by rw [← hx0]; exact hr9
  have hdc := hdm c
  refine ⟨[3], fun nM tM lsM stM I1 L1 R1 S1 => match tM with
      | 3 => ∃ (x_ : Nat), nM = ((6 - x_), 0, 0) ∧ lsM = [some (zvr (k)), some (zvi (n)), some (zvi (c)), some (zvi (rr)), some (zvi (x_)), none] ∧ stM = [] ∧ I1 = I ∧ L1 = L ∧ R1 = R ∧ S1 = S ∧ (x_ ≤ 6) ∧ (∀ y : Nat, y < x_ → ¬ bBp s n rr c y)
      | _ => False, rfl, ?_, ⟨?_, True.intro⟩⟩
  · refine ⟨((6 - (0 : Nat)), 0, 0), [some (zvr (k)), some (zvi (n)), some (zvi (c)), some (zvi (rr)), some (zvi ((0 : Nat))), none], ⟨rfl, (congrArg (fun z => some (zvi z)) (by omega)), (congrArg (fun z => some (zvi z)) (by omega)), rfl, rfl, rfl⟩, 0, rfl, rfl, rfl, rfl, rfl, rfl, rfl, (by omega), (fun q h => absurd h (Nat.not_lt_zero q))⟩
  · rintro nM lsM stM I1 L1 R1 S1 hz1 ⟨x_, rfl, rfl, rfl, rfl, rfl, rfl, rfl, hx6, hno⟩
    refine And.intro ⟨(by omega), (zRb rfl)⟩ ⟨fun h7 => ?_, fun h7 => ?_⟩
    · refine hQ _ ?_ (by first | omega | (have h6 : x_ = 6 := (by omega); obtain ⟨e, e1, e2, e3, e4⟩ := hsp; exfalso; unfold bBk at e1; rw [zlow_no (fun b hb => hno b (by omega)), if_pos rfl] at e1; omega))
      · first
        | (have hP : bBp s n rr c x_ := by
             refine ⟨by rw [← g14]; omega, ?_, ?_⟩
             · rw [← g14]
               omega
             · rw [← g14]
               omega
           unfold bBk
           rw [zlow_at hP hno (by omega), if_neg (by omega)]
           exact g14)
        | (have h6 : x_ = 6 := (by omega)
           unfold bBk
           rw [zlow_no (fun b hb => hno b (by omega)), if_pos rfl])
    · refine And.intro (zDX hd 0 rfl) ⟨_, sn_G_nb.up (by decide), ?_⟩
      refine ⟨k, _, s1, (c : Int), c, (x_ : Int), x_, rfl, hd, (by first | exact (zBB_fr hBB (fun c j h => rfl) (fun c j h => rfl)) | (clear hQ; grind [xu])), (by clear hQ; grind [xu]), (by omega), (by omega), (by omega), ?_⟩
      intro v14o p14hv p14bhv2
      have g14 : v14o = bnb s c x_ := (p14hv.trans (hnb1 c x_))
      refine And.intro ⟨(by omega), (zRb rfl)⟩ ⟨fun h22 => ?_, fun h22 => ?_⟩
      · refine ⟨((6 - (x_ + 1)), 0, 0), zlt6 (by omega), [some (zvr (k)), some (zvi (n)), some (zvi (c)), some (zvi (rr)), some (zvi ((x_ + 1))), none], ⟨rfl, rfl, rfl, rfl, rfl, rfl⟩, (x_ + 1), rfl, rfl, rfl, rfl, rfl, rfl, rfl, (by omega), ?_⟩
        · intro y hy
          by_cases e : y = x_
          · subst e
            intro w
            obtain ⟨w1, w2, w3⟩ := w
            rw [← g14] at w1 w2 w3
            first
            | exact absurd g14 (by omega)
            | omega
          · exact hno y (by omega)
      · refine And.intro (zDX hd 0 rfl) (zrdR (v := some (k + 16)) (zDR hd 15 rfl) ?_)
        refine And.intro (zDP hd 16 rfl rfl (by omega) (by omega)) (fun v31 e31 r31 => ?_)
        have f31 : v31 = bDn s n rr v14o.toNat := (e31.trans (hdd v14o.toNat (by omega)))
        refine ⟨_, _, ⟨zW6i r31, zW6i (zRL rfl)⟩, fun z33 c33 => ?_⟩
        refine And.intro c33.2.2 ⟨fun h34 => ?_, fun h34 => ?_⟩
        · refine ⟨((6 - (x_ + 1)), 0, 0), zlt6 (by omega), [some (zvr (k)), some (zvi (n)), some (zvi (c)), some (zvi (rr)), some (zvi ((x_ + 1))), none], ⟨rfl, rfl, rfl, rfl, rfl, rfl⟩, (x_ + 1), rfl, rfl, rfl, rfl, rfl, rfl, rfl, (by omega), ?_⟩
          · intro y hy
            by_cases e : y = x_
            · subst e
              intro w
              obtain ⟨w1, w2, w3⟩ := w
              rw [← g14] at w1 w2 w3
              first
              | exact absurd g14 (by omega)
              | omega
            · exact hno y (by omega)
        · refine And.intro (zDX hd 0 rfl) (zrdR (v := some (k + 16)) (zDR hd 15 rfl) ?_)
          refine And.intro (zDP hd 16 rfl rfl (by omega) (by omega)) (fun v43 e43 r43 => ?_)
          have f43 : v43 = bDn s n rr v14o.toNat := (e43.trans (hdd v14o.toNat (by omega)))
          have f43b : v43 ≤ 2000000000 := (by have := hdm v14o.toNat; omega)
          refine And.intro (zDX hd 0 rfl) (Exists.intro _ (And.intro (zinl_ok (zT17_24 2)) (And.intro rfl ?_)))
          refine And.intro (zDX hd 0 rfl) ⟨_, sn_G_step.up (by decide), ?_⟩
          refine ⟨k, _, s1, (n : Int), (v14o : Int), (v14o.toNat), ((5 - x_) : Int), (5 - x_), (c : Int), c, rr, hb_, rfl, hd, (by first | exact (zBB_fr hBB (fun c j h => rfl) (fun c j h => rfl)) | (clear hQ; grind [xu])), (by clear hQ; grind [xu]), (by omega), (by omega), (by omega), (by omega), (by omega), (by have w9 := nbI_sym (W := bW s1) (H := bH s1) (D := bD s1) (c := c) (x := x_) (e := v14o.toNat) (by omega) (by omega) ((show nbI (bW s1) (bH s1) (bD s1) c x_ = v14o from p14hv.symm).trans (by omega)); exact w9), (by omega), (by first | exact hrr | (clear hQ; grind [xu])), ⟨hbh9.1 c hc, hbh9.2⟩, ?_⟩
          intro v56o p56hv p56bhv2
          have g56 : v56o = bStp s v14o.toNat (5 - x_) + bTl s n rr c := (p56hv.trans ((gSm_st hsm _ _ _ _ _).trans (gSt_tl ht0)))
          refine And.intro (zDX hd 0 rfl) (zrdR (v := some (k + 16)) (zDR hd 15 rfl) ?_)
          refine And.intro (zDP hd 16 rfl rfl (by omega) (by omega)) (fun v65 e65 r65 => ?_)
          have f65 : v65 = bDn s n rr c := (e65.trans ((congrArg (L1 (k + 16)) (by omega)).trans (hdd c hc)))
          refine ⟨_, _, ⟨zW6i (by omega), zW6i r65⟩, fun z66 c66 => ?_⟩
          refine And.intro c66.2.2 ⟨fun h67 => ?_, fun h67 => ?_⟩
          · refine ⟨((6 - (x_ + 1)), 0, 0), zlt6 (by omega), [some (zvr (k)), some (zvi (n)), some (zvi (c)), some (zvi (rr)), some (zvi ((x_ + 1))), none], ⟨rfl, rfl, rfl, rfl, rfl, rfl⟩, (x_ + 1), rfl, rfl, rfl, rfl, rfl, rfl, rfl, (by omega), ?_⟩
            · intro y hy
              by_cases e : y = x_
              · subst e
                intro w
                obtain ⟨w1, w2, w3⟩ := w
                rw [← g14] at w1 w2 w3
                first
                | exact absurd g14 (by omega)
                | omega
              · exact hno y (by omega)
          · refine hQ _ ?_ (by first | omega | (have h6 : x_ = 6 := (by omega); obtain ⟨e, e1, e2, e3, e4⟩ := hsp; exfalso; unfold bBk at e1; rw [zlow_no (fun b hb => hno b (by omega)), if_pos rfl] at e1; omega))
            · first
              | (have hP : bBp s n rr c x_ := by
                   refine ⟨by rw [← g14]; omega, ?_, ?_⟩
                   · rw [← g14]
                     omega
                   · rw [← g14]
                     omega
                 unfold bBk
                 rw [zlow_at hP hno (by omega), if_neg (by omega)]
                 exact g14)
              | (have h6 : x_ = 6 := (by omega)
                 unfold bBk
                 rw [zlow_no (fun b hb => hno b (by omega)), if_pos rfl]))
def T_G_blk : ZT := fun args I L R S Q => ∃ (k : Nat) (s : BdS) (n : Nat) (x : Int), args = [zvr k, zvi x] ∧ (zDy zT17 zF17 k R S) ∧ (zBB k n s I L) ∧ (bGz s) ∧ (x = n ∧ n < bnn s) ∧ (∀ c, c < 1024 → -1 ≤ bho s c ∧ bho s c < 12) ∧ (∀ d : Nat, d < bK s → L (k + 16) d = bDn s n 0 d) ∧ ∀ (I' : ZI), (I' (k + 15) n = bMc s n (bK s)) → (∀ c j : Nat, ¬ (c = k + 15 ∧ j = n) → I' c j = I c j) → Q none I' L R S
theorem sn_G_blk : ZSnd 3 17 9 T_G_blk := ZSnd.loops (zT17_9 2) (by
  rintro args I L R S Q hz ⟨k, s, n, x, rfl, hd, hBB, hGz, hxn, hho, hdd, hQ⟩
  have h5 := hd.1
  obtain ⟨⟨hbw, hbh, hbd, hbs, hbn⟩, hcl, hco, hpc, hne, hpi⟩ := id hBB
  obtain ⟨⟨⟨gW1, gW2⟩, ⟨gH1, gH2⟩, ⟨gD1, gD2⟩, gB9⟩, ⟨gnp, gnn⟩, gco⟩ := id hGz
  obtain ⟨m1, m2, hKe⟩ := gWH hGz
  have hKd : bK s = bW s * bH s * bD s := rfl
  have h5n0 : (x : Int).toNat = n := by have := hxn.1; omega
  refine ⟨[24, 32], fun nM tM lsM stM I1 L1 R1 S1 => match tM with
      | 24 => ∃ (c : Nat), nM = ((1025 - c), 7, 0) ∧ lsM = [some (zvr (k)), some (zvi (n)), some (zvi (bK s)), some (zvi (c)), none, none] ∧ stM = [] ∧ L1 = L ∧ R1 = R ∧ S1 = S ∧ (c ≤ bK s) ∧ (I1 (k + 15) n = bMc s n c) ∧ (∀ c j : Nat, ¬ (c = k + 15 ∧ j = n) → I1 c j = I c j)
      | 32 => ∃ (c : Nat) (y : Nat), nM = ((1025 - c), (6 - y), 0) ∧ lsM = [some (zvr (k)), some (zvi (n)), some (zvi (bK s)), some (zvi (c)), some (zvi (y)), none] ∧ stM = [] ∧ L1 = L ∧ R1 = R ∧ S1 = S ∧ (c < bK s ∧ y ≤ 6) ∧ (y = 0 ∨ bDn s n 0 c ≠ -1) ∧ (I1 (k + 15) n = bMs s n c (bMc s n c) y) ∧ (∀ c j : Nat, ¬ (c = k + 15 ∧ j = n) → I1 c j = I c j)
      | _ => False, rfl, ?_, ⟨?_, ?_, True.intro⟩⟩
  · refine And.intro (zDX hd 0 rfl) (zrd (v := (bW s)) hbw ?_)
    refine And.intro (zDX hd 0 rfl) (zrd (v := (bH s)) hbh ?_)
    refine And.intro (zDX hd 0 rfl) (zrd (v := (bD s)) hbd ?_)
    refine And.intro (zDX hd 0 rfl) (zrdR (v := some (k + 15)) (zDR hd 14 rfl) ?_)
    refine And.intro ⟨(by show 40 ≤ _; omega), (zDP hd 15 rfl rfl (by omega) (by omega))⟩ ⟨_, (zWi (zRb rfl)), ?_⟩
    refine ⟨((1025 - (0 : Nat)), 7, 0), [some (zvr (k)), some (zvi (n)), some (zvi (bK s)), some (zvi ((0 : Nat))), none, none], ⟨rfl, (congrArg (fun z => some (zvi z)) (by omega)), (congrArg (fun z => some (zvi z)) (by omega)), rfl, rfl⟩, 0, rfl, rfl, rfl, rfl, rfl, rfl, (by omega), (by rw [← h5n0]; exact zxe), (fun c j h0 => (zxcj (by omega) rfl))⟩
  · rintro nM lsM stM I1 L1 R1 S1 hz1 ⟨c, rfl, rfl, rfl, rfl, rfl, rfl, hc, h5n, fr⟩
    have hm := bMc_b (n := n) gB9 hho c
    refine And.intro ⟨(by omega), (by omega)⟩ ⟨fun h26 => ?_, fun h26 => ?_⟩
    · refine hQ _ (by rw [show bK s = c by omega]; exact h5n) (fun c j h0 => ((fr c j (by omega)).trans rfl))
    · refine ⟨((1025 - c), (6 - (0 : Nat)), 0), zlt6 (by omega), [some (zvr (k)), some (zvi (n)), some (zvi (bK s)), some (zvi (c)), some (zvi ((0 : Nat))), none], ⟨rfl, rfl, rfl, rfl, rfl, rfl⟩, c, 0, rfl, rfl, rfl, rfl, rfl, rfl, (by omega), (Or.inl rfl), h5n, (fun c j h0 => ((fr c j (by omega)).trans rfl))⟩
  · rintro nM lsM stM I1 L1 R1 S1 hz1 ⟨c, y, rfl, rfl, rfl, rfl, rfl, rfl, hc, hxc, h5n, fr⟩
    have hm := bMs_b (n := n) (c := c) gB9 hho (bMc_b (n := n) gB9 hho c) y
    refine And.intro ⟨(by omega), (zRb rfl)⟩ ⟨fun h36 => ?_, fun h36 => ?_⟩
    · refine ⟨((1025 - (c + 1)), 7, 0), zlt6 (by omega), [some (zvr (k)), some (zvi (n)), some (zvi (bK s)), some (zvi ((c + 1))), none, none], ⟨rfl, rfl, rfl, rfl, rfl⟩, (c + 1), rfl, rfl, rfl, rfl, rfl, rfl, (by omega), ?_, (fun c j h0 => ((fr c j (by omega)).trans rfl))⟩
      · show _ = if bDn s n 0 c ≠ -1 then bMs s n c (bMc s n c) 6 else bMc s n c
        have hge := bDi_ge s n 0 (bTr s n) c
        have hge2 : bDi s n 0 (bTr s n) c = bDn s n 0 c := rfl
        first
        | (rw [if_pos (by omega), show 6 = y by omega]; exact h5n)
        | (rw [if_neg (by omega)]
           have h0 : y = 0 := (by omega)
           subst h0
           exact h5n)
    · refine And.intro (zDX hd 0 rfl) (zrdR (v := some (k + 16)) (zDR hd 15 rfl) ?_)
      refine And.intro (zDP hd 16 rfl rfl (by omega) (by omega)) (fun v44 e44 r44 => ?_)
      have f44 : v44 = bDn s n 0 c := (e44.trans ((congrArg (L1 (k + 16)) (by omega)).trans (hdd c (by omega))))
      refine ⟨_, _, ⟨zW6i r44, zW6i (zRL rfl)⟩, fun z46 c46 => ?_⟩
      refine And.intro c46.2.2 ⟨fun h47 => ?_, fun h47 => ?_⟩
      · refine ⟨((1025 - (c + 1)), 7, 0), zlt6 (by omega), [some (zvr (k)), some (zvi (n)), some (zvi (bK s)), some (zvi ((c + 1))), none, none], ⟨rfl, rfl, rfl, rfl, rfl⟩, (c + 1), rfl, rfl, rfl, rfl, rfl, rfl, (by omega), ?_, (fun c j h0 => ((fr c j (by omega)).trans rfl))⟩
        · show _ = if bDn s n 0 c ≠ -1 then bMs s n c (bMc s n c) 6 else bMc s n c
          have hge := bDi_ge s n 0 (bTr s n) c
          have hge2 : bDi s n 0 (bTr s n) c = bDn s n 0 c := rfl
          first
          | (rw [if_pos (by omega), show 6 = y by omega]; exact h5n)
          | (rw [if_neg (by omega)]
             have h0 : y = 0 := (by omega)
             subst h0
             exact h5n)
      · refine And.intro (zDX hd 0 rfl) ⟨_, sn_G_nb.up (by decide), ?_⟩
        refine ⟨k, n, s, (c : Int), c, (y : Int), y, rfl, hd, (zBB_i hBB (fun c j h => fr c j (by omega)) (fun c j h => rfl) hxn.2), (by first | exact hGz | (clear hQ; grind [xu])), (by omega), hc.1, (by omega), ?_⟩
        intro v54o p54hv p54bhv2
        have g54 : v54o = bnb s c y := p54hv
        refine And.intro ⟨(by omega), (zRb rfl)⟩ ⟨fun h62 => ?_, fun h62 => ?_⟩
        · refine ⟨((1025 - c), (6 - (y + 1)), 0), zlt6 (by omega), [some (zvr (k)), some (zvi (n)), some (zvi (bK s)), some (zvi (c)), some (zvi ((y + 1))), none], ⟨rfl, rfl, rfl, rfl, rfl, rfl⟩, c, (y + 1), rfl, rfl, rfl, rfl, rfl, rfl, (by omega), (by omega), ?_, (fun c j h0 => ((fr c j (by omega)).trans rfl))⟩
          · show _ = zite (bHO s n (bnb s c y)) (zmk (bMs s n c (bMc s n c) y) (bho s (bnb s c y).toNat)) (bMs s n c (bMc s n c) y)
            rw [← g54]
            first
            | (have hq : ¬ bHO s n v54o := fun w => by have q1 := w.1; have q2 := w.2.1; have q3 := w.2.2; omega
               rw [zite_f hq]
               exact h5n)
            | (have hq : bHO s n v54o := And.intro (by omega) (And.intro (by omega) (by omega))
               rw [zite_t hq, ← f105, ← f97, ← h5n0]
               exact zxe)
        · refine And.intro (zDX hd 0 rfl) (zrdR (v := some (k + 3)) (zDR hd 2 rfl) ?_)
          refine And.intro (zDP hd 3 rfl rfl (by omega) (by omega)) (fun v71 e71 r71 => ?_)
          have f71 : v71 = bho s v54o.toNat := (e71.trans ((congrArg (I1 (k + 3)) (by omega)).trans ((fr (k + 3) v54o.toNat (by omega)).trans (hcl v54o.toNat (by omega)).1)))
          refine And.intro ⟨r71, (zRb rfl)⟩ ⟨fun h73 => ?_, fun h73 => ?_⟩
          · refine ⟨((1025 - c), (6 - (y + 1)), 0), zlt6 (by omega), [some (zvr (k)), some (zvi (n)), some (zvi (bK s)), some (zvi (c)), some (zvi ((y + 1))), none], ⟨rfl, rfl, rfl, rfl, rfl, rfl⟩, c, (y + 1), rfl, rfl, rfl, rfl, rfl, rfl, (by omega), (by omega), ?_, (fun c j h0 => ((fr c j (by omega)).trans rfl))⟩
            · show _ = zite (bHO s n (bnb s c y)) (zmk (bMs s n c (bMc s n c) y) (bho s (bnb s c y).toNat)) (bMs s n c (bMc s n c) y)
              rw [← g54]
              first
              | (have hq : ¬ bHO s n v54o := fun w => by have q1 := w.1; have q2 := w.2.1; have q3 := w.2.2; omega
                 rw [zite_f hq]
                 exact h5n)
              | (have hq : bHO s n v54o := And.intro (by omega) (And.intro (by omega) (by omega))
                 rw [zite_t hq, ← f105, ← f97, ← h5n0]
                 exact zxe)
          · refine And.intro (zDX hd 0 rfl) (zrdR (v := some (k + 3)) (zDR hd 2 rfl) ?_)
            refine And.intro (zDP hd 3 rfl rfl (by omega) (by omega)) (fun v82 e82 r82 => ?_)
            have f82 : v82 = bho s v54o.toNat := (e82.trans ((congrArg (I1 (k + 3)) (by omega)).trans ((fr (k + 3) v54o.toNat (by omega)).trans (hcl v54o.toNat (by omega)).1)))
            refine And.intro ⟨r82, (by omega)⟩ ⟨fun h84 => ?_, fun h84 => ?_⟩
            · refine ⟨((1025 - c), (6 - (y + 1)), 0), zlt6 (by omega), [some (zvr (k)), some (zvi (n)), some (zvi (bK s)), some (zvi (c)), some (zvi ((y + 1))), none], ⟨rfl, rfl, rfl, rfl, rfl, rfl⟩, c, (y + 1), rfl, rfl, rfl, rfl, rfl, rfl, (by omega), (by omega), ?_, (fun c j h0 => ((fr c j (by omega)).trans rfl))⟩
              · show _ = zite (bHO s n (bnb s c y)) (zmk (bMs s n c (bMc s n c) y) (bho s (bnb s c y).toNat)) (bMs s n c (bMc s n c) y)
                rw [← g54]
                first
                | (have hq : ¬ bHO s n v54o := fun w => by have q1 := w.1; have q2 := w.2.1; have q3 := w.2.2; omega
                   rw [zite_f hq]
                   exact h5n)
                | (have hq : bHO s n v54o := And.intro (by omega) (And.intro (by omega) (by omega))
                   rw [zite_t hq, ← f105, ← f97, ← h5n0]
                   exact zxe)
            · refine And.intro (zDX hd 0 rfl) (zrdR (v := some (k + 15)) (zDR hd 14 rfl) ?_)
              refine And.intro (zDX hd 0 rfl) (zrdR (v := some (k + 15)) (zDR hd 14 rfl) ?_)
              refine And.intro (zDP hd 15 rfl rfl (by omega) (by omega)) (fun v97 e97 r97 => ?_)
              have f97 : v97 = bMs s n c (bMc s n c) y := (e97.trans ((congrArg (I1 (k + 15)) (by omega)).trans h5n))
              refine And.intro (zDX hd 0 rfl) (zrdR (v := some (k + 3)) (zDR hd 2 rfl) ?_)
              refine And.intro (zDP hd 3 rfl rfl (by omega) (by omega)) (fun v105 e105 r105 => ?_)
              have f105 : v105 = bho s v54o.toNat := (e105.trans ((congrArg (I1 (k + 3)) (by omega)).trans ((fr (k + 3) v54o.toNat (by omega)).trans (hcl v54o.toNat (by omega)).1)))
              refine And.intro ⟨(by show 40 ≤ _; omega), (zDP hd 15 rfl rfl (by omega) (by omega))⟩ ⟨_, (zWi zr_or), ?_⟩
              refine ⟨((1025 - c), (6 - (y + 1)), 0), zlt6 (by omega), [some (zvr (k)), some (zvi (n)), some (zvi (bK s)), some (zvi (c)), some (zvi ((y + 1))), none], ⟨rfl, rfl, rfl, rfl, rfl, rfl⟩, c, (y + 1), rfl, rfl, rfl, rfl, rfl, rfl, (by omega), (by omega), ?_, (fun c j h0 => (zxcj (by omega) ((fr c j (by omega)).trans rfl)))⟩
              · show _ = zite (bHO s n (bnb s c y)) (zmk (bMs s n c (bMc s n c) y) (bho s (bnb s c y).toNat)) (bMs s n c (bMc s n c) y)
                rw [← g54]
                first
                | (have hq : ¬ bHO s n v54o := fun w => by have q1 := w.1; have q2 := w.2.1; have q3 := w.2.2; omega
                   rw [zite_f hq]
                   exact h5n)
                | (have hq : bHO s n v54o := And.intro (by omega) (And.intro (by omega) (by omega))
                   rw [zite_t hq, ← f105, ← f97, ← h5n0]
                   exact zxe))
