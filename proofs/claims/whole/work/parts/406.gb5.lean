/-! gb5 -/
def T_G_lead : ZT := fun args I L R S Q => ∃ (k : Nat) (s : BdS) (n : Nat) (x : Int) (hb_ : Nat) (rb : Nat), args = [zvr k, zvi x] ∧ (zDy zT17 zF17 k R S) ∧ (zBB k (-1) s I L) ∧ (bGd s) ∧ (x = n ∧ n < bnn s) ∧ (0 < bN s n 1) ∧ (bN s n 2 = 0) ∧ (∀ c, c < 1024 → bhi s c ≤ hb_) ∧ (∀ m, m < bnn s → 0 ≤ bN s m 4 ∧ bN s m 4 ≤ rb) ∧ (hb_ + 5 ≤ 400000) ∧ (rb + 5 ≤ 1900000000) ∧ ∀ (I' : ZI) (L' : ZI), (zBB k (-1) (bLd s n) I' L') → (∀ c j : Nat, ¬ c = k + 3 → ¬ c = k + 10 → ¬ c = k + 11 → ¬ c = k + 12 → ¬ c = k + 14 → ¬ c = k + 15 → ¬ c = k + 17 → I' c j = I c j) → (∀ c j : Nat, ¬ c = k + 6 → ¬ c = k + 13 → ¬ c = k + 16 → L' c j = L c j) → Q none I' L' R S
theorem sn_G_lead : ZSnd 6 17 17 T_G_lead := ZSnd.loops (zT17_17 5) (by
  rintro args I L R S Q hz ⟨k, s, n, x, hb_, rb, rfl, hd, hBB, hGd, hxn, hp0, hop, hhi, hrp, hhb, hrb, hQ⟩
  have hGz := bGd_z hGd
  have h5 := hd.1
  obtain ⟨⟨hbw, hbh, hbd, hbs, hbn⟩, hcl, hco, hpc, hne, hpi⟩ := id hBB
  obtain ⟨⟨⟨gW1, gW2⟩, ⟨gH1, gH2⟩, ⟨gD1, gD2⟩, gB9⟩, ⟨gnp, gnn⟩, gco⟩ := id hGz
  obtain ⟨m1, m2, hKe⟩ := gWH hGz
  have hKd : bK s = bW s * bH s * bD s := rfl
  have hL0 := bLs_li hGd hxn.2 hp0 hop hhi hrp
  have hwl0 : bwl s n = 0 := (hGd.2.2.2.2.1 n hxn.2).2.2.2.2.2.1 hop
  have hFp := gFp hGd hxn.2 hp0
  have hFb : 0 ≤ bFp s n ∧ bFp s n < bK s := by obtain ⟨p, a1, a2, a3, a4⟩ := hFp; rw [a4]; exact (hGd.2.2.2.1 p a1).2.2.1
  have hxn0 : x.toNat = n := by have := hxn.1; omega
  refine ⟨[23, 56], fun nM tM lsM stM I1 L1 R1 S1 => match tM with
      | 23 => ∃ (j : Nat), nM = (3, (1025 - j), 0) ∧ lsM = [some (zvr (k)), some (zvi (n)), some (zvi (j)), none] ∧ stM = [] ∧ R1 = R ∧ S1 = S ∧ (j ≤ 1024) ∧ (zBB k n s I1 L1) ∧ (I1 (k + 15) n = 0) ∧ (L1 (k + 13) n = 0) ∧ (∀ d : Nat, d < j → I1 (k + 17) d = 0) ∧ (∀ c j : Nat, ¬ (c = k + 11 ∧ j = n) → ¬ (c = k + 15 ∧ j = n) → ¬ c = k + 17 → I1 c j = I c j) ∧ (∀ c j : Nat, ¬ (c = k + 13 ∧ j = n) → L1 c j = L c j)
      | 56 => ∃ (t : BdS) (a : Int) (m : Nat), nM = (2, m, 0) ∧ lsM = [some (zvr (k)), some (zvi (n)), none, none] ∧ stM = [] ∧ R1 = R ∧ S1 = S ∧ (m ≤ 5) ∧ (zBB k n t I1 L1) ∧ (bLi t n hb_ (rb + (5 - m))) ∧ (I1 (k + 15) n = 0) ∧ (L1 (k + 13) n = a) ∧ (0 ≤ a ∧ a ≤ (5 - m : Int) * 1000000000) ∧ (bLp n m t a = bLr s n) ∧ (gOc t n ≤ m) ∧ (bN t n 2 = 0) ∧ (∀ j : Nat, j < 1024 → I1 (k + 17) j = bTn t n j) ∧ (∀ c j : Nat, ¬ c = k + 3 → ¬ c = k + 10 → ¬ c = k + 11 → ¬ c = k + 12 → ¬ c = k + 14 → ¬ c = k + 15 → ¬ c = k + 17 → I1 c j = I c j) ∧ (∀ c j : Nat, ¬ c = k + 6 → ¬ c = k + 13 → ¬ c = k + 16 → L1 c j = L c j)
      | _ => False, rfl, ?_, ⟨?_, ?_, True.intro⟩⟩
  · refine And.intro (zDX hd 0 rfl) (zrdR (v := some (k + 15)) (zDR hd 14 rfl) ?_)
    refine And.intro ⟨(by show 40 ≤ _; omega), (zDP hd 15 rfl rfl (by omega) (by omega))⟩ ⟨_, (zWi (zRb rfl)), ?_⟩
    refine And.intro (zDX hd 0 rfl) (zrdR (v := some (k + 13)) (zDR hd 12 rfl) ?_)
    refine And.intro ⟨(by show 40 ≤ _; omega), (zDP hd 13 rfl rfl (by omega) (by omega))⟩ ⟨_, zW6i (zRL rfl), ?_⟩
    refine And.intro (zDX hd 0 rfl) (zrdR (v := some (k + 11)) (zDR hd 10 rfl) ?_)
    refine And.intro ⟨(by show 40 ≤ _; omega), (zDP hd 11 rfl rfl (by omega) (by omega))⟩ ⟨_, (zWi (zRb rfl)), ?_⟩
    refine ⟨(3, (1025 - (0 : Nat)), 0), [some (zvr (k)), some (zvi (n)), some (zvi ((0 : Nat))), none], ⟨rfl, (congrArg (fun z => some (zvi z)) (by omega)), rfl, rfl⟩, 0, rfl, rfl, rfl, rfl, rfl, (by omega), (zBB_bg hBB hxn.2 hwl0 (by rw [← hxn0]; exact zxe) (fun c j w => zxcj (by omega) (zxcj (by omega) rfl)) (fun c j w => zxcj (by omega) rfl)), (by rw [← hxn0]; exact zxu (by omega) zxe), (by rw [← hxn0]; exact zxe), (fun d h => absurd h (Nat.not_lt_zero d)), (fun c j h0 h1 h2 => (zxcj (by omega) (zxcj (by omega) rfl))), (fun c j h0 => (zxcj (by omega) rfl))⟩
  · rintro nM lsM stM I1 L1 R1 S1 hz1 ⟨j, rfl, rfl, rfl, rfl, rfl, hj, hB0, hbl, hcs, ht0, fr, frL⟩
    refine And.intro ⟨(by omega), (zRb rfl)⟩ ⟨fun h27 => ?_, fun h27 => ?_⟩
    · refine And.intro (zDX hd 0 rfl) (zrdR (v := some (k + 2)) (zDR hd 1 rfl) ?_)
      refine And.intro (zDP hd 2 rfl rfl (by omega) (by omega)) (fun v52 e52 r52 => ?_)
      have f52 : v52 = bFp s n := (by obtain ⟨p, a1, a2, a3, a4⟩ := hFp; exact e52.trans ((congrArg (I1 (k + 2)) (by rw [a2, a3]; omega)).trans ((fr (k + 2) _ (by omega) (by omega) (by omega)).trans ((hpi p a1).trans a4.symm))))
      refine And.intro (zDX hd 0 rfl) ⟨_, sn_G_come.up (by decide), ?_⟩
      refine ⟨k, _, s, n, (n : Int), (v52 : Int), (bFp s n).toNat, rfl, hd, hB0, (by clear hQ; grind [xu]), ⟨rfl, hxn.2⟩, ⟨by omega, by omega⟩, (fun m hm => (hGd.2.2.2.2.1 m hm).2.2.2.2.1), (by omega), ?_⟩
      intro I53o p53hBB2 p53bht1 p53bbfr
      refine ⟨(2, (5 : Nat), 0), zlt6 (by omega), [some (zvr (k)), some (zvi (n)), none, none], ⟨rfl, rfl, rfl⟩, (bLs s n), 0, 5, rfl, rfl, rfl, rfl, rfl, (by omega), p53hBB2, hL0, ((p53bbfr (k + 15) n (by omega) (by omega) (by omega)).trans hbl), hcs, (by omega), rfl, (gOc_le (gPd_of hL0.1) hL0.2.1), hop, ?_, (fun c j h0 h1 h2 h3 h4 h5 h6 => ((p53bbfr c j (by omega) (by omega) (by omega)).trans ((fr c j (by omega) (by omega) (by omega)).trans rfl))), (fun c j h0 h1 h2 => ((frL c j (by omega)).trans rfl))⟩
      · intro j hj
        rw [p53bht1, bLs_tr hwl0]
        by_cases e : j = (bFp s n).toNat
        · rw [if_pos e, e, upF_at]
        · rw [if_neg e, upF_ne e]
          exact ht0 j (by omega)
    · refine And.intro (zDX hd 0 rfl) (zrdR (v := some (k + 17)) (zDR hd 16 rfl) ?_)
      refine And.intro ⟨(by show 40 ≤ _; omega), Or.inr ⟨(zDP hd 17 rfl rfl (by omega) (by omega)), (Or.inl rfl)⟩⟩ ?_
      refine ⟨(3, (1025 - (j + 1)), 0), zlt6 (by omega), [some (zvr (k)), some (zvi (n)), some (zvi ((j + 1))), none], ⟨rfl, rfl, rfl, rfl⟩, (j + 1), rfl, rfl, rfl, rfl, rfl, (by omega), (zBB_fr hB0 (fun c j w => zxu (by omega) rfl) (fun c j w => rfl)), (zxu (by omega) hbl), hcs, ?_, (fun c j h0 h1 h2 => (zxu h2 ((fr c j (by omega) (by omega) (by omega)).trans rfl))), (fun c j h0 => ((frL c j (by omega)).trans rfl))⟩
      · intro d hd
        by_cases e : d = j
        · rw [e]
          exact zxe
        · exact zxs (by omega) (ht0 d (by omega))
  · rintro nM lsM stM I1 L1 R1 S1 hz1 ⟨t, a, m, rfl, rfl, rfl, rfl, rfl, hm5, hB, hLi, hbl, hcs, ha, hbp, hoc, ht2, htr, fr, frL⟩
    have hGt := bLi_z hLi
    have hnt : n < bnn t := hLi.2.1
    have hn12 : bnn t ≤ 12 := hLi.1.2.1.2
    have hKt : bK t ≤ 1024 := hGt.1.2.2.2
    have hPt := gPd_of hLi.1
    have hwt : ∀ m, m < bnn t → bwl t m ≤ 1024 := fun m hm => (hLi.1.2.2.2.2.1 m hm).2.2.2.2.1
    have hh12 : ∀ c, c < 1024 → -1 ≤ bho t c ∧ bho t c < 12 := fun c hc => by have := bLi_h hLi c hc; omega
    refine And.intro (zDX hd 0 rfl) ⟨_, sn_G_all.up (by decide), ?_⟩
    refine ⟨k, _, t, n, (n : Int), rfl, hd, hB, hGt, ⟨rfl, hnt⟩, hPt, htr, ?_⟩
    intro v58o p58hv
    refine And.intro (by omega) ⟨fun h61 => ?_, fun h61 => ?_⟩
    · refine And.intro (zDX hd 0 rfl) (zrdR (v := some (k + 10)) (zDR hd 9 rfl) ?_)
      refine And.intro ⟨(by show 40 ≤ _; omega), Or.inr ⟨(zDP hd 10 rfl rfl (by omega) (by omega)), (Or.inr rfl)⟩⟩ ?_
      refine hQ _ _ ?_ (fun c j h0 h1 h2 h3 h4 h5 h6 => (zxu h1 ((fr c j (by omega) (by omega) (by omega) (by omega) (by omega) (by omega) (by omega)).trans rfl))) (fun c j h0 h1 h2 => ((frL c j (by omega) (by omega) (by omega)).trans rfl))
      · have hal := (p58hv.resolve_right (fun w => by have := w.1; omega)).2
        have e : bLr s n = (t, a, 0) := hbp.symm.trans (bLp_a hal)
        unfold bLd
        rw [e, if_neg (fun q => absurd (show (0 : Int) = 1 from q) (by decide))]
        exact zBB_led hB hnt hbl hcs zxe (fun c j w => zxcj (by omega) rfl) (fun c j w => rfl)
    · refine And.intro (zDX hd 0 rfl) ⟨_, sn_G_srch.up (by decide), ?_⟩
      refine ⟨k, _, t, n, (n : Int), (0 : Int), (hb_ + 1), rfl, hd, hB, hGt, ⟨rfl, hnt⟩, (by clear hQ; grind [xu]), ⟨fun c hc => bLi_hi hLi c (by omega), by omega⟩, htr, ?_⟩
      intro L67o p67hdd2 p67bfrL
      refine And.intro (zDX hd 0 rfl) ⟨_, sn_G_next.up (by decide), ?_⟩
      refine ⟨k, _, t, n, (n : Int), 0, rfl, hd, (zBB_fr hB (fun c j w => rfl) (fun c j w => p67bfrL c j (by omega))), hGt, ⟨rfl, hnt⟩, hPt, htr, p67hdd2, ?_⟩
      intro v72o p72hv p72bhv2 p72bbhv3
      have g72 : v72o ≠ -1 → bPk t n 0 (bTn t n) ≠ -1 := (fun w w2 => w (p72bbhv3.2 w2))
      refine And.intro ⟨(by omega), (zRb rfl)⟩ ⟨fun h78 => ?_, fun h78 => ?_⟩
      · refine And.intro (zRb rfl) (zbt rfl ?_)
        refine And.intro (zDX hd 0 rfl) ⟨_, sn_G_join.up (by decide), ?_⟩
        refine ⟨k, t, n, (n : Int), (v72o : Int), (gPk t n 0).toNat, 0, (hb_ + 1), a, rfl, hd, (zBB_fr hB (fun c j w => rfl) (fun c j w => p67bfrL c j (by omega))), hGt, ⟨rfl, hnt⟩, (by have w := (gPk_p (g72 (by omega))).2.2; rw [← p72hv] at w ⊢; omega), (gPk_p (g72 (by omega))).1, (by clear hQ; grind [xu]), htr, p67hdd2, hLi.2.2.2.2, hwt, (bLi_h hLi), ⟨bLi_hi hLi, by omega⟩, (fun m hm => by have := hLi.2.2.2.1 m hm; omega), (fun d => by have := (fun d => by have w := bDn_le hGt (hb := hb_ + 1) (fun c hc => bLi_hi hLi c (by omega)) n (0) (bTr t n) d; have w2 : bDi t n (0) (bTr t n) d = bDn t n (0) d := rfl; omega : ∀ d, bDn t n 0 d ≤ 1000000000) d; omega), ⟨(p67bfrL (k + 13) n (by omega)).trans hcs, by omega, by omega⟩, ?_⟩
        intro I130o L130o p130hBB2 p130bhtr2 p130bbhca2 p130bbbfr p130bbbbfrL
        refine ⟨(2, ((m - 1) : Nat), 0), zlt6 (by have hm1 : m ≠ 0 := fun e => (p58hv.resolve_left (fun w => by have := w.1; omega)).2 (gOc_0 (by omega)); omega), [some (zvr (k)), some (zvi (n)), none, none], ⟨rfl, rfl, rfl⟩, (bNx t n).1, (a + (bNx t n).2), (m - 1), rfl, rfl, rfl, rfl, rfl, (by omega), ?_, ?_, ?_, ?_, ?_, ?_, ?_, ?_, ?_, (fun c j h0 h1 h2 h3 h4 h5 h6 => ((p130bbbfr c j (by omega) (by omega) (by omega) (by omega) (by omega) (by omega)).trans ((fr c j (by omega) (by omega) (by omega) (by omega) (by omega) (by omega) (by omega)).trans rfl))), (fun c j h0 h1 h2 => ((p130bbbbfrL c j (by omega) (by omega)).trans ((p67bfrL c j (by omega)).trans ((frL c j (by omega) (by omega) (by omega)).trans rfl))))⟩
        · first
          | (rw [gNx_a (g72 (by omega))]
             exact p130hBB2)
          | (rw [gNx_c (p72bbhv3.1 (by omega)) (g104 (by omega))]
             exact p130hBB2)
        · have hna := (p58hv.resolve_left (fun w => by have := w.1; omega)).2
          have hm1 : m ≠ 0 := fun e => hna (gOc_0 (by omega))
          have hnx : bLi (bNx t n).1 n hb_ (rb + (5 - m) + 1) ∧ bN (bNx t n).1 n 2 = 0 ∧ gOc (bNx t n).1 n + 1 ≤ gOc t n := by
            first
            | (rw [gNx_a (g72 (by omega))]
               exact gNx_p (Or.inl rfl) hLi ht2 (g72 (by omega)))
            | (rw [gNx_c (p72bbhv3.1 (by omega)) (g104 (by omega))]
               exact gNx_p (Or.inr rfl) hLi ht2 (g104 (by omega)))
          rw [show rb + (5 - (m - 1)) = rb + (5 - m) + 1 by omega]
          exact hnx.1
        · first
          | exact (p130bbbfr (k + 15) n (by omega) (by omega) (by omega) (by omega) (by omega) (by omega)).trans hbl
          | exact (p130bbbfr (k + 15) n (by omega) (by omega) (by omega) (by omega) (by omega) (by omega)).trans zxe
        · first
          | (rw [gNx_a (g72 (by omega))]
             exact p130bbhca2)
          | (rw [gNx_c (p72bbhv3.1 (by omega)) (g104 (by omega))]
             exact p130bbhca2)
        · have hna := (p58hv.resolve_left (fun w => by have := w.1; omega)).2
          have hm1 : m ≠ 0 := fun e => hna (gOc_0 (by omega))
          first
          | (rw [gNx_a (g72 (by omega))]
             have w := (gPk_p (g72 (by omega))).1
             have w2 := (fun d => by have w := bDn_le hGt (hb := hb_ + 1) (fun c hc => bLi_hi hLi c (by omega)) n (0) (bTr t n) d; have w2 : bDi t n (0) (bTr t n) d = bDn t n (0) d := rfl; omega : ∀ d, bDn t n 0 d ≤ 1000000000) (gPk t n 0).toNat
             show 0 ≤ a + bDn t n 0 (gPk t n 0).toNat ∧ a + bDn t n 0 (gPk t n 0).toNat ≤ _
             omega)
          | (rw [gNx_c (p72bbhv3.1 (by omega)) (g104 (by omega))]
             have w := (gPk_p (g104 (by omega))).1
             have w2 : bDn (bM5 t n) n 1 (gPk (bM5 t n) n 1).toNat ≤ (hb_ + 1 + 352) * 1024 := (bDn_le (s := bM5 t n) hGt (hb := hb_ + 1) (fun c hc => bLi_hi hLi c (by have : bK (bM5 t n) = bK t := rfl; omega)) n 1 (bTr (bM5 t n) n) (gPk (bM5 t n) n 1).toNat)
             show 0 ≤ a + bDn (bM5 t n) n 1 (gPk (bM5 t n) n 1).toNat ∧ a + bDn (bM5 t n) n 1 (gPk (bM5 t n) n 1).toNat ≤ _
             omega)
        · have hna := (p58hv.resolve_left (fun w => by have := w.1; omega)).2
          have hm1 : m ≠ 0 := fun e => hna (gOc_0 (by omega))
          have h2 : (bNx t n).2 ≠ -1 := by
            first
            | (rw [gNx_a (g72 (by omega))]
               have w := (gPk_p (g72 (by omega))).1
               show bDn t n 0 (gPk t n 0).toNat ≠ -1
               omega)
            | (rw [gNx_c (p72bbhv3.1 (by omega)) (g104 (by omega))]
               have w := (gPk_p (g104 (by omega))).1
               show bDn (bM5 t n) n 1 (gPk (bM5 t n) n 1).toNat ≠ -1
               omega)
          have e := bLp_k (k := m - 1) (a := a) hna h2
          rw [show (m - 1) + 1 = m by omega] at e
          exact e.symm.trans hbp
        · have hna := (p58hv.resolve_left (fun w => by have := w.1; omega)).2
          have hm1 : m ≠ 0 := fun e => hna (gOc_0 (by omega))
          have hnx : bLi (bNx t n).1 n hb_ (rb + (5 - m) + 1) ∧ bN (bNx t n).1 n 2 = 0 ∧ gOc (bNx t n).1 n + 1 ≤ gOc t n := by
            first
            | (rw [gNx_a (g72 (by omega))]
               exact gNx_p (Or.inl rfl) hLi ht2 (g72 (by omega)))
            | (rw [gNx_c (p72bbhv3.1 (by omega)) (g104 (by omega))]
               exact gNx_p (Or.inr rfl) hLi ht2 (g104 (by omega)))
          omega
        · have hna := (p58hv.resolve_left (fun w => by have := w.1; omega)).2
          have hm1 : m ≠ 0 := fun e => hna (gOc_0 (by omega))
          have hnx : bLi (bNx t n).1 n hb_ (rb + (5 - m) + 1) ∧ bN (bNx t n).1 n 2 = 0 ∧ gOc (bNx t n).1 n + 1 ≤ gOc t n := by
            first
            | (rw [gNx_a (g72 (by omega))]
               exact gNx_p (Or.inl rfl) hLi ht2 (g72 (by omega)))
            | (rw [gNx_c (p72bbhv3.1 (by omega)) (g104 (by omega))]
               exact gNx_p (Or.inr rfl) hLi ht2 (g104 (by omega)))
          exact hnx.2.1
        · first
          | (rw [gNx_a (g72 (by omega))]
             exact p130bhtr2)
          | (rw [gNx_c (p72bbhv3.1 (by omega)) (g104 (by omega))]
             exact p130bhtr2)
      · refine And.intro (zRb rfl) (zbf rfl ?_)
        refine And.intro (zDX hd 0 rfl) ⟨_, sn_G_blk.up (by decide), ?_⟩
        refine ⟨k, t, n, (n : Int), rfl, hd, (zBB_fr hB (fun c j w => rfl) (fun c j w => p67bfrL c j (by omega))), hGt, ⟨rfl, hnt⟩, hh12, p67hdd2, ?_⟩
        intro I93o p93h5n p93bfr
        refine And.intro (zDX hd 0 rfl) ⟨_, sn_G_srch.up (by decide), ?_⟩
        refine ⟨k, _, (bM5 t n), n, (n : Int), (1 : Int), (hb_ + 1), rfl, hd, (zBB_5 hB (fun c j w => p93bfr c j (by omega)) (fun c j w => p67bfrL c j (by omega)) hnt), hGt, ⟨rfl, hnt⟩, (by clear hQ; grind [xu]), ⟨fun c hc => bLi_hi hLi c (by have : bK (bM5 t n) = bK t := rfl; omega), by omega⟩, (fun j hj => (p93bfr (k + 17) j (by omega)).trans (htr j hj)), ?_⟩
        intro L99o p99hdd2 p99bfrL
        refine And.intro (zDX hd 0 rfl) ⟨_, sn_G_next.up (by decide), ?_⟩
        refine ⟨k, _, (bM5 t n), n, (n : Int), 1, rfl, hd, (zBB_fr (zBB_5 hB (fun c j w => p93bfr c j (by omega)) (fun c j w => p67bfrL c j (by omega)) hnt) (fun c j w => rfl) (fun c j w => p99bfrL c j (by omega))), hGt, ⟨rfl, hnt⟩, hPt, (fun j hj => (p93bfr (k + 17) j (by omega)).trans (htr j hj)), p99hdd2, ?_⟩
        intro v104o p104hv p104bhv2 p104bbhv3
        have g104 : v104o ≠ -1 → bPk (bM5 t n) n 1 (bTn (bM5 t n) n) ≠ -1 := (fun w w2 => w (p104bbhv3.2 w2))
        have g104b : v104o ≤ 1023 := (by have w := p104bhv2.2; have w2 : bK (bM5 t n) = bK t := rfl; omega)
        refine And.intro ⟨(by omega), (zRb rfl)⟩ ⟨fun h110 => ?_, fun h110 => ?_⟩
        · refine And.intro (zDX hd 0 rfl) (zrdR (v := some (k + 15)) (zDR hd 14 rfl) ?_)
          refine And.intro ⟨(by show 40 ≤ _; omega), (zDP hd 15 rfl rfl (by omega) (by omega))⟩ ⟨_, (zWi (zRb rfl)), ?_⟩
          refine And.intro (zDX hd 0 rfl) ⟨_, sn_G_join.up (by decide), ?_⟩
          refine ⟨k, (bM5 t n), n, (n : Int), (v104o : Int), (gPk (bM5 t n) n 1).toNat, 1, (hb_ + 1), a, rfl, hd, (zBB_5 (x := bMc t n (bK t)) hB (fun c j w => zxcj (by omega) (p93bfr c j (by omega))) (fun c j w => (p99bfrL c j (by omega)).trans (p67bfrL c j (by omega))) hnt), hGt, ⟨rfl, hnt⟩, (by have w := (gPk_p (g104 (by omega))).2.2; have w2 : bK (bM5 t n) = bK t := rfl; rw [← p104hv] at w ⊢; omega), (gPk_p (g104 (by omega))).1, (by clear hQ; grind [xu]), (fun j hj => zxu (by omega) ((p93bfr (k + 17) j (by omega)).trans (htr j hj))), p99hdd2, hLi.2.2.2.2, hwt, (fun c hc => bLi_h hLi c hc), ⟨fun c hc => bLi_hi hLi c hc, by omega⟩, (fun m hm => by have := hLi.2.2.2.1 m hm; show 0 ≤ up2z (bN t) n 5 _ m 4 ∧ up2z (bN t) n 5 _ m 4 ≤ 2000000000; rw [up2z_ne (by omega)]; omega), (fun d => by have w : bDn (bM5 t n) n 1 d ≤ _ := bDn_le (s := bM5 t n) hGt (hb := hb_ + 1) (fun c hc => bLi_hi hLi c (by have : bK (bM5 t n) = bK t := rfl; omega)) n 1 (bTr (bM5 t n) n) d; omega), ⟨(p99bfrL (k + 13) n (by omega)).trans ((p67bfrL (k + 13) n (by omega)).trans hcs), by omega, by omega⟩, ?_⟩
          intro I130o L130o p130hBB2 p130bhtr2 p130bbhca2 p130bbbfr p130bbbbfrL
          refine ⟨(2, ((m - 1) : Nat), 0), zlt6 (by have hm1 : m ≠ 0 := fun e => (p58hv.resolve_left (fun w => by have := w.1; omega)).2 (gOc_0 (by omega)); omega), [some (zvr (k)), some (zvi (n)), none, none], ⟨rfl, rfl, rfl⟩, (bNx t n).1, (a + (bNx t n).2), (m - 1), rfl, rfl, rfl, rfl, rfl, (by omega), ?_, ?_, ?_, ?_, ?_, ?_, ?_, ?_, ?_, (fun c j h0 h1 h2 h3 h4 h5 h6 => ((p130bbbfr c j (by omega) (by omega) (by omega) (by omega) (by omega) (by omega)).trans (zxu h5 ((p93bfr c j (by omega)).trans ((fr c j (by omega) (by omega) (by omega) (by omega) (by omega) (by omega) (by omega)).trans rfl))))), (fun c j h0 h1 h2 => ((p130bbbbfrL c j (by omega) (by omega)).trans ((p99bfrL c j (by omega)).trans ((p67bfrL c j (by omega)).trans ((frL c j (by omega) (by omega) (by omega)).trans rfl)))))⟩
          · first
            | (rw [gNx_a (g72 (by omega))]
               exact p130hBB2)
            | (rw [gNx_c (p72bbhv3.1 (by omega)) (g104 (by omega))]
               exact p130hBB2)
          · have hna := (p58hv.resolve_left (fun w => by have := w.1; omega)).2
            have hm1 : m ≠ 0 := fun e => hna (gOc_0 (by omega))
            have hnx : bLi (bNx t n).1 n hb_ (rb + (5 - m) + 1) ∧ bN (bNx t n).1 n 2 = 0 ∧ gOc (bNx t n).1 n + 1 ≤ gOc t n := by
              first
              | (rw [gNx_a (g72 (by omega))]
                 exact gNx_p (Or.inl rfl) hLi ht2 (g72 (by omega)))
              | (rw [gNx_c (p72bbhv3.1 (by omega)) (g104 (by omega))]
                 exact gNx_p (Or.inr rfl) hLi ht2 (g104 (by omega)))
            rw [show rb + (5 - (m - 1)) = rb + (5 - m) + 1 by omega]
            exact hnx.1
          · first
            | exact (p130bbbfr (k + 15) n (by omega) (by omega) (by omega) (by omega) (by omega) (by omega)).trans hbl
            | exact (p130bbbfr (k + 15) n (by omega) (by omega) (by omega) (by omega) (by omega) (by omega)).trans zxe
          · first
            | (rw [gNx_a (g72 (by omega))]
               exact p130bbhca2)
            | (rw [gNx_c (p72bbhv3.1 (by omega)) (g104 (by omega))]
               exact p130bbhca2)
          · have hna := (p58hv.resolve_left (fun w => by have := w.1; omega)).2
            have hm1 : m ≠ 0 := fun e => hna (gOc_0 (by omega))
            first
            | (rw [gNx_a (g72 (by omega))]
               have w := (gPk_p (g72 (by omega))).1
               have w2 := (fun d => by have w := bDn_le hGt (hb := hb_ + 1) (fun c hc => bLi_hi hLi c (by omega)) n (0) (bTr t n) d; have w2 : bDi t n (0) (bTr t n) d = bDn t n (0) d := rfl; omega : ∀ d, bDn t n 0 d ≤ 1000000000) (gPk t n 0).toNat
               show 0 ≤ a + bDn t n 0 (gPk t n 0).toNat ∧ a + bDn t n 0 (gPk t n 0).toNat ≤ _
               omega)
            | (rw [gNx_c (p72bbhv3.1 (by omega)) (g104 (by omega))]
               have w := (gPk_p (g104 (by omega))).1
               have w2 : bDn (bM5 t n) n 1 (gPk (bM5 t n) n 1).toNat ≤ (hb_ + 1 + 352) * 1024 := (bDn_le (s := bM5 t n) hGt (hb := hb_ + 1) (fun c hc => bLi_hi hLi c (by have : bK (bM5 t n) = bK t := rfl; omega)) n 1 (bTr (bM5 t n) n) (gPk (bM5 t n) n 1).toNat)
               show 0 ≤ a + bDn (bM5 t n) n 1 (gPk (bM5 t n) n 1).toNat ∧ a + bDn (bM5 t n) n 1 (gPk (bM5 t n) n 1).toNat ≤ _
               omega)
          · have hna := (p58hv.resolve_left (fun w => by have := w.1; omega)).2
            have hm1 : m ≠ 0 := fun e => hna (gOc_0 (by omega))
            have h2 : (bNx t n).2 ≠ -1 := by
              first
              | (rw [gNx_a (g72 (by omega))]
                 have w := (gPk_p (g72 (by omega))).1
                 show bDn t n 0 (gPk t n 0).toNat ≠ -1
                 omega)
              | (rw [gNx_c (p72bbhv3.1 (by omega)) (g104 (by omega))]
                 have w := (gPk_p (g104 (by omega))).1
                 show bDn (bM5 t n) n 1 (gPk (bM5 t n) n 1).toNat ≠ -1
                 omega)
            have e := bLp_k (k := m - 1) (a := a) hna h2
            rw [show (m - 1) + 1 = m by omega] at e
            exact e.symm.trans hbp
          · have hna := (p58hv.resolve_left (fun w => by have := w.1; omega)).2
            have hm1 : m ≠ 0 := fun e => hna (gOc_0 (by omega))
            have hnx : bLi (bNx t n).1 n hb_ (rb + (5 - m) + 1) ∧ bN (bNx t n).1 n 2 = 0 ∧ gOc (bNx t n).1 n + 1 ≤ gOc t n := by
              first
              | (rw [gNx_a (g72 (by omega))]
                 exact gNx_p (Or.inl rfl) hLi ht2 (g72 (by omega)))
              | (rw [gNx_c (p72bbhv3.1 (by omega)) (g104 (by omega))]
                 exact gNx_p (Or.inr rfl) hLi ht2 (g104 (by omega)))
            omega
          · have hna := (p58hv.resolve_left (fun w => by have := w.1; omega)).2
            have hm1 : m ≠ 0 := fun e => hna (gOc_0 (by omega))
            have hnx : bLi (bNx t n).1 n hb_ (rb + (5 - m) + 1) ∧ bN (bNx t n).1 n 2 = 0 ∧ gOc (bNx t n).1 n + 1 ≤ gOc t n := by
              first
              | (rw [gNx_a (g72 (by omega))]
                 exact gNx_p (Or.inl rfl) hLi ht2 (g72 (by omega)))
              | (rw [gNx_c (p72bbhv3.1 (by omega)) (g104 (by omega))]
                 exact gNx_p (Or.inr rfl) hLi ht2 (g104 (by omega)))
            exact hnx.2.1
          · first
            | (rw [gNx_a (g72 (by omega))]
               exact p130bhtr2)
            | (rw [gNx_c (p72bbhv3.1 (by omega)) (g104 (by omega))]
               exact p130bhtr2)
        · refine And.intro (zDX hd 0 rfl) ⟨_, sn_G_let.up (by decide), ?_⟩
          refine ⟨k, _, (bM5 t n), n, (n : Int), rfl, hd, (zBB_fr (zBB_5 hB (fun c j w => p93bfr c j (by omega)) (fun c j w => p67bfrL c j (by omega)) hnt) (fun c j w => rfl) (fun c j w => p99bfrL c j (by omega))), hGt, ⟨rfl, hnt⟩, ?_⟩
          intro I115o p115hBB2 p115bfr
          refine hQ _ _ ?_ (fun c j h0 h1 h2 h3 h4 h5 h6 => ((p115bfr c j (by omega) (by omega) (by omega)).trans ((p93bfr c j (by omega)).trans ((fr c j (by omega) (by omega) (by omega) (by omega) (by omega) (by omega) (by omega)).trans rfl)))) (fun c j h0 h1 h2 => ((p99bfrL c j (by omega)).trans ((p67bfrL c j (by omega)).trans ((frL c j (by omega) (by omega) (by omega)).trans rfl))))
          · have hna := (p58hv.resolve_left (fun w => by have := w.1; omega)).2
            have hb := gNx_b (p72bbhv3.1 (by omega)) (p104bbhv3.1 (by omega))
            have hm1 : m ≠ 0 := fun e => hna (gOc_0 (by omega))
            have e : bLr s n = (bM5 t n, a - 1, 1) := by
              rw [← hbp, show m = (m - 1) + 1 by omega, bLp_s hna (by rw [hb]), hb]
            unfold bLd
            rw [e, if_pos rfl]
            refine zBB_un p115hBB2 ?_ (fun w => ?_)
            · refine (p115bfr (k + 15) n (by omega) (by omega) (by omega)).trans (p93h5n.trans ?_)
              show _ = up2z (up2z (bN t) n 5 (bMc t n (bK t))) n 2 0 n 5
              rw [up2z_ne (by omega), up2z_at]
            · exfalso
              have w2 : up2z (up2z (bN t) n 5 (bMc t n (bK t))) n 2 0 n 2 = 1 := w
              rw [up2z_at] at w2
              exact absurd w2 (by decide))
