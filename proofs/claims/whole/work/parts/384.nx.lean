/-! nx -/
def T_A_nxt : ZT := fun args I L R S Q => ∃ (b : Nat) (s : BdS) (n : Nat) (x : Int) (hb_ : Nat) (h0 : Nat) (rb : Nat), args = [zvr 98, zvi x] ∧ (zSh S) ∧ (zRs R) ∧ (zBA b s I L) ∧ (x = n ∧ n < bnn s) ∧ (bLi s n h0 rb) ∧ (hb_ ≤ 520000) ∧ (h0 + 1 = hb_) ∧ (rb ≤ 1900000000) ∧ (∀ j : Nat, j < 1024 → I 101 j = bTn s n j) ∧ ∀ (v : Int) (I' : ZI) (L' : ZI), (v = (bNx s n).2) → (-1 ≤ v ∧ v ≤ (hb_ + 352 : Int) * 1024) → (zBA b (bNx s n).1 I' L') → (∀ j : Nat, j < 1024 → I' 101 j = bTn (bNx s n).1 n j) → (∀ c j : Nat, ¬ c = 85 → ¬ c = 86 → ¬ c = 91 → ¬ c = 92 → ¬ c = 93 → ¬ c = 101 → ¬ c = 99 → ¬ c = 100 → ¬ (c = 98 ∧ j = 5) → I' c j = I c j) → (∀ c j : Nat, ¬ c = 102 → L' c j = L c j) → Q (some (zvi (v))) I' L' R S
theorem sn_A_nxt : ZSnd 5 6 8 T_A_nxt := ZSnd.of (zT6_8 4) (by
  rintro args I L R S Q hz ⟨b, s, n, x, hb_, h0, rb, rfl, hS, hR, hBA, hxn, hLi, hhb, hh0, hrb, htr, hQ⟩
  obtain ⟨⟨hb0, hbw, hbh, hbd, hbs⟩, hnb, hcl, hPT, hNT, hwy, hco, hnd⟩ := id hBA
  obtain ⟨hP1, hP2, hP3, hP4⟩ := id hPT
  obtain ⟨hN1, hN2, hN3, hN4⟩ := id hNT
  have hGz := bLi_z hLi
  have hnp5 : bnp (bM5 s n) = bnp s := rfl
  obtain ⟨⟨⟨gW1, gW2⟩, ⟨gH1, gH2⟩, ⟨gD1, gD2⟩, gB9⟩, ⟨gnp, gnn⟩, gco⟩ := id hGz
  have hKe : bK s = bW s * bH s * bD s := rfl
  have hLw := fun m (hm : m < bnn s) => bLi_w hLi hm
  have hLh := bLi_h hLi
  have hLp := bLi_p hLi
  have hhi : ∀ c, c < 1024 → bhi s c ≤ hb_ := by rw [← hh0]; exact bLi_hi hLi
  have hrp : ∀ m, m < bnn s → 0 ≤ bN s m 4 ∧ bN s m 4 ≤ rb := hLi.2.2.2.1
  have hct : bwl s n = zct (bTr s n) (bK s) := hLi.2.2.2.2
  have hLk := bLi_k hLi hxn.2
  have hD0 : ∀ d, bDi s n 0 (bTr s n) d ≤ (hb_ + 352 : Int) * 1024 := bDn_le hGz (fun c hc => hhi c (by omega)) n 0 (bTr s n)
  have hD1 : ∀ d, bDi (bM5 s n) n 1 (bTr (bM5 s n) n) d ≤ (hb_ + 352 : Int) * 1024 := bDn_le (s := bM5 s n) hGz (fun c hc => hhi c (by have e : bK (bM5 s n) = bK s := rfl; omega)) n 1 (bTr (bM5 s n) n)
  refine And.intro rfl ?_
  refine And.intro (zA_98 hS) ⟨_, sn_A_srch.up (by decide), ?_⟩
  refine ⟨b, s, n, (x : Int), (0 : Int), hb_, (bTn s n), rfl, hS, hR, (by first | exact (zBA_fr hBA (fun c j h => rfl) (fun c j h => rfl)) | (clear hQ; grind [xu])), hGz, (by omega), (Or.inl rfl), ⟨fun c hc => hhi c (by omega), by omega⟩, (hLw n hxn.2).1, (fun k hk => ⟨hLk k hk, by have := hLk k hk; omega⟩), hLp, htr, ?_⟩
  intro v3o I3o L3o p3hv p3bhv2 p3bbhtl2 p3bbbhd2 p3bbbbhd3 p3bbbbbfr p3bbbbbbfrL
  have g3 : zBA b s I3o L3o := (zBA_fr hBA (fun c j h => p3bbbbbfr c j (by omega) (by omega) (by omega)) (fun c j h => p3bbbbbbfrL c j (by omega)))
  have g3b : v3o ≠ -1 → (0 ≤ bP s v3o.toNat 2 ∧ bP s v3o.toNat 2 < bK s) := (fun h => hLp _ (by have := (bPk_p p3hv h); omega))
  refine And.intro ⟨(by omega), (zRb rfl)⟩ ⟨fun h9 => ?_, fun h9 => ?_⟩
  · refine And.intro ⟨(by omega), (zRb rfl)⟩ ⟨fun h38 => ?_, (fun h38 => False.elim (by omega))⟩
    refine And.intro (zA_98 hS) (zrdR (v := some 99) (zR_98_1 hR) ?_)
    refine And.intro (zA_98 hS) (zrdR (v := some 82) (zR_98_0 hR) ?_)
    refine And.intro (zA_82 hS) (Exists.intro _ (And.intro (zinl_ok (zT0_18 3)) (And.intro rfl ?_)))
    refine And.intro (zA_82 hS) (zrdR (v := some 88) (zR_82_10 hR) ?_)
    refine And.intro (zA_88 hS) ⟨_, sn_A_at.up (by decide), ?_⟩
    refine ⟨_, _, _, _, (v3o).toNat, 2, (v3o : Int), (2 : Int), rfl, hS, hR, (zRw_88 hR hS), (by first | exact (zRT_fr hPT (fun c j h => ((p3bbbbbfr c j (by omega) (by omega) (by omega)).trans rfl))) | (clear hQ; grind [xu])), (by omega), (by omega), ?_⟩
    intro v6_52o p6_52hv p6_52bhr
    refine And.intro (zP_99 hS (by omega) (by omega)) (fun v55 e55 r55 => ?_)
    refine And.intro (zA_98 hS) (zrdR (v := some 82) (zR_98_0 hR) ?_)
    refine And.intro (zA_82 hS) (Exists.intro _ (And.intro (zinl_ok (zT0_18 3)) (And.intro rfl ?_)))
    refine And.intro (zA_82 hS) (zrdR (v := some 88) (zR_82_10 hR) ?_)
    refine And.intro (zA_88 hS) ⟨_, sn_A_at.up (by decide), ?_⟩
    refine ⟨_, _, _, _, (v3o).toNat, 2, (v3o : Int), (2 : Int), rfl, hS, hR, (zRw_88 hR hS), (by first | exact (zRT_fr hPT (fun c j h => ((p3bbbbbfr c j (by omega) (by omega) (by omega)).trans rfl))) | (clear hQ; grind [xu])), (by omega), (by omega), ?_⟩
    intro v6_64o p6_64hv p6_64bhr
    refine And.intro (zA_98 hS) ⟨_, sn_A_join.up (by decide), ?_⟩
    refine ⟨b, s, n, (x : Int), (bP s v3o.toNat 2).toNat, (v6_64o : Int), 0, (bTn s n), hb_, rfl, hS, hR, g3, hGz, hxn, (by have := g3b (by omega); omega), (bPk_p p3hv (by omega)).2.2.1, (bPk_p p3hv (by omega)).2.2.2, p3bbbhd2, p3bbbbhd3, p3bbhtl2, (fun d hd => bTl_le hGz hd n 0 (hhi d (by omega))), (fun j hj => (p3bbbbbfr 101 j (by omega) (by omega) (by omega)).trans (htr j hj)), hct, (fun m hm => (hLw m hm).1), (fun k hk => Nat.lt_of_lt_of_le (hLk k hk) gB9), hLh, ⟨hhi, by omega⟩, (fun m hm => by have := hrp m hm; omega), (fun m hm _ => hLw m hm), ?_⟩
    intro I67o p67hBA2 p67bhtr2 p67bbfr
    refine hQ _ _ _ ?_ ?_ ?_ ?_ (fun c j h0 h1 h2 h3 h4 h5 h6 h7 h8 => ((p67bbfr c j (by omega) (by omega) (by omega) (by omega) (by omega) (by omega)).trans ((p3bbbbbfr c j (by omega) (by omega) (by omega)).trans rfl))) (fun c j h0 => ((p3bbbbbbfrL c j (by omega)).trans rfl))
    · first
      | (rw [(bNx_a p3hv (by omega))]
         exact (e55.trans ((congrArg (I3o 99) (by omega)).trans (p3bbbbhd3 (bP s v3o.toNat 2).toNat (bPk_p p3hv (by omega)).2.2.1 (bPk_p p3hv (by omega)).2.2.2))))
      | (rw [(bNx_c p3hv (by omega) p32hv (by omega))]
         exact (e55.trans ((congrArg (I32o 99) (by omega)).trans (p32bbbbhd3 (bP s v32o.toNat 2).toNat (bPk_p p32hv (by omega)).2.2.1 (bPk_p p32hv (by omega)).2.2.2))))
      | rw [(bNx_b p3hv (by omega) p32hv (by omega))]
    · first
      | omega
      | (have e9 := (e55.trans ((congrArg (I3o 99) (by omega)).trans (p3bbbbhd3 (bP s v3o.toNat 2).toNat (bPk_p p3hv (by omega)).2.2.1 (bPk_p p3hv (by omega)).2.2.2)))
         have e8 := hD0 (bP s v3o.toNat 2).toNat
         have e7 : bDn s n 0 (bP s v3o.toNat 2).toNat = bDi s n 0 (bTr s n) (bP s v3o.toNat 2).toNat := rfl
         have e6 := (bPk_p p3hv (by omega)).2.2.1
         omega)
      | (have e9 := (e55.trans ((congrArg (I32o 99) (by omega)).trans (p32bbbbhd3 (bP s v32o.toNat 2).toNat (bPk_p p32hv (by omega)).2.2.1 (bPk_p p32hv (by omega)).2.2.2)))
         have e8 := hD1 (bP s v32o.toNat 2).toNat
         have e7 : bDn (bM5 s n) n 1 (bP s v32o.toNat 2).toNat = bDi (bM5 s n) n 1 (bTr (bM5 s n) n) (bP s v32o.toNat 2).toNat := rfl
         have e6 : 0 ≤ bDn (bM5 s n) n 1 (bP s v32o.toNat 2).toNat := (bPk_p p32hv (by omega)).2.2.1
         omega)
    · first
      | (rw [(bNx_a p3hv (by omega))]
         exact p67hBA2)
      | (rw [(bNx_c p3hv (by omega) p32hv (by omega))]
         exact p67hBA2)
      | (rw [(bNx_b p3hv (by omega) p32hv (by omega))]
         exact g32)
    · first
      | (rw [(bNx_a p3hv (by omega))]
         exact p67bhtr2)
      | (rw [(bNx_c p3hv (by omega) p32hv (by omega))]
         exact p67bhtr2)
      | (rw [(bNx_b p3hv (by omega) p32hv (by omega))]
         exact g32bb)
  · refine And.intro (zA_98 hS) (zrdR (v := some 82) (zR_98_0 hR) ?_)
    refine And.intro (zA_82 hS) (zrdR (v := some 90) (zR_82_11 hR) ?_)
    refine And.intro (zA_98 hS) ⟨_, sn_A_blkOf.up (by decide), ?_⟩
    refine ⟨b, s, n, (x : Int), rfl, hS, hR, g3, hGz, (by omega), (fun c hc => by have := hLh c hc; omega), (by
  have hno := bPk_no (s := s) (n := n) (r := 0) (tr := bTn s n) (fun c hc hp => by
    obtain ⟨a1, a2, a3, a4, a5, a6, a7, a8⟩ := hLi.1.2.2.1 c (by omega)
    have a5' : -1 ≤ bpa s c := a5
    exact ⟨a6, by omega, a7 hp⟩) (by rw [← p3hv]; omega)
  intro d hd
  rcases bDi_ge s n 0 (bTr s n) d with q | q
  · rcases p3bbbhd2 d hd with w | w
    · rw [w]; exact q.symm
    · have e9 : bDn s n 0 d = bDi s n 0 (bTr s n) d := rfl
      omega
  · exact p3bbbbhd3 d q (fun c h1 h2 => absurd (hno c h1) (by omega))), ?_⟩
    intro v23o p23hv p23bhv2
    refine And.intro (zA_90 hS) ⟨_, sn_A_set.up (by decide), ?_⟩
    refine ⟨_, 12, (bnn s), (bN s), n, 5, (x : Int), (5 : Int), (v23o : Int), rfl, hS, hR, (zRw_90 hR hS), (by first | exact (zRT_fr hNT (fun c j h => ((p3bbbbbfr c j (by omega) (by omega) (by omega)).trans rfl))) | (clear hQ; grind [xu])), ⟨by omega, hxn.2⟩, (by omega), (by unfold r32; omega), ?_⟩
    intro I26o p26hT2 p26bfr
    have g26 : zBA b (bM5 s n) I26o L3o := (by have hT := p26hT2; rw [p23hv] at hT; exact zBA_N g3 hT (fun c j q => p26bfr c j (by omega)) (fun c j q => rfl))
    refine And.intro (zA_98 hS) ⟨_, sn_A_srch.up (by decide), ?_⟩
    refine ⟨b, (bM5 s n), n, (x : Int), (1 : Int), hb_, (bTn s n), rfl, hS, hR, g26, hGz, ⟨hxn.1, hxn.2⟩, (Or.inr rfl), ⟨fun c hc => hhi c (Nat.lt_of_lt_of_le hc gB9), by omega⟩, (hLw n hxn.2).1, (fun k hk => ⟨hLk k hk, Nat.lt_of_lt_of_le (hLk k hk) gB9⟩), hLp, (fun j hj => (p26bfr 101 j (by omega)).trans ((p3bbbbbfr 101 j (by omega) (by omega) (by omega)).trans (htr j hj))), ?_⟩
    intro v32o I32o L32o p32hv p32bhv2 p32bbhtl2 p32bbbhd2 p32bbbbhd3 p32bbbbbfr p32bbbbbbfrL
    have g32 : zBA b (bM5 s n) I32o L32o := (zBA_fr g26 (fun c j h => p32bbbbbfr c j (by omega) (by omega) (by omega)) (fun c j h => p32bbbbbbfrL c j (by omega)))
    have g32b : v32o ≠ -1 → (0 ≤ bP s v32o.toNat 2 ∧ bP s v32o.toNat 2 < bK s) := (fun h => hLp _ (by have := (bPk_p p32hv h); have e9 : bnp (bM5 s n) = bnp s := rfl; omega))
    have g32bb : ∀ j : Nat, j < 1024 → I32o 101 j = bTn s n j := (fun j hj => (p32bbbbbfr 101 j (by omega) (by omega) (by omega)).trans ((p26bfr 101 j (by omega)).trans ((p3bbbbbfr 101 j (by omega) (by omega) (by omega)).trans (htr j hj))))
    refine And.intro ⟨(by omega), (zRb rfl)⟩ ⟨fun h38 => ?_, fun h38 => ?_⟩
    · refine And.intro (zA_98 hS) (zrdR (v := some 99) (zR_98_1 hR) ?_)
      refine And.intro (zA_98 hS) (zrdR (v := some 82) (zR_98_0 hR) ?_)
      refine And.intro (zA_82 hS) (Exists.intro _ (And.intro (zinl_ok (zT0_18 3)) (And.intro rfl ?_)))
      refine And.intro (zA_82 hS) (zrdR (v := some 88) (zR_82_10 hR) ?_)
      refine And.intro (zA_88 hS) ⟨_, sn_A_at.up (by decide), ?_⟩
      refine ⟨_, _, _, _, (v32o).toNat, 2, (v32o : Int), (2 : Int), rfl, hS, hR, (zRw_88 hR hS), (by first | exact (zRT_fr hPT (fun c j h => ((p32bbbbbfr c j (by omega) (by omega) (by omega)).trans ((p26bfr c j (by omega)).trans ((p3bbbbbfr c j (by omega) (by omega) (by omega)).trans rfl))))) | (clear hQ; grind [xu])), (by omega), (by omega), ?_⟩
      intro v6_52o p6_52hv p6_52bhr
      refine And.intro (zP_99 hS (by omega) (by omega)) (fun v55 e55 r55 => ?_)
      refine And.intro (zA_98 hS) (zrdR (v := some 82) (zR_98_0 hR) ?_)
      refine And.intro (zA_82 hS) (Exists.intro _ (And.intro (zinl_ok (zT0_18 3)) (And.intro rfl ?_)))
      refine And.intro (zA_82 hS) (zrdR (v := some 88) (zR_82_10 hR) ?_)
      refine And.intro (zA_88 hS) ⟨_, sn_A_at.up (by decide), ?_⟩
      refine ⟨_, _, _, _, (v32o).toNat, 2, (v32o : Int), (2 : Int), rfl, hS, hR, (zRw_88 hR hS), (by first | exact (zRT_fr hPT (fun c j h => ((p32bbbbbfr c j (by omega) (by omega) (by omega)).trans ((p26bfr c j (by omega)).trans ((p3bbbbbfr c j (by omega) (by omega) (by omega)).trans rfl))))) | (clear hQ; grind [xu])), (by omega), (by omega), ?_⟩
      intro v6_64o p6_64hv p6_64bhr
      refine And.intro (zA_98 hS) ⟨_, sn_A_join.up (by decide), ?_⟩
      refine ⟨b, (bM5 s n), n, (x : Int), (bP s v32o.toNat 2).toNat, (v6_64o : Int), 1, (bTn s n), hb_, rfl, hS, hR, g32, hGz, ⟨hxn.1, hxn.2⟩, (by have := g32b (by omega); omega), (bPk_p p32hv (by omega)).2.2.1, (bPk_p p32hv (by omega)).2.2.2, p32bbbhd2, p32bbbbhd3, p32bbhtl2, (fun d hd => bTl_le (s := bM5 s n) hGz hd n 1 (hhi d (Nat.lt_of_lt_of_le hd gB9))), g32bb, hct, (fun m hm => (hLw m hm).1), (fun k hk => Nat.lt_of_lt_of_le (hLk k hk) gB9), hLh, ⟨hhi, by omega⟩, (fun m hm => by show 0 ≤ up2z (bN s) n 5 _ m 4 ∧ up2z (bN s) n 5 _ m 4 ≤ 2000000000; rw [up2z_ne (by omega)]; have := hrp m hm; omega), (fun m hm _ => hLw m hm), ?_⟩
      intro I67o p67hBA2 p67bhtr2 p67bbfr
      refine hQ _ _ _ ?_ ?_ ?_ ?_ (fun c j h0 h1 h2 h3 h4 h5 h6 h7 h8 => ((p67bbfr c j (by omega) (by omega) (by omega) (by omega) (by omega) (by omega)).trans ((p32bbbbbfr c j (by omega) (by omega) (by omega)).trans ((p26bfr c j (by omega)).trans ((p3bbbbbfr c j (by omega) (by omega) (by omega)).trans rfl))))) (fun c j h0 => ((p32bbbbbbfrL c j (by omega)).trans ((p3bbbbbbfrL c j (by omega)).trans rfl)))
      · first
        | (rw [(bNx_a p3hv (by omega))]
           exact (e55.trans ((congrArg (I3o 99) (by omega)).trans (p3bbbbhd3 (bP s v3o.toNat 2).toNat (bPk_p p3hv (by omega)).2.2.1 (bPk_p p3hv (by omega)).2.2.2))))
        | (rw [(bNx_c p3hv (by omega) p32hv (by omega))]
           exact (e55.trans ((congrArg (I32o 99) (by omega)).trans (p32bbbbhd3 (bP s v32o.toNat 2).toNat (bPk_p p32hv (by omega)).2.2.1 (bPk_p p32hv (by omega)).2.2.2))))
        | rw [(bNx_b p3hv (by omega) p32hv (by omega))]
      · first
        | omega
        | (have e9 := (e55.trans ((congrArg (I3o 99) (by omega)).trans (p3bbbbhd3 (bP s v3o.toNat 2).toNat (bPk_p p3hv (by omega)).2.2.1 (bPk_p p3hv (by omega)).2.2.2)))
           have e8 := hD0 (bP s v3o.toNat 2).toNat
           have e7 : bDn s n 0 (bP s v3o.toNat 2).toNat = bDi s n 0 (bTr s n) (bP s v3o.toNat 2).toNat := rfl
           have e6 := (bPk_p p3hv (by omega)).2.2.1
           omega)
        | (have e9 := (e55.trans ((congrArg (I32o 99) (by omega)).trans (p32bbbbhd3 (bP s v32o.toNat 2).toNat (bPk_p p32hv (by omega)).2.2.1 (bPk_p p32hv (by omega)).2.2.2)))
           have e8 := hD1 (bP s v32o.toNat 2).toNat
           have e7 : bDn (bM5 s n) n 1 (bP s v32o.toNat 2).toNat = bDi (bM5 s n) n 1 (bTr (bM5 s n) n) (bP s v32o.toNat 2).toNat := rfl
           have e6 : 0 ≤ bDn (bM5 s n) n 1 (bP s v32o.toNat 2).toNat := (bPk_p p32hv (by omega)).2.2.1
           omega)
      · first
        | (rw [(bNx_a p3hv (by omega))]
           exact p67hBA2)
        | (rw [(bNx_c p3hv (by omega) p32hv (by omega))]
           exact p67hBA2)
        | (rw [(bNx_b p3hv (by omega) p32hv (by omega))]
           exact g32)
      · first
        | (rw [(bNx_a p3hv (by omega))]
           exact p67bhtr2)
        | (rw [(bNx_c p3hv (by omega) p32hv (by omega))]
           exact p67bhtr2)
        | (rw [(bNx_b p3hv (by omega) p32hv (by omega))]
           exact g32bb)
    · refine hQ _ _ _ ?_ ?_ ?_ ?_ (fun c j h0 h1 h2 h3 h4 h5 h6 h7 h8 => ((p32bbbbbfr c j (by omega) (by omega) (by omega)).trans ((p26bfr c j (by omega)).trans ((p3bbbbbfr c j (by omega) (by omega) (by omega)).trans rfl)))) (fun c j h0 => ((p32bbbbbbfrL c j (by omega)).trans ((p3bbbbbbfrL c j (by omega)).trans rfl)))
      · first
        | (rw [(bNx_a p3hv (by omega))]
           exact (e55.trans ((congrArg (I3o 99) (by omega)).trans (p3bbbbhd3 (bP s v3o.toNat 2).toNat (bPk_p p3hv (by omega)).2.2.1 (bPk_p p3hv (by omega)).2.2.2))))
        | (rw [(bNx_c p3hv (by omega) p32hv (by omega))]
           exact (e55.trans ((congrArg (I32o 99) (by omega)).trans (p32bbbbhd3 (bP s v32o.toNat 2).toNat (bPk_p p32hv (by omega)).2.2.1 (bPk_p p32hv (by omega)).2.2.2))))
        | rw [(bNx_b p3hv (by omega) p32hv (by omega))]
      · first
        | omega
        | (have e9 := (e55.trans ((congrArg (I3o 99) (by omega)).trans (p3bbbbhd3 (bP s v3o.toNat 2).toNat (bPk_p p3hv (by omega)).2.2.1 (bPk_p p3hv (by omega)).2.2.2)))
           have e8 := hD0 (bP s v3o.toNat 2).toNat
           have e7 : bDn s n 0 (bP s v3o.toNat 2).toNat = bDi s n 0 (bTr s n) (bP s v3o.toNat 2).toNat := rfl
           have e6 := (bPk_p p3hv (by omega)).2.2.1
           omega)
        | (have e9 := (e55.trans ((congrArg (I32o 99) (by omega)).trans (p32bbbbhd3 (bP s v32o.toNat 2).toNat (bPk_p p32hv (by omega)).2.2.1 (bPk_p p32hv (by omega)).2.2.2)))
           have e8 := hD1 (bP s v32o.toNat 2).toNat
           have e7 : bDn (bM5 s n) n 1 (bP s v32o.toNat 2).toNat = bDi (bM5 s n) n 1 (bTr (bM5 s n) n) (bP s v32o.toNat 2).toNat := rfl
           have e6 : 0 ≤ bDn (bM5 s n) n 1 (bP s v32o.toNat 2).toNat := (bPk_p p32hv (by omega)).2.2.1
           omega)
      · first
        | (rw [(bNx_a p3hv (by omega))]
           exact p67hBA2)
        | (rw [(bNx_c p3hv (by omega) p32hv (by omega))]
           exact p67hBA2)
        | (rw [(bNx_b p3hv (by omega) p32hv (by omega))]
           exact g32)
      · first
        | (rw [(bNx_a p3hv (by omega))]
           exact p67bhtr2)
        | (rw [(bNx_c p3hv (by omega) p32hv (by omega))]
           exact p67bhtr2)
        | (rw [(bNx_b p3hv (by omega) p32hv (by omega))]
           exact g32bb))
