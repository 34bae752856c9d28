/-! zj -/
def T_A_ptb : ZT := fun args I L R S Q => ∃ (x : SvK) (cr : Nat) (cn : Nat) (b : Nat) (s : BdS) (e : Int), args = [zvr 145, zvi e, zvr 82] ∧ (zSh S) ∧ (zRs R) ∧ (zBA b s I L) ∧ (bGd s) ∧ (zCL x.1 x.2.1 x.2.2.1 x.2.2.2 cr cn I) ∧ (b ≤ 6) ∧ (stM4 x.1 x.2.2.1) ∧ (r32 e) ∧ ∀ (v : Int) (I' : ZI), (v = ldV b cr x.2.2.1 x.1 e s) → (zBA b (ldS b cr x.2.2.1 x.1 e s) I' L) → (∀ c j : Nat, ¬ c = 86 → ¬ c = 87 → ¬ c = 89 → ¬ (c = 88 ∧ j = 2) → ¬ (c = 90 ∧ j = 2) → ¬ c = 91 → ¬ c = 93 → I' c j = I c j) → Q (some (zvi (v))) I' L R S
theorem sn_A_ptb : ZSnd 4 10 14 T_A_ptb := ZSnd.loops (zT10_14 3) (by
  rintro args I L R S Q hz ⟨x, cr, cn, b, s, e, rfl, hS, hR, hBA, hGd, hCL, hb6, h4, re, hQ⟩
  obtain ⟨⟨hb0, hbw, hbh, hbd, hbs⟩, hnb, hcl, hPT, hNT, hwy, hco, hnd⟩ := id hBA
  obtain ⟨hP1, hP2, hP3, hP4⟩ := id hPT
  obtain ⟨hN1, hN2, hN3, hN4⟩ := id hNT
  obtain ⟨⟨⟨gW1, gW2⟩, ⟨gH1, gH2⟩, ⟨gD1, gD2⟩, gB9⟩, ⟨gnp, gnn⟩, gc, gp, gn, gco, gnd, gun⟩ := id hGd
  obtain ⟨h1, h2, h3, hlg, ⟨hcr, hcn, hsm, hLg⟩, h6⟩ := id hCL
  have hG9 : stG (stN x.1 x.2.1).1 x.2.2.1 := by rw [hsm]; exact (stN_G hLg.1).1
  have hsv12 : sV x.2.2.1 ≤ 12 := hG9.2.1
  refine ⟨[34], fun nM tM lsM stM I1 L1 R1 S1 => match tM with
      | 34 => ∃ (q : Nat), nM = ((50 - q), 0, 0) ∧ lsM = [some (zvr (145)), some (zvi (e)), some (zvr (82)), some (zvi (ldn x.1 x.2.2.1 e s q)), some (zvi (4 * q)), none, none] ∧ stM = [] ∧ L1 = L ∧ R1 = R ∧ S1 = S ∧ (q ≤ stFr x.2.2.1 e) ∧ (cr = 0 ∧ ¬ b = 0) ∧ (0 ≤ e ∧ e < sV x.2.2.1) ∧ (zBA b (ldb x.1 x.2.2.1 e s q) I1 L1) ∧ (∀ c j : Nat, ¬ c = 86 → ¬ c = 87 → ¬ c = 89 → ¬ (c = 88 ∧ j = 2) → ¬ (c = 90 ∧ j = 2) → ¬ c = 91 → ¬ c = 93 → I1 c j = I c j)
      | _ => False, rfl, ?_, ⟨?_, True.intro⟩⟩
  · refine And.intro (zA_82 hS) (zrd (v := (b - 1)) hb0 ?_)
    refine And.intro ⟨(by omega), (zRb rfl)⟩ ⟨fun h5 => ?_, fun h5 => ?_⟩
    · refine hQ _ _ ?_ ?_ (fun c j h0 h1 h2 h3 h4 h5 h6 => rfl)
      · first
        | exact (ld_3 (by omega)).1.symm
        | exact (ld_2 (by omega) (by omega)).1.symm
        | exact (ld_y (by omega) hev (by omega)).1.symm
      · first
        | (rw [(ld_3 (by omega)).2]; exact hBA)
        | (rw [(ld_2 (by omega) (by omega)).2]; exact hBA)
        | (rw [(ld_y (q := q) (by omega) hev (by omega)).2]; exact hBA1)
    · refine And.intro (zA_145 hS) (zrd (v := cr) h2 ?_)
      refine And.intro (by omega) ⟨fun h12 => ?_, fun h12 => ?_⟩
      · have t12 : cr = 0 ∧ ¬ b = 0 := (by omega)
        have t12b : I 145 9 = sV x.2.2.1 := (h6 (by omega)).2.1.2.1
        refine And.intro (zA_145 hS) (Exists.intro _ (And.intro (zinl_ok (zT10_10 2)) (And.intro rfl ?_)))
        refine And.intro (by omega) ⟨fun h1_20 => ?_, fun h1_20 => ?_⟩
        · refine And.intro (Or.inl rfl) ?_
          refine And.intro (zRb rfl) (zbf rfl ?_)
          refine hQ _ _ ?_ ?_ (fun c j h0 h1 h2 h3 h4 h5 h6 => rfl)
          · first
            | exact (ld_3 (by omega)).1.symm
            | exact (ld_2 (by omega) (by omega)).1.symm
            | exact (ld_y (by omega) hev (by omega)).1.symm
          · first
            | (rw [(ld_3 (by omega)).2]; exact hBA)
            | (rw [(ld_2 (by omega) (by omega)).2]; exact hBA)
            | (rw [(ld_y (q := q) (by omega) hev (by omega)).2]; exact hBA1)
        · refine And.intro (zA_145 hS) (fun v6_20 e6_20 r6_20 => ?_)
          refine And.intro ⟨(by omega), r6_20⟩ ⟨fun h9_20 => ?_, fun h9_20 => ?_⟩
          · refine And.intro (Or.inl rfl) ?_
            refine And.intro (zRb rfl) (zbf rfl ?_)
            refine hQ _ _ ?_ ?_ (fun c j h0 h1 h2 h3 h4 h5 h6 => rfl)
            · first
              | exact (ld_3 (by omega)).1.symm
              | exact (ld_2 (by omega) (by omega)).1.symm
              | exact (ld_y (by omega) hev (by omega)).1.symm
            · first
              | (rw [(ld_3 (by omega)).2]; exact hBA)
              | (rw [(ld_2 (by omega) (by omega)).2]; exact hBA)
              | (rw [(ld_y (q := q) (by omega) hev (by omega)).2]; exact hBA1)
          · refine And.intro (Or.inr rfl) ?_
            refine And.intro (zRb rfl) (zbt rfl ?_)
            refine ⟨((50 - (0 : Nat)), 0, 0), [some (zvr (145)), some (zvi (e)), some (zvr (82)), some (zvi (ldn x.1 x.2.2.1 e s (0 : Nat))), some (zvi (4 * (0 : Nat))), none, none], ⟨rfl, rfl, rfl, (congrArg (fun z => some (zvi z)) rfl), (congrArg (fun z => some (zvi z)) (by omega)), rfl⟩, 0, rfl, rfl, rfl, rfl, rfl, rfl, (by omega), (by clear hQ; grind [xu]), (by omega), hBA, (fun c j h0 h1 h2 h3 h4 h5 h6 => rfl)⟩
      · refine hQ _ _ ?_ ?_ (fun c j h0 h1 h2 h3 h4 h5 h6 => rfl)
        · first
          | exact (ld_3 (by omega)).1.symm
          | exact (ld_2 (by omega) (by omega)).1.symm
          | exact (ld_y (by omega) hev (by omega)).1.symm
        · first
          | (rw [(ld_3 (by omega)).2]; exact hBA)
          | (rw [(ld_2 (by omega) (by omega)).2]; exact hBA)
          | (rw [(ld_y (q := q) (by omega) hev (by omega)).2]; exact hBA1)
  · rintro nM lsM stM I1 L1 R1 S1 hz1 ⟨q, rfl, rfl, rfl, rfl, rfl, rfl, hq, hcb, hev, hBA1, fr⟩
    have hCL1 : zCL x.1 x.2.1 x.2.2.1 x.2.2.2 0 cn I1 := (by obtain rfl : cr = 0 := hcb.1; exact zCL_fr hCL (fun c j h => fr c j (by omega) (by omega) (by omega) (by omega) (by omega) (by omega) (by omega) ))
    have h48 := (stFr_b hG9 h4 hev).1
    have hg9 := ldK_g (f := ldF x.1 x.2.2.1 e) hGd q
    have hgb : bGd (ldb x.1 x.2.2.1 e s q) := hg9.1
    have hgn : ldn x.1 x.2.2.1 e s q ≤ q := hg9.2.2
    refine And.intro ⟨(by omega), (zRb rfl)⟩ ⟨fun h39 => ?_, fun h39 => ?_⟩
    · refine hQ _ _ ?_ ?_ (fun c j h0 h1 h2 h3 h4 h5 h6 => ((fr c j h0 h1 h2 h3 h4 h5 h6).trans rfl))
      · first
        | exact (ld_3 (by omega)).1.symm
        | exact (ld_2 (by omega) (by omega)).1.symm
        | exact (ld_y (by omega) hev (by omega)).1.symm
      · first
        | (rw [(ld_3 (by omega)).2]; exact hBA)
        | (rw [(ld_2 (by omega) (by omega)).2]; exact hBA)
        | (rw [(ld_y (q := q) (by omega) hev (by omega)).2]; exact hBA1)
    · refine And.intro (zA_145 hS) ⟨_, sn_A_byte.up (by decide), ?_⟩
      refine ⟨x.1, x.2.1, x.2.2.1, x.2.2.2, 0, cn, (e : Int), (((4 * q) + 3) : Int), rfl, hS, hR, hCL1, (by omega), ?_⟩
      intro v48o p48hv
      have g48 : v48o = ldF x.1 x.2.2.1 e (4 * q + 3) := (p48hv.trans (by first | rfl | exact congrArg (stQ x.1 x.2.2.1 0 e) (by omega)))
      have g48b : -1 ≤ v48o ∧ v48o ≤ 255 := (by by_cases z8 : q < stFr x.2.2.1 e; (have z9 := ldF_b hG9 h4 hev z8; omega); (have z9 := ldF_n hG9 h4 hev (q := q) (by omega); omega))
      refine And.intro ⟨(by omega), (zRb rfl)⟩ ⟨fun h52 => ?_, fun h52 => ?_⟩
      · have t52 : stFr x.2.2.1 e ≤ q := (Classical.byContradiction fun z8 => by have z9 := ldF_b hG9 h4 hev (q := q) (by omega); omega)
        refine hQ _ _ ?_ ?_ (fun c j h0 h1 h2 h3 h4 h5 h6 => ((fr c j h0 h1 h2 h3 h4 h5 h6).trans rfl))
        · first
          | exact (ld_3 (by omega)).1.symm
          | exact (ld_2 (by omega) (by omega)).1.symm
          | exact (ld_y (by omega) hev (by omega)).1.symm
        · first
          | (rw [(ld_3 (by omega)).2]; exact hBA)
          | (rw [(ld_2 (by omega) (by omega)).2]; exact hBA)
          | (rw [(ld_y (q := q) (by omega) hev (by omega)).2]; exact hBA1)
      · have t52 : q < stFr x.2.2.1 e := (Classical.byContradiction fun z8 => by have z9 := ldF_n hG9 h4 hev (q := q) (by omega); omega)
        refine And.intro (zA_145 hS) ⟨_, sn_A_byte.up (by decide), ?_⟩
        refine ⟨x.1, x.2.1, x.2.2.1, x.2.2.2, 0, cn, (e : Int), (((4 * q) + 3) : Int), rfl, hS, hR, hCL1, (by omega), ?_⟩
        intro v61o p61hv
        have g61 : v61o = ldF x.1 x.2.2.1 e (4 * q + 3) := (p61hv.trans (by first | rfl | exact congrArg (stQ x.1 x.2.2.1 0 e) (by omega)))
        have g61b : 0 ≤ v61o ∧ v61o ≤ 255 := (by have z9 := ldF_b hG9 h4 hev t52; omega)
        refine And.intro (zA_145 hS) ⟨_, sn_A_byte.up (by decide), ?_⟩
        refine ⟨x.1, x.2.1, x.2.2.1, x.2.2.2, 0, cn, (e : Int), ((4 * q) : Int), rfl, hS, hR, hCL1, (by omega), ?_⟩
        intro v71o p71hv
        have g71 : v71o = ldF x.1 x.2.2.1 e (4 * q) := (p71hv.trans (by first | rfl | exact congrArg (stQ x.1 x.2.2.1 0 e) (by omega)))
        have g71b : 0 ≤ v71o ∧ v71o ≤ 255 := (by have z9 := ldF_b hG9 h4 hev t52; omega)
        refine And.intro (zA_145 hS) ⟨_, sn_A_byte.up (by decide), ?_⟩
        refine ⟨x.1, x.2.1, x.2.2.1, x.2.2.2, 0, cn, (e : Int), (((4 * q) + 1) : Int), rfl, hS, hR, hCL1, (by omega), ?_⟩
        intro v80o p80hv
        have g80 : v80o = ldF x.1 x.2.2.1 e (4 * q + 1) := (p80hv.trans (by first | rfl | exact congrArg (stQ x.1 x.2.2.1 0 e) (by omega)))
        have g80b : 0 ≤ v80o ∧ v80o ≤ 255 := (by have z9 := ldF_b hG9 h4 hev t52; omega)
        refine And.intro (zA_145 hS) ⟨_, sn_A_byte.up (by decide), ?_⟩
        refine ⟨x.1, x.2.1, x.2.2.1, x.2.2.2, 0, cn, (e : Int), (((4 * q) + 2) : Int), rfl, hS, hR, hCL1, (by omega), ?_⟩
        intro v89o p89hv
        have g89 : v89o = ldF x.1 x.2.2.1 e (4 * q + 2) := (p89hv.trans (by first | rfl | exact congrArg (stQ x.1 x.2.2.1 0 e) (by omega)))
        have g89b : 0 ≤ v89o ∧ v89o ≤ 255 := (by have z9 := ldF_b hG9 h4 hev t52; omega)
        refine And.intro ⟨(by omega), (zRb rfl), (by decide)⟩ (zdv (by omega) (fun q96 e96 => ?_))
        have f96 : q96 = v61o % 16 := (by omega)
        have f96b : 0 ≤ q96 ∧ q96 ≤ 15 := (by omega)
        refine And.intro ⟨(by omega), (zRb rfl), (by decide)⟩ (zdv (by omega) (fun q101 e101 => ?_))
        have f101 : q101 = v61o / 16 := (by omega)
        have f101b : 0 ≤ q101 ∧ q101 ≤ 15 := (by omega)
        refine And.intro (zA_82 hS) ⟨_, sn_A_put.up (by decide), ?_⟩
        refine ⟨b, (ldb x.1 x.2.2.1 e s q), (v71o : Int), (v80o : Int), (v89o : Int), (q96 : Int), (q101 : Int), rfl, hS, hR, hBA1, hgb, (by omega), (by omega), ?_⟩
        intro v102o I102o p102hv p102bhBA2 p102bbfr
        have g102 : -4 ≤ v102o ∧ v102o ≤ 40 := (by have z9 := bPutV_b (b := b) (s := (ldb x.1 x.2.2.1 e s q)) (t := v71o) (o := v80o) (l := v89o) (i := q96) (j := q101); have z8 := hgb.2.1.1; rw [← p102hv] at z9; omega)
        have g102b : v102o = bPutV 1 (ldb x.1 x.2.2.1 e s q) v71o v80o v89o (v61o % 16) (v61o / 16) ∧ zBA b (bPutS 1 (ldb x.1 x.2.2.1 e s q) v71o v80o v89o (v61o % 16) (v61o / 16)) I102o L1 := (by have z9 := bPu1_b (b := b) (s := (ldb x.1 x.2.2.1 e s q)) (t := v71o) (o := v80o) (l := v89o) (i := q96) (j := q101) hcb.2; rw [z9.1] at p102hv; rw [z9.2] at p102bhBA2; rw [f96, f101] at p102hv p102bhBA2; exact ⟨p102hv, p102bhBA2⟩)
        refine And.intro (by omega) ⟨fun h110 => ?_, fun h110 => ?_⟩
        · refine ⟨((50 - (q + 1)), 0, 0), zlt6 (by omega), [some (zvr (145)), some (zvi (e)), some (zvr (82)), some (zvi (ldn x.1 x.2.2.1 e s (q + 1))), some (zvi (4 * (q + 1))), none, none], ⟨rfl, rfl, rfl, (congrArg (fun z => some (zvi z)) (by
  have w9 := ldb_s (s := s) g71 g80 g89 g61
  rw [← g102b.1] at w9
  first
  | (have w8 := w9.2.1 (by omega); omega)
  | (have w8 := w9.2.2 (by omega); omega))), (congrArg (fun z => some (zvi z)) (by omega)), rfl⟩, (q + 1), rfl, rfl, rfl, rfl, rfl, rfl, (by omega), (by first | exact hcb | (clear hQ; grind [xu])), (by omega), (by rw [(ldb_s (s := s) g71 g80 g89 g61).1]; exact g102b.2), (fun c j h0 h1 h2 h3 h4 h5 h6 => ((p102bbfr c j h0 h1 h2 h3 h4 h5 h6).trans ((fr c j h0 h1 h2 h3 h4 h5 h6).trans rfl)))⟩
        · refine ⟨((50 - (q + 1)), 0, 0), zlt6 (by omega), [some (zvr (145)), some (zvi (e)), some (zvr (82)), some (zvi (ldn x.1 x.2.2.1 e s (q + 1))), some (zvi (4 * (q + 1))), none, none], ⟨rfl, rfl, rfl, (congrArg (fun z => some (zvi z)) (by
  have w9 := ldb_s (s := s) g71 g80 g89 g61
  rw [← g102b.1] at w9
  first
  | (have w8 := w9.2.1 (by omega); omega)
  | (have w8 := w9.2.2 (by omega); omega))), (congrArg (fun z => some (zvi z)) (by omega)), rfl⟩, (q + 1), rfl, rfl, rfl, rfl, rfl, rfl, (by omega), (by first | exact hcb | (clear hQ; grind [xu])), (by omega), (by rw [(ldb_s (s := s) g71 g80 g89 g61).1]; exact g102b.2), (fun c j h0 h1 h2 h3 h4 h5 h6 => ((p102bbfr c j h0 h1 h2 h3 h4 h5 h6).trans ((fr c j h0 h1 h2 h3 h4 h5 h6).trans rfl)))⟩)
