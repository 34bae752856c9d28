/-! cd8 -/
def T_C_coll : ZT := fun args I L R S Q => ∃ (d : JdS) (ob : Nat → Int), args = [zvr 63] ∧ (zSh S) ∧ (zRs R) ∧ (zDA d ob I) ∧ (jGd d) ∧ (zJF 78 (cE d) I) ∧ (zCn d 960 I) ∧ ∀ (I' : ZI), (zCf d I') → (zJF 78 (cE d) I') → (∀ c j : Nat, ¬ (c = 63 ∧ j = 13) → ¬ c = 78 → ¬ c = 80 → ¬ c = 81 → I' c j = I c j) → Q none I' L R S
theorem sn_C_coll : ZSnd 5 3 4 T_C_coll := ZSnd.loops (zT3_4 4) (by
  rintro args I L R S Q hz ⟨d, ob, rfl, hS, hR, hDA, hJG, hJF, hCn, hQ⟩
  obtain ⟨hSR, hCS, hWR, hJR, hLR, hPR, hTR⟩ := id hDA
  obtain ⟨⟨g1, g2, g3, g4, g5, g6⟩, gs, gw, gj, gl, gp, gt⟩ := id hJG
  obtain ⟨c1_, c2_, c3_, c4_⟩ := id hSR
  obtain ⟨w1_, w2_, w3_, w4_⟩ := id hWR
  obtain ⟨j1_, j2_, j3_, j4_⟩ := id hJR
  obtain ⟨l1_, l2_, l3_, l4_⟩ := id hLR
  obtain ⟨p1_, p2_, p3_, p4_⟩ := id hPR
  obtain ⟨t1_, t2_, t3_, t4_⟩ := id hTR
  obtain ⟨rt, hU, hRr, hE⟩ := id hJF
  have hzc := zct_le (jFst d) 960
  refine ⟨[9, 22, 115], fun nM tM lsM stM I1 L1 R1 S1 => match tM with
      | 9 => ∃ (l : Nat) (n : Int), nM = (3, (61 - l), 20) ∧ lsM = [some (zvr (63)), some (zvi (n)), some (zvi (l)), none, none] ∧ stM = [] ∧ L1 = L ∧ R1 = R ∧ S1 = S ∧ (l ≤ dnl d) ∧ (0 ≤ n ∧ n ≤ 960) ∧ (cEn d l 0 n.toNat (I1 81)) ∧ (zUF 78 19520 rt I1) ∧ (I1 63 13 = 0) ∧ (∀ c j : Nat, ¬ (c = 63 ∧ j = 13) → ¬ c = 78 → ¬ c = 81 → I1 c j = I c j)
      | 22 => ∃ (l : Nat) (n : Int) (c : Nat), nM = (3, (61 - l), (17 - c)) ∧ lsM = [some (zvr (63)), some (zvi (n)), some (zvi (l)), some (zvi (c)), none] ∧ stM = [] ∧ L1 = L ∧ R1 = R ∧ S1 = S ∧ (l < dnl d) ∧ (0 ≤ n ∧ n ≤ 960) ∧ (c ≤ jNc (dbs d) (dL d l 0) (dns d) ∧ c ≤ 16) ∧ (cEn d l c n.toNat (I1 81)) ∧ (zUF 78 19520 rt I1) ∧ (I1 63 13 = 0) ∧ (∀ c j : Nat, ¬ (c = 63 ∧ j = 13) → ¬ c = 78 → ¬ c = 81 → I1 c j = I c j)
      | 115 => ∃ (l : Nat), nM = (2, (61 - l), 0) ∧ lsM = [some (zvr (63)), none, some (zvi (l)), none, none] ∧ stM = [] ∧ L1 = L ∧ R1 = R ∧ S1 = S ∧ (l ≤ dnl d) ∧ (cIs d l (I1 81) (I1 63 13).toNat) ∧ (0 ≤ I1 63 13 ∧ I1 63 13 ≤ 960 + l) ∧ (∀ m : Nat, m < zct (jFst d) 960 → I1 80 m = jNm d m) ∧ (zUF 78 19520 rt I1) ∧ (∀ c j : Nat, ¬ (c = 63 ∧ j = 13) → ¬ c = 78 → ¬ c = 80 → ¬ c = 81 → I1 c j = I c j)
      | _ => False, rfl, ?_, ⟨?_, ?_, ?_, True.intro⟩⟩
  · refine And.intro (zA_63 hS) ⟨_, (zWi (zRb rfl)), ?_⟩
    refine ⟨(3, (61 - (0 : Nat)), 20), [some (zvr (63)), some (zvi ((0 : Int))), some (zvi ((0 : Nat))), none, none], ⟨rfl, rfl, rfl, rfl⟩, 0, 0, rfl, rfl, rfl, rfl, rfl, rfl, (by omega), (by omega), cEn_0, (zUF_fr hU (fun c j h => zxcj (by omega) rfl)), zxe, (fun c j h0 h1 h2 => (zxcj h0 rfl))⟩
  · rintro nM lsM stM I1 L1 R1 S1 hz1 ⟨l, n, rfl, rfl, rfl, rfl, rfl, rfl, hl, hn, hEn, hU1, hc0, fr⟩
    refine And.intro (zA_63 hS) (zrdR (v := some 72) (zR_63_6 hR) ?_)
    refine And.intro (zA_72 hS) (zrd (v := (dnl d)) ((fr 72 2 (by omega) (by omega) (by omega)).trans l2_) ?_)
    refine And.intro ⟨(by omega), (by omega)⟩ ⟨fun h17 => ?_, fun h17 => ?_⟩
    · refine And.intro (zA_63 hS) (zrdR (v := some 81) (zR_63_12 hR) ?_)
      refine ⟨_, sn_S_sort.up (by decide), ?_⟩
      refine ⟨(n : Int), n.toNat, rfl, hS, hR, ⟨by omega, by omega⟩, ?_⟩
      intro I105o p105hse p105bhso p105bbfr
      refine And.intro (zA_63 hS) ⟨_, sn_C_take.up (by decide), ?_⟩
      refine ⟨d, (n : Int), n.toNat, rfl, hS, hR, ⟨by omega, by omega⟩, (cEn_so hJG (by obtain rfl : l = dnl d := (by omega); exact hEn) p105hse p105bhso), (cTn_0 (zCn_fr hCn (fun c j h => (p105bbfr c j (by omega)).trans (fr c j (by omega) (by omega) (by omega))))), ((p105bbfr 63 13 (by omega)).trans hc0), ?_⟩
      intro I110o p110hT p110bfr
      refine ⟨(2, (61 - (0 : Nat)), 0), zlt6 (by omega), [some (zvr (63)), none, some (zvi ((0 : Nat))), none, none], ⟨rfl, rfl, rfl⟩, 0, rfl, rfl, rfl, rfl, rfl, rfl, (by omega), (by obtain ⟨rc, r1, r2, r3⟩ := p110hT; rw [r1]; exact cIs_0 r3), (by obtain ⟨rc, r1, r2, r3⟩ := p110hT; omega), (by obtain ⟨rc, r1, r2, r3⟩ := p110hT; exact (cTn_end r3).1), (zUF_fr hU1 (fun c j h => (p110bfr c j (by omega) (by omega) (by omega)).trans (p105bbfr c j (by omega)))), (fun c j h0 h1 h2 h3 => ((p110bfr c j (by omega) (by omega) (by omega)).trans ((p105bbfr c j (by omega)).trans ((fr c j (by omega) (by omega) (by omega)).trans rfl))))⟩
    · refine ⟨(3, (61 - l), (17 - (0 : Nat))), zlt6 (by omega), [some (zvr (63)), some (zvi (n)), some (zvi (l)), some (zvi ((0 : Nat))), none], ⟨rfl, rfl, rfl, rfl, rfl⟩, l, n, 0, rfl, rfl, rfl, rfl, rfl, rfl, (by omega), (by omega), (by omega), hEn, hU1, hc0, (fun c j h0 h1 h2 => ((fr c j (by omega) (by omega) (by omega)).trans rfl))⟩
  · rintro nM lsM stM I1 L1 R1 S1 hz1 ⟨l, n, c, rfl, rfl, rfl, rfl, rfl, rfl, hl, hn, hc, hEn, hU1, hc0, fr⟩
    have hle := jNc_le (dbs d) (dL d l 0) (dns d)
    have hen3 := hEn.2.2
    refine And.intro (zA_63 hS) (zrdR (v := some 72) (zR_63_6 hR) ?_)
    refine And.intro (zA_72 hS) ⟨_, sn_A_at.up (by decide), ?_⟩
    refine ⟨_, _, _, (dL d), l, 0, (l : Int), (0 : Int), rfl, hS, hR, (zRw_72 hR hS), (by first | exact (zRT_fr hLR (fun c j h => ((fr c j (by omega) (by omega) (by omega)).trans rfl))) | (clear hQ; grind [xu])), (by omega), (by omega), ?_⟩
    intro v30o p30hv p30bhr
    have g30 : 0 ≤ v30o ∧ v30o + 1 ≤ dns d := (by have := (gl l (by omega)).1; omega)
    refine And.intro (zA_63 hS) (Exists.intro _ (And.intro (zinl_ok (zT3_5 3)) (And.intro rfl ?_)))
    refine And.intro (zA_63 hS) (zrdR (v := some 65) (zR_63_2 hR) ?_)
    refine And.intro (zA_65 hS) ⟨_, sn_A_at.up (by decide), ?_⟩
    refine ⟨_, _, _, (cSR d ob), (dL d l 0).toNat, 4, (v30o : Int), (4 : Int), rfl, hS, hR, (zRw_65 hR hS), (by first | exact (zRT_fr hSR (fun c j h => ((fr c j (by omega) (by omega) (by omega)).trans rfl))) | (clear hQ; grind [xu])), (by omega), (by omega), ?_⟩
    intro v6_33o p6_33hv p6_33bhr
    have g6_33 : v6_33o = jNc (dbs d) (dL d l 0) (dns d) := (p6_33hv.trans (by have q := (gl l (by omega)).1; show cSR d ob (dL d l 0).toNat 4 = _; unfold cSR; rw [if_neg (by decide), if_neg (by decide), if_neg (by decide), if_neg (by decide), if_pos rfl, if_pos (by omega), show (((dL d l 0).toNat : Nat) : Int) = dL d l 0 by omega]))
    refine And.intro ⟨(by omega), (by omega)⟩ ⟨fun h36 => ?_, fun h36 => ?_⟩
    · refine ⟨(3, (61 - (l + 1)), 20), zlt6 (by omega), [some (zvr (63)), some (zvi (n)), some (zvi ((l + 1))), none, none], ⟨rfl, rfl, rfl, rfl⟩, (l + 1), n, rfl, rfl, rfl, rfl, rfl, rfl, (by omega), (by omega), (cEn_l hEn (by omega) (fun t h1 h2 => by have w := cc_lt h1; rw [show (dbs d t : Int) = dL d l 0 by omega] at w; omega)), hU1, hc0, (fun c j h0 h1 h2 => ((fr c j (by omega) (by omega) (by omega)).trans rfl))⟩
    · refine Exists.intro _ (And.intro (zinl_ok (zT3_26 3)) (And.intro rfl ?_))
      refine And.intro (zA_63 hS) ⟨_, sn_C_root.up (by decide), ?_⟩
      refine ⟨rt, (((960 + (l * 16)) + c) : Int), (960 + 16 * l + c), rfl, hS, hR, hU1, ⟨by omega, by omega⟩, ?_⟩
      intro v45o I45o p45hv p45bhv2 p45bbhU2 p45bbbfr
      have g45 : rt (960 + 16 * l + c) < 960 → jV d (rt (960 + 16 * l + c)) ∧ cEn d l (c + 1) (n.toNat + 1) (upF (I1 81) n.toNat (1000 * (jNo d (rt (960 + 16 * l + c)) : Int) + dL d l 3)) := by
        intro q
        have g0 := (gl l (by omega)).1
        have g00 : (((dL d l 0).toNat : Nat) : Int) = dL d l 0 := (by omega)
        obtain ⟨t, h1, h2, h3⟩ := cOn (d := d) (b := (dL d l 0).toNat) (c := c) (by rw [g00]; omega)
        exact cEn_y hJG hRr (fun n hn => ⟨(hU1 n hn).2.2.1, zUF_rt hU1 hn⟩) hEn (by omega) q (by omega) h1 h3 (by omega)
      refine And.intro ⟨(by omega), (zRb rfl)⟩ ⟨fun h55 => ?_, fun h55 => ?_⟩
      · refine ⟨(3, (61 - l), (17 - (c + 1))), zlt6 (by omega), [some (zvr (63)), some (zvi (n)), some (zvi (l)), some (zvi ((c + 1))), none], ⟨rfl, rfl, rfl, rfl, rfl⟩, l, n, (c + 1), rfl, rfl, rfl, rfl, rfl, rfl, (by omega), (by omega), (by omega), ?_, (zUF_fr p45bbhU2 (fun c j h => by first | exact zxu (by omega) rfl | rfl)), (by first | exact zxu (by omega) ((p45bbbfr 63 13 (by omega)).trans hc0) | exact (p45bbbfr 63 13 (by omega)).trans hc0), (fun c j h0 h1 h2 => ((p45bbbfr c j (by omega)).trans ((fr c j (by omega) (by omega) (by omega)).trans rfl)))⟩
        · first
          | (refine cEn_eq (cEn_n hRr (fun n hn => (hU1 n hn).2.2.1) hEn (by omega) (by omega)) (fun j => p45bbbfr 81 j (by omega))
             done)
          | (rw [show (n + 1).toNat = n.toNat + 1 by omega]
             refine cEn_eq (g45 (by omega)).2 (fun j => ?_)
             by_cases e : j = n.toNat
             · rw [e, upF_at]; exact zxe.trans (by omega)
             · rw [upF_ne e]; exact zxs (by omega) (p45bbbfr 81 j (by omega)))
      · refine And.intro (zA_63 hS) (zrdR (v := some 81) (zR_63_12 hR) ?_)
        refine And.intro (zA_63 hS) (zrdR (v := some 79) (zR_63_10 hR) ?_)
        refine And.intro (zP_79 hS (by omega) (by omega)) (fun v69 e69 r69 => ?_)
        have f69 : v69 = jNo d (rt (960 + 16 * l + c)) := (e69.trans ((p45bbbfr 79 _ (by omega)).trans ((fr 79 _ (by omega) (by omega) (by omega)).trans ((congrArg (I 79) (by omega)).trans (hCn.2.1 (rt (960 + 16 * l + c)) (by omega) (g45 (by omega)).1)))))
        have f69b : 0 ≤ v69 ∧ v69 ≤ 959 := (by have := jNo_lt (g45 (by omega)).1 (n := 960) (by omega); omega)
        refine And.intro (zA_63 hS) (zrdR (v := some 72) (zR_63_6 hR) ?_)
        refine And.intro (zA_72 hS) ⟨_, sn_A_at.up (by decide), ?_⟩
        refine ⟨_, _, _, (dL d), l, 3, (l : Int), (3 : Int), rfl, hS, hR, (zRw_72 hR hS), (by first | exact (zRT_fr hLR (fun c j h => ((p45bbbfr c j (by omega)).trans ((fr c j (by omega) (by omega) (by omega)).trans rfl)))) | (clear hQ; grind [xu])), (by omega), (by omega), ?_⟩
        intro v80o p80hv p80bhr
        have g80 : 0 ≤ v80o ∧ v80o ≤ 999 := (by have := (gl l (by omega)).2.2.2; omega)
        refine And.intro ⟨(zx0 rfl), (zP_81 hS (by omega) (by omega))⟩ ⟨_, (zWi (by omega)), ?_⟩
        refine ⟨(3, (61 - l), (17 - (c + 1))), zlt6 (by omega), [some (zvr (63)), some (zvi ((n + 1))), some (zvi (l)), some (zvi ((c + 1))), none], ⟨rfl, rfl, rfl, rfl, rfl⟩, l, (n + 1), (c + 1), rfl, rfl, rfl, rfl, rfl, rfl, (by omega), (by omega), (by omega), ?_, (zUF_fr p45bbhU2 (fun c j h => by first | exact zxu (by omega) rfl | rfl)), (by first | exact zxu (by omega) ((p45bbbfr 63 13 (by omega)).trans hc0) | exact (p45bbbfr 63 13 (by omega)).trans hc0), (fun c j h0 h1 h2 => (zxu h2 ((p45bbbfr c j (by omega)).trans ((fr c j (by omega) (by omega) (by omega)).trans rfl))))⟩
        · first
          | (refine cEn_eq (cEn_n hRr (fun n hn => (hU1 n hn).2.2.1) hEn (by omega) (by omega)) (fun j => p45bbbfr 81 j (by omega))
             done)
          | (rw [show (n + 1).toNat = n.toNat + 1 by omega]
             refine cEn_eq (g45 (by omega)).2 (fun j => ?_)
             by_cases e : j = n.toNat
             · rw [e, upF_at]; exact zxe.trans (by omega)
             · rw [upF_ne e]; exact zxs (by omega) (p45bbbfr 81 j (by omega)))
  · rintro nM lsM stM I1 L1 R1 S1 hz1 ⟨l, rfl, rfl, rfl, rfl, rfl, rfl, hl, hIs, h0, hnm, hU1, fr⟩
    refine And.intro (zA_63 hS) (zrdR (v := some 72) (zR_63_6 hR) ?_)
    refine And.intro (zA_72 hS) (zrd (v := (dnl d)) ((fr 72 2 (by omega) (by omega) (by omega) (by omega)).trans l2_) ?_)
    refine And.intro ⟨(by omega), (by omega)⟩ ⟨fun h123 => ?_, fun h123 => ?_⟩
    · refine hQ _ ?_ ⟨rt, hU1, hRr, hE⟩ (fun c j h0 h1 h2 h3 => ((fr c j (by omega) (by omega) (by omega) (by omega)).trans rfl))
      · obtain rfl : l = dnl d := (by omega)
        have e1 : (I1 63 13).toNat = cTot d := hIs.1
        exact And.intro ((fr 63 14 (by omega) (by omega) (by omega) (by omega)).trans hCn.1) ⟨hnm, by omega, by omega, fun k hk => hIs.2 k (by omega)⟩
    · refine And.intro (zA_63 hS) ⟨_, sn_C_iso.up (by decide), ?_⟩
      refine ⟨d, ob, (l : Int), l, rfl, hS, hR, (zDA_fr hDA (fun c j h => fr c j (by omega) (by omega) (by omega) (by omega))), (by first | exact hJG | (clear hQ; grind [xu])), ⟨rfl, by omega⟩, ?_⟩
      intro v128o p128hv
      refine And.intro (by omega) ⟨fun h131 => ?_, fun h131 => ?_⟩
      · refine ⟨(2, (61 - (l + 1)), 0), zlt6 (by omega), [some (zvr (63)), none, some (zvi ((l + 1))), none, none], ⟨rfl, rfl, rfl⟩, (l + 1), rfl, rfl, rfl, rfl, rfl, rfl, (by omega), ?_, (by first | (have w := (zxe : xu (xu I1 81 v139.toNat (100000000 + l)) 63 13 (v149 + 1) 63 13 = v149 + 1); exact ⟨by omega, by omega⟩) | exact ⟨by omega, by omega⟩), (fun m hm => by first | exact hnm m hm | exact zxu (by omega) (zxu (by omega) (hnm m hm))), (zUF_fr hU1 (fun c j h => by first | rfl | exact zxcj (by omega) (zxu (by omega) rfl))), (fun c j h0 h1 h2 h3 => ((fr c j (by omega) (by omega) (by omega) (by omega)).trans rfl))⟩
        · first
          | exact cIs_n hIs (p128hv.resolve_left (fun w => by have := w.1; omega)).2
          | (refine cIs_eq (cIs_y hIs (p128hv.resolve_right (fun w => by have := w.1; omega)).2 (by omega)) (fun j => zxu (by omega) ?_) ((congrArg Int.toNat zxe).trans (by omega))
             by_cases z : j = (I1 63 13).toNat
             · rw [z, upF_at]; exact (zxe' (by omega))
             · rw [upF_ne z]; exact zxs (by omega) rfl)
      · refine And.intro (zA_63 hS) (zrdR (v := some 81) (zR_63_12 hR) ?_)
        refine And.intro (zA_63 hS) (fun v139 e139 r139 => ?_)
        have f139 : v139 = I1 63 13 := e139
        refine And.intro ⟨(zx0 rfl), (zP_81 hS (by omega) (by omega))⟩ ⟨_, (zWi (by omega)), ?_⟩
        refine And.intro (zA_63 hS) (fun v149 e149 r149 => ?_)
        have f149 : v149 = I1 63 13 := (e149.trans (zxu (by omega) rfl))
        refine And.intro (zA_63 hS) ⟨_, (zWi (by omega)), ?_⟩
        refine ⟨(2, (61 - (l + 1)), 0), zlt6 (by omega), [some (zvr (63)), none, some (zvi ((l + 1))), none, none], ⟨rfl, rfl, rfl⟩, (l + 1), rfl, rfl, rfl, rfl, rfl, rfl, (by omega), ?_, (by first | (have w := (zxe : xu (xu I1 81 v139.toNat (100000000 + l)) 63 13 (v149 + 1) 63 13 = v149 + 1); exact ⟨by omega, by omega⟩) | exact ⟨by omega, by omega⟩), (fun m hm => by first | exact hnm m hm | exact zxu (by omega) (zxu (by omega) (hnm m hm))), (zUF_fr hU1 (fun c j h => by first | rfl | exact zxcj (by omega) (zxu (by omega) rfl))), (fun c j h0 h1 h2 h3 => (zxcj h0 (zxu h3 ((fr c j (by omega) (by omega) (by omega) (by omega)).trans rfl))))⟩
        · first
          | exact cIs_n hIs (p128hv.resolve_left (fun w => by have := w.1; omega)).2
          | (refine cIs_eq (cIs_y hIs (p128hv.resolve_right (fun w => by have := w.1; omega)).2 (by omega)) (fun j => zxu (by omega) ?_) ((congrArg Int.toNat zxe).trans (by omega))
             by_cases z : j = (I1 63 13).toNat
             · rw [z, upF_at]; exact (zxe' (by omega))
             · rw [upF_ne z]; exact zxs (by omega) rfl))
