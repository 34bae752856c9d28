/-! cd3 -/
def T_C_names : ZT := fun args I L R S Q => ∃ (d : JdS) (ob : Nat → Int) (E : Nat → Nat → Prop), args = [zvr 63] ∧ (zSh S) ∧ (zRs R) ∧ (zDA d ob I) ∧ (jGd d) ∧ (zJF 78 E I) ∧ ∀ (I' : ZI), (zCs d E (dNm d (dnl d) 0) I') → (∀ c j : Nat, ¬ c = 78 → I' c j = I c j) → Q none I' L R S
theorem sn_C_names : ZSnd 3 3 20 T_C_names := ZSnd.loops (zT3_20 2) (by
  rintro args I L R S Q hz ⟨d, ob, E, rfl, hS, hR, hDA, hJG, hJF, hQ⟩
  obtain ⟨hSR, hCS, hWR, hJR, hLR, hPR, hTR⟩ := id hDA
  obtain ⟨⟨g1, g2, g3, g4, g5, g6⟩, gs, gw, gj, gl, gp, gt⟩ := id hJG
  obtain ⟨c1_, c2_, c3_, c4_⟩ := id hSR
  obtain ⟨w1_, w2_, w3_, w4_⟩ := id hWR
  obtain ⟨j1_, j2_, j3_, j4_⟩ := id hJR
  obtain ⟨l1_, l2_, l3_, l4_⟩ := id hLR
  obtain ⟨p1_, p2_, p3_, p4_⟩ := id hPR
  obtain ⟨t1_, t2_, t3_, t4_⟩ := id hTR
  refine ⟨[2, 25], fun nM tM lsM stM I1 L1 R1 S1 => match tM with
      | 2 => ∃ (l : Nat), nM = ((61 - l), 20, 0) ∧ lsM = [some (zvr (63)), some (zvi (l)), none, none] ∧ stM = [] ∧ L1 = L ∧ R1 = R ∧ S1 = S ∧ (l ≤ dnl d) ∧ (zCs d E (dNm d l 0) I1) ∧ (∀ c j : Nat, ¬ c = 78 → I1 c j = I c j)
      | 25 => ∃ (l : Nat) (b : Nat) (c : Nat), nM = ((61 - l), (17 - c), 0) ∧ lsM = [some (zvr (63)), some (zvi (l)), some (zvi (b)), some (zvi (c))] ∧ stM = [] ∧ L1 = L ∧ R1 = R ∧ S1 = S ∧ (l < dnl d) ∧ (dL d l 0 = b ∧ b < dns d ∧ dbs d b = b) ∧ (c ≤ jNc (dbs d) b (dns d)) ∧ (zCs d E (dNm d l c) I1) ∧ (∀ c j : Nat, ¬ c = 78 → I1 c j = I c j)
      | _ => False, rfl, ?_, ⟨?_, ?_, True.intro⟩⟩
  · refine ⟨((61 - (0 : Nat)), 20, 0), [some (zvr (63)), some (zvi ((0 : Nat))), none, none], ⟨rfl, rfl, rfl⟩, 0, rfl, rfl, rfl, rfl, rfl, rfl, (by omega), (zCs_0 hJF (fun x y q => by obtain ⟨l, t, h1, -⟩ := q; omega)), (fun c j h0 => rfl)⟩
  · rintro nM lsM stM I1 L1 R1 S1 hz1 ⟨l, rfl, rfl, rfl, rfl, rfl, rfl, hl, hQ1, fr⟩
    refine And.intro (zA_63 hS) (zrdR (v := some 72) (zR_63_6 hR) ?_)
    refine And.intro (zA_72 hS) (zrd (v := (dnl d)) ((fr 72 2 (by omega)).trans l2_) ?_)
    refine And.intro ⟨(by omega), (by omega)⟩ ⟨fun h10 => ?_, fun h10 => ?_⟩
    · refine hQ _ (by obtain rfl : l = dnl d := (by omega); exact hQ1) (fun c j h0 => ((fr c j (by omega)).trans rfl))
    · refine And.intro (zA_63 hS) (zrdR (v := some 72) (zR_63_6 hR) ?_)
      refine And.intro (zA_72 hS) ⟨_, sn_A_at.up (by decide), ?_⟩
      refine ⟨_, _, _, (dL d), l, 0, (l : Int), (0 : Int), rfl, hS, hR, (zRw_72 hR hS), (by first | exact (zRT_fr hLR (fun c j h => ((fr c j (by omega)).trans rfl))) | (clear hQ; grind [xu])), (by omega), (by omega), ?_⟩
      intro v19o p19hv p19bhr
      refine ⟨((61 - l), (17 - (0 : Nat)), 0), zlt6 (by omega), [some (zvr (63)), some (zvi (l)), some (zvi ((dL d l 0).toNat)), some (zvi ((0 : Nat)))], ⟨rfl, rfl, (congrArg (fun z => some (zvi z)) (p19hv.trans (by have := (gl l (by omega)).1; omega))), rfl, rfl⟩, l, (dL d l 0).toNat, 0, rfl, rfl, rfl, rfl, rfl, rfl, (by omega), (by have := (gl l (by omega)).1; exact ⟨by omega, by omega, by omega⟩), (by omega), hQ1, (fun c j h0 => ((fr c j (by omega)).trans rfl))⟩
  · rintro nM lsM stM I1 L1 R1 S1 hz1 ⟨l, b, c, rfl, rfl, rfl, rfl, rfl, rfl, hl, hb, hc, hQ1, fr⟩
    obtain ⟨F, hJ1, hf2, hf3, hf4⟩ := id hQ1
    have hle := jNc_le (dbs d) b (dns d)
    refine And.intro (zA_63 hS) (Exists.intro _ (And.intro (zinl_ok (zT3_5 1)) (And.intro rfl ?_)))
    refine And.intro (zA_63 hS) (zrdR (v := some 65) (zR_63_2 hR) ?_)
    refine And.intro (zA_65 hS) ⟨_, sn_A_at.up (by decide), ?_⟩
    refine ⟨_, _, _, (cSR d ob), b, 4, (b : Int), (4 : Int), rfl, hS, hR, (zRw_65 hR hS), (by first | exact (zRT_fr hSR (fun c j h => ((fr c j (by omega)).trans rfl))) | (clear hQ; grind [xu])), (by omega), (by omega), ?_⟩
    intro v6_28o p6_28hv p6_28bhr
    have g6_28 : v6_28o = jNc (dbs d) b (dns d) := (p6_28hv.trans (by show cSR d ob b 4 = _; unfold cSR; rw [if_neg (by decide), if_neg (by decide), if_neg (by decide), if_neg (by decide), if_pos rfl, if_pos hb.2.2]))
    refine And.intro ⟨(by omega), (by omega)⟩ ⟨fun h31 => ?_, fun h31 => ?_⟩
    · refine ⟨((61 - (l + 1)), 20, 0), zlt6 (by omega), [some (zvr (63)), some (zvi ((l + 1))), none, none], ⟨rfl, rfl, rfl⟩, (l + 1), rfl, rfl, rfl, rfl, rfl, rfl, (by omega), (zCs_n hQ1 (fun x y q => jCl_e (by obtain rfl : c = jNc (dbs d) b (dns d) := (by omega); exact dNm_i hb.1 q))), (fun c j h0 => ((fr c j (by omega)).trans rfl))⟩
    · refine Exists.intro _ (And.intro (zinl_ok (zT3_26 1)) (And.intro rfl ?_))
      refine And.intro (zA_63 hS) (Exists.intro _ (And.intro (zinl_ok (zT3_37 1)) (And.intro rfl ?_)))
      refine And.intro (zA_63 hS) (zrdR (v := some 67) (zR_63_3 hR) ?_)
      refine And.intro (zP_67 hS (by omega) (by omega)) (fun v10_43 e10_43 r10_43 => ?_)
      have f10_43 : ∃ t : Nat, t < dns d ∧ dbs d t = b ∧ cc d t = c ∧ v10_43 = t := (by obtain ⟨t, h1, h2, h3⟩ := cOn (show c < jNc (dbs d) b (dns d) by omega); exact ⟨t, h1, h2, h3, e10_43.trans ((congrArg (I1 67) (by omega)).trans ((fr 67 (16 * b + c) (by omega)).trans (by have w := hCS t h1; rw [h2, h3] at w; exact w)))⟩)
      have f10_43b : 0 ≤ v10_43 ∧ v10_43 + 1 ≤ dns d := (by obtain ⟨t, h1, h2, h3, h4⟩ := f10_43; omega)
      refine And.intro (zA_63 hS) (zrdR (v := some 72) (zR_63_6 hR) ?_)
      refine And.intro (zA_72 hS) ⟨_, sn_A_at.up (by decide), ?_⟩
      refine ⟨_, _, _, (dL d), l, 3, (l : Int), (3 : Int), rfl, hS, hR, (zRw_72 hR hS), (by first | exact (zRT_fr hLR (fun c j h => ((fr c j (by omega)).trans rfl))) | (clear hQ; grind [xu])), (by omega), (by omega), ?_⟩
      intro v52o p52hv p52bhr
      have g52 : 0 ≤ v52o ∧ v52o ≤ 999 := (by have := (gl l (by omega)).2.2.2; omega)
      refine Exists.intro _ (And.intro (zinl_ok (zT3_29 1)) (And.intro rfl ?_))
      refine And.intro ⟨(by omega), (zRb rfl)⟩ ⟨fun h7_55 => ?_, fun h7_55 => ?_⟩
      · refine And.intro (zA_63 hS) ⟨_, sn_C_join.up (by decide), ?_⟩
        refine ⟨F, (((960 + (l * 16)) + c) : Int), (960 + 16 * l + c), (((3520 + (v10_43 * 1000)) + v52o) : Int), (jNn v10_43.toNat (dL d l 3)), rfl, hS, hR, hJ1, (by omega), (by have hn := jNn_b (t := v10_43.toNat) (n := dL d l 3) (by omega) (gl l (by omega)).2.2.2; refine ⟨?_, hn.2⟩; unfold jNn; split <;> omega), ?_⟩
        intro I58o p58hJF2 p58bfr
        refine ⟨((61 - l), (17 - (c + 1)), 0), zlt6 (by omega), [some (zvr (63)), some (zvi (l)), some (zvi (b)), some (zvi ((c + 1)))], ⟨rfl, rfl, rfl, rfl, rfl⟩, l, b, (c + 1), rfl, rfl, rfl, rfl, rfl, rfl, (by omega), hb, (by omega), ?_, (fun c j h0 => ((p58bfr c j (by omega)).trans ((fr c j (by omega)).trans rfl)))⟩
        · obtain ⟨t, h1, h2, h3, h4⟩ := f10_43
          have e : v10_43.toNat = t := (by omega)
          rw [e] at p58hJF2
          exact zCs_1 p58hJF2 hf2 hf3 hf4 (by rw [← h3]; exact jCl_e (Or.inl ⟨t, h1, Or.inr (Or.inl ⟨l, by omega, by omega, rfl, Or.inr rfl⟩)⟩)) (fun x y q => dNm_a h1 h3 h2 hb.1 q)
      · refine And.intro (zA_63 hS) ⟨_, sn_C_join.up (by decide), ?_⟩
        refine ⟨F, (((960 + (l * 16)) + c) : Int), (960 + 16 * l + c), (((3520 + 0) + v52o) : Int), (jNn v10_43.toNat (dL d l 3)), rfl, hS, hR, hJ1, (by omega), (by have hn := jNn_b (t := v10_43.toNat) (n := dL d l 3) (by omega) (gl l (by omega)).2.2.2; refine ⟨?_, hn.2⟩; unfold jNn; split <;> omega), ?_⟩
        intro I58o p58hJF2 p58bfr
        refine ⟨((61 - l), (17 - (c + 1)), 0), zlt6 (by omega), [some (zvr (63)), some (zvi (l)), some (zvi (b)), some (zvi ((c + 1)))], ⟨rfl, rfl, rfl, rfl, rfl⟩, l, b, (c + 1), rfl, rfl, rfl, rfl, rfl, rfl, (by omega), hb, (by omega), ?_, (fun c j h0 => ((p58bfr c j (by omega)).trans ((fr c j (by omega)).trans rfl)))⟩
        · obtain ⟨t, h1, h2, h3, h4⟩ := f10_43
          have e : v10_43.toNat = t := (by omega)
          rw [e] at p58hJF2
          exact zCs_1 p58hJF2 hf2 hf3 hf4 (by rw [← h3]; exact jCl_e (Or.inl ⟨t, h1, Or.inr (Or.inl ⟨l, by omega, by omega, rfl, Or.inr rfl⟩)⟩)) (fun x y q => dNm_a h1 h3 h2 hb.1 q))
def T_C_ports : ZT := fun args I L R S Q => ∃ (d : JdS) (ob : Nat → Int) (E : Nat → Nat → Prop), args = [zvr 63] ∧ (zSh S) ∧ (zRs R) ∧ (zDA d ob I) ∧ (jGd d) ∧ (zJF 78 E I) ∧ ∀ (I' : ZI), (zCs d E (dPp d (dnp d)) I') → (∀ c j : Nat, ¬ c = 78 → I' c j = I c j) → Q none I' L R S
theorem sn_C_ports : ZSnd 3 3 21 T_C_ports := ZSnd.loops (zT3_21 2) (by
  rintro args I L R S Q hz ⟨d, ob, E, rfl, hS, hR, hDA, hJG, hJF, hQ⟩
  obtain ⟨hSR, hCS, hWR, hJR, hLR, hPR, hTR⟩ := id hDA
  obtain ⟨⟨g1, g2, g3, g4, g5, g6⟩, gs, gw, gj, gl, gp, gt⟩ := id hJG
  obtain ⟨c1_, c2_, c3_, c4_⟩ := id hSR
  obtain ⟨w1_, w2_, w3_, w4_⟩ := id hWR
  obtain ⟨j1_, j2_, j3_, j4_⟩ := id hJR
  obtain ⟨l1_, l2_, l3_, l4_⟩ := id hLR
  obtain ⟨p1_, p2_, p3_, p4_⟩ := id hPR
  obtain ⟨t1_, t2_, t3_, t4_⟩ := id hTR
  refine ⟨[2], fun nM tM lsM stM I1 L1 R1 S1 => match tM with
      | 2 => ∃ (q : Nat), nM = ((31 - q), 0, 0) ∧ lsM = [some (zvr (63)), some (zvi (q)), none, none, none] ∧ stM = [] ∧ L1 = L ∧ R1 = R ∧ S1 = S ∧ (q ≤ dnp d) ∧ (zCs d E (dPp d q) I1) ∧ (∀ c j : Nat, ¬ c = 78 → I1 c j = I c j)
      | _ => False, rfl, ?_, ⟨?_, True.intro⟩⟩
  · refine ⟨((31 - (0 : Nat)), 0, 0), [some (zvr (63)), some (zvi ((0 : Nat))), none, none, none], ⟨rfl, rfl, rfl⟩, 0, rfl, rfl, rfl, rfl, rfl, rfl, (by omega), (zCs_0 hJF (fun x y q => by obtain ⟨l, h1, -⟩ := q; exact absurd h1 (Nat.not_lt_zero l))), (fun c j h0 => rfl)⟩
  · rintro nM lsM stM I1 L1 R1 S1 hz1 ⟨q, rfl, rfl, rfl, rfl, rfl, rfl, hq, hQ1, fr⟩
    obtain ⟨F, hJ1, hf2, hf3, hf4⟩ := id hQ1
    refine And.intro (zA_63 hS) (zrdR (v := some 74) (zR_63_7 hR) ?_)
    refine And.intro (zA_74 hS) (zrd (v := (dnp d)) ((fr 74 2 (by omega)).trans p2_) ?_)
    refine And.intro ⟨(by omega), (by omega)⟩ ⟨fun h10 => ?_, fun h10 => ?_⟩
    · refine hQ _ (by obtain rfl : q = dnp d := (by omega); exact hQ1) (fun c j h0 => ((fr c j (by omega)).trans rfl))
    · refine And.intro (zA_63 hS) (zrdR (v := some 74) (zR_63_7 hR) ?_)
      refine And.intro (zA_74 hS) ⟨_, sn_A_at.up (by decide), ?_⟩
      refine ⟨_, _, _, (dP d), q, 0, (q : Int), (0 : Int), rfl, hS, hR, (zRw_74 hR hS), (by first | exact (zRT_fr hPR (fun c j h => ((fr c j (by omega)).trans rfl))) | (clear hQ; grind [xu])), (by omega), (by omega), ?_⟩
      intro v19o p19hv p19bhr
      have g19 : 0 ≤ v19o ∧ v19o ≤ 59 := (by have := (gp q (by omega)).1; omega)
      have g19b : (dP d q 0).toNat + 1 ≤ dnl d := (by have := (gp q (by omega)).1; omega)
      refine And.intro (zA_63 hS) (zrdR (v := some 74) (zR_63_7 hR) ?_)
      refine And.intro (zA_74 hS) ⟨_, sn_A_at.up (by decide), ?_⟩
      refine ⟨_, _, _, (dP d), q, 1, (q : Int), (1 : Int), rfl, hS, hR, (zRw_74 hR hS), (by first | exact (zRT_fr hPR (fun c j h => ((fr c j (by omega)).trans rfl))) | (clear hQ; grind [xu])), (by omega), (by omega), ?_⟩
      intro v29o p29hv p29bhr
      have g29 : 0 ≤ v29o ∧ v29o + 1 ≤ dns d := (by have := (gp q (by omega)).2.1; omega)
      refine And.intro (zA_63 hS) (zrdR (v := some 65) (zR_63_2 hR) ?_)
      refine And.intro (zA_65 hS) ⟨_, sn_A_at.up (by decide), ?_⟩
      refine ⟨_, _, _, (cSR d ob), (dP d q 1).toNat, 1, (v29o : Int), (1 : Int), rfl, hS, hR, (zRw_65 hR hS), (by first | exact (zRT_fr hSR (fun c j h => ((fr c j (by omega)).trans rfl))) | (clear hQ; grind [xu])), (by omega), (by omega), ?_⟩
      intro v39o p39hv p39bhr
      have g39 : v39o = dpr d (dP d q 1).toNat := p39hv
      have g39b : 0 ≤ v39o ∧ v39o ≤ 15 := (by have := (gp q (by omega)).2.2.2; have := (gs (dP d q 1).toNat (by have := (gp q (by omega)).2.1; omega)).2.2.2; have := (gp q (by omega)).2.1; omega)
      refine And.intro (zA_63 hS) (zrdR (v := some 65) (zR_63_2 hR) ?_)
      refine And.intro (zA_65 hS) ⟨_, sn_A_at.up (by decide), ?_⟩
      refine ⟨_, _, _, (cSR d ob), (dP d q 1).toNat, 3, (v29o : Int), (3 : Int), rfl, hS, hR, (zRw_65 hR hS), (by first | exact (zRT_fr hSR (fun c j h => ((fr c j (by omega)).trans rfl))) | (clear hQ; grind [xu])), (by omega), (by omega), ?_⟩
      intro v52o p52hv p52bhr
      have g52 : v52o = cc d (dP d q 1).toNat := p52hv
      have g52b : 0 ≤ v52o ∧ v52o ≤ 15 := (by have := cc_16 hJG (t := (dP d q 1).toNat) (by have := (gp q (by omega)).2.1; omega); omega)
      refine Exists.intro _ (And.intro (zinl_ok (zT3_26 1)) (And.intro rfl ?_))
      refine And.intro (zA_63 hS) (zrdR (v := some 72) (zR_63_6 hR) ?_)
      refine And.intro (zA_72 hS) ⟨_, sn_A_at.up (by decide), ?_⟩
      refine ⟨_, _, _, (dL d), (dP d q 0).toNat, 3, (v19o : Int), (3 : Int), rfl, hS, hR, (zRw_72 hR hS), (by first | exact (zRT_fr hLR (fun c j h => ((fr c j (by omega)).trans rfl))) | (clear hQ; grind [xu])), (by omega), (by omega), ?_⟩
      intro v66o p66hv p66bhr
      have g66 : 0 ≤ v66o ∧ v66o ≤ 999 := (by have := (gl (dP d q 0).toNat (by have := (gp q (by omega)).1; omega)).2.2.2; omega)
      refine Exists.intro _ (And.intro (zinl_ok (zT3_29 1)) (And.intro rfl ?_))
      refine And.intro ⟨(by omega), (zRb rfl)⟩ ⟨fun h7_69 => ?_, fun h7_69 => ?_⟩
      · refine And.intro (zA_63 hS) ⟨_, sn_C_join.up (by decide), ?_⟩
        refine ⟨F, (((960 + (v19o * 16)) + v52o) : Int), (960 + 16 * (dP d q 0).toNat + cc d (dP d q 1).toNat), (((3520 + (v39o * 1000)) + v66o) : Int), (jNn (dpr d (dP d q 1).toNat).toNat (dL d (dP d q 0).toNat 3)), rfl, hS, hR, hJ1, ⟨by omega, by omega⟩, (by have hn := jNn_b (t := (dpr d (dP d q 1).toNat).toNat) (n := dL d (dP d q 0).toNat 3) (by omega) (by omega); refine ⟨?_, hn.2⟩; unfold jNn; split <;> omega), ?_⟩
        intro I72o p72hJF2 p72bfr
        refine ⟨((31 - (q + 1)), 0, 0), zlt6 (by omega), [some (zvr (63)), some (zvi ((q + 1))), none, none, none], ⟨rfl, rfl, rfl⟩, (q + 1), rfl, rfl, rfl, rfl, rfl, rfl, (by omega), (zCs_1 p72hJF2 hf2 hf3 hf4 (jCl_e (Or.inr ⟨q, by omega, rfl, rfl⟩)) (fun x y w => dPp_a ⟨rfl, rfl⟩ w)), (fun c j h0 => ((p72bfr c j (by omega)).trans ((fr c j (by omega)).trans rfl)))⟩
      · refine And.intro (zA_63 hS) ⟨_, sn_C_join.up (by decide), ?_⟩
        refine ⟨F, (((960 + (v19o * 16)) + v52o) : Int), (960 + 16 * (dP d q 0).toNat + cc d (dP d q 1).toNat), (((3520 + 0) + v66o) : Int), (jNn (dpr d (dP d q 1).toNat).toNat (dL d (dP d q 0).toNat 3)), rfl, hS, hR, hJ1, ⟨by omega, by omega⟩, (by have hn := jNn_b (t := (dpr d (dP d q 1).toNat).toNat) (n := dL d (dP d q 0).toNat 3) (by omega) (by omega); refine ⟨?_, hn.2⟩; unfold jNn; split <;> omega), ?_⟩
        intro I72o p72hJF2 p72bfr
        refine ⟨((31 - (q + 1)), 0, 0), zlt6 (by omega), [some (zvr (63)), some (zvi ((q + 1))), none, none, none], ⟨rfl, rfl, rfl⟩, (q + 1), rfl, rfl, rfl, rfl, rfl, rfl, (by omega), (zCs_1 p72hJF2 hf2 hf3 hf4 (jCl_e (Or.inr ⟨q, by omega, rfl, rfl⟩)) (fun x y w => dPp_a ⟨rfl, rfl⟩ w)), (fun c j h0 => ((p72bfr c j (by omega)).trans ((fr c j (by omega)).trans rfl)))⟩)
def T_C_all : ZT := fun args I L R S Q => ∃ (d : JdS) (ob : Nat → Int), args = [zvr 63] ∧ (zSh S) ∧ (zRs R) ∧ (zDA d ob I) ∧ (jGd d) ∧ ∀ (I' : ZI), (zJF 78 (cE d) I') → (∀ c j : Nat, ¬ c = 78 → I' c j = I c j) → Q none I' L R S
theorem sn_C_all : ZSnd 6 3 17 T_C_all := ZSnd.loops (zT3_17 5) (by
  rintro args I L R S Q hz ⟨d, ob, rfl, hS, hR, hDA, hJG, hQ⟩
  obtain ⟨hSR, hCS, hWR, hJR, hLR, hPR, hTR⟩ := id hDA
  obtain ⟨⟨g1, g2, g3, g4, g5, g6⟩, gs, gw, gj, gl, gp, gt⟩ := id hJG
  obtain ⟨c1_, c2_, c3_, c4_⟩ := id hSR
  obtain ⟨w1_, w2_, w3_, w4_⟩ := id hWR
  obtain ⟨j1_, j2_, j3_, j4_⟩ := id hJR
  obtain ⟨l1_, l2_, l3_, l4_⟩ := id hLR
  obtain ⟨p1_, p2_, p3_, p4_⟩ := id hPR
  obtain ⟨t1_, t2_, t3_, t4_⟩ := id hTR
  refine ⟨[2, 28], fun nM tM lsM stM I1 L1 R1 S1 => match tM with
      | 2 => ∃ (n : Nat), nM = (3, (19521 - n), 0) ∧ lsM = [some (zvr (63)), some (zvi (n))] ∧ stM = [] ∧ L1 = L ∧ R1 = R ∧ S1 = S ∧ (n ≤ 19520) ∧ (∀ r : Nat, r < n → I1 78 r = r) ∧ (∀ c j : Nat, ¬ c = 78 → I1 c j = I c j)
      | 28 => ∃ (j : Nat), nM = (2, (51 - j), 0) ∧ lsM = [some (zvr (63)), some (zvi (j))] ∧ stM = [] ∧ L1 = L ∧ R1 = R ∧ S1 = S ∧ (j ≤ dnj d) ∧ (zCs d (fun _ _ => False) (fun x y => dWw d (dnw d) 0 x y ∨ dJj d j x y) I1) ∧ (∀ c j : Nat, ¬ c = 78 → I1 c j = I c j)
      | _ => False, rfl, ?_, ⟨?_, ?_, True.intro⟩⟩
  · refine ⟨(3, (19521 - (0 : Nat)), 0), [some (zvr (63)), some (zvi ((0 : Nat)))], ⟨rfl, rfl, rfl⟩, 0, rfl, rfl, rfl, rfl, rfl, rfl, (by omega), (fun r h => absurd h (Nat.not_lt_zero r)), (fun c j h0 => rfl)⟩
  · rintro nM lsM stM I1 L1 R1 S1 hz1 ⟨n, rfl, rfl, rfl, rfl, rfl, rfl, hn, h0, fr⟩
    refine And.intro ⟨(by omega), (zRb rfl)⟩ ⟨fun h6 => ?_, fun h6 => ?_⟩
    · refine And.intro (zA_63 hS) ⟨_, sn_C_wires.up (by decide), ?_⟩
      refine ⟨d, ob, (fun _ _ => False), rfl, hS, hR, (zDA_fr hDA (fun c j h => fr c j (by omega))), (by first | exact hJG | (clear hQ; grind [xu])), (zJF_0 (fun r hr => h0 r (by omega))), ?_⟩
      intro I23o p23hQ2 p23bfr
      refine ⟨(2, (51 - (0 : Nat)), 0), zlt6 (by omega), [some (zvr (63)), some (zvi ((0 : Nat)))], ⟨rfl, rfl, rfl⟩, 0, rfl, rfl, rfl, rfl, rfl, rfl, (by omega), (zCs_n p23hQ2 (fun x y q => jCl_e (q.resolve_right (fun w => by obtain ⟨j, v, w, t, h1, -⟩ := w; exact absurd h1 (Nat.not_lt_zero j))))), (fun c j h0 => ((p23bfr c j (by omega)).trans ((fr c j (by omega)).trans rfl)))⟩
    · refine And.intro (zA_63 hS) (zrdR (v := some 78) (zR_63_9 hR) ?_)
      refine And.intro ⟨(zx0 rfl), (zP_78 hS (by omega) (by omega))⟩ ⟨_, (zWi (by omega)), ?_⟩
      refine ⟨(3, (19521 - (n + 1)), 0), zlt6 (by omega), [some (zvr (63)), some (zvi ((n + 1)))], ⟨rfl, rfl, rfl⟩, (n + 1), rfl, rfl, rfl, rfl, rfl, rfl, (by omega), ?_, (fun c j h0 => (zxu h0 ((fr c j (by omega)).trans rfl)))⟩
      · intro r hr
        by_cases e : r = n
        · rw [e]; exact zxe
        · exact zxs (by omega) (h0 r (by omega))
  · rintro nM lsM stM I1 L1 R1 S1 hz1 ⟨j, rfl, rfl, rfl, rfl, rfl, rfl, hj, hQ1, fr⟩
    obtain ⟨F, hJ1, hf2, hf3, hf4⟩ := id hQ1
    refine And.intro (zA_63 hS) (zrdR (v := some 70) (zR_63_5 hR) ?_)
    refine And.intro (zA_70 hS) (zrd (v := (dnj d)) ((fr 70 2 (by omega)).trans j2_) ?_)
    refine And.intro ⟨(by omega), (by omega)⟩ ⟨fun h36 => ?_, fun h36 => ?_⟩
    · refine And.intro (zA_63 hS) (zrdR (v := some 72) (zR_63_6 hR) ?_)
      refine And.intro (zA_63 hS) ⟨_, sn_C_twL.up (by decide), ?_⟩
      refine ⟨d, ob, F, rfl, hS, hR, (by first | exact (zDA_fr hDA (fun c j h => ((fr c j (by omega)).trans rfl))) | exact (zDA_fr hDA (fun c j h => ((fr c j (by omega)).trans rfl))) | (clear hQ; grind [xu])), (by first | exact hJG | (clear hQ; grind [xu])), hJ1, ?_⟩
      intro I58o p58hQ2 p58bfr
      refine And.intro (zA_63 hS) (zrdR (v := some 76) (zR_63_8 hR) ?_)
      refine And.intro (zA_63 hS) ⟨_, sn_C_twT.up (by decide), ?_⟩
      refine ⟨d, ob, (Classical.choose p58hQ2), rfl, hS, hR, (by first | exact (zDA_fr hDA (fun c j h => ((p58bfr c j (by omega)).trans ((fr c j (by omega)).trans rfl)))) | exact (zDA_fr hDA (fun c j h => ((p58bfr c j (by omega)).trans ((fr c j (by omega)).trans rfl)))) | (clear hQ; grind [xu])), (by first | exact hJG | (clear hQ; grind [xu])), (Classical.choose_spec p58hQ2).1, ?_⟩
      intro I67o p67hQ2 p67bfr
      refine And.intro (zA_63 hS) (zrdR (v := some 72) (zR_63_6 hR) ?_)
      refine And.intro (zA_63 hS) (zrdR (v := some 72) (zR_63_6 hR) ?_)
      refine And.intro (zA_63 hS) ⟨_, sn_C_spLL.up (by decide), ?_⟩
      refine ⟨d, ob, (Classical.choose p67hQ2), rfl, hS, hR, (by first | exact (zDA_fr hDA (fun c j h => ((p67bfr c j (by omega)).trans ((p58bfr c j (by omega)).trans ((fr c j (by omega)).trans rfl))))) | exact (zDA_fr hDA (fun c j h => ((p67bfr c j (by omega)).trans ((p58bfr c j (by omega)).trans ((fr c j (by omega)).trans rfl))))) | (clear hQ; grind [xu])), (by first | exact hJG | (clear hQ; grind [xu])), (Classical.choose_spec p67hQ2).1, ?_⟩
      intro I85o p85hQ2 p85bfr
      refine And.intro (zA_63 hS) (zrdR (v := some 72) (zR_63_6 hR) ?_)
      refine And.intro (zA_63 hS) (zrdR (v := some 76) (zR_63_8 hR) ?_)
      refine And.intro (zA_63 hS) ⟨_, sn_C_spLT.up (by decide), ?_⟩
      refine ⟨d, ob, (Classical.choose p85hQ2), rfl, hS, hR, (by first | exact (zDA_fr hDA (fun c j h => ((p85bfr c j (by omega)).trans ((p67bfr c j (by omega)).trans ((p58bfr c j (by omega)).trans ((fr c j (by omega)).trans rfl)))))) | exact (zDA_fr hDA (fun c j h => ((p85bfr c j (by omega)).trans ((p67bfr c j (by omega)).trans ((p58bfr c j (by omega)).trans ((fr c j (by omega)).trans rfl)))))) | (clear hQ; grind [xu])), (by first | exact hJG | (clear hQ; grind [xu])), (Classical.choose_spec p85hQ2).1, ?_⟩
      intro I101o p101hQ2 p101bfr
      refine And.intro (zA_63 hS) (zrdR (v := some 76) (zR_63_8 hR) ?_)
      refine And.intro (zA_63 hS) (zrdR (v := some 76) (zR_63_8 hR) ?_)
      refine And.intro (zA_63 hS) ⟨_, sn_C_spTT.up (by decide), ?_⟩
      refine ⟨d, ob, (Classical.choose p101hQ2), rfl, hS, hR, (by first | exact (zDA_fr hDA (fun c j h => ((p101bfr c j (by omega)).trans ((p85bfr c j (by omega)).trans ((p67bfr c j (by omega)).trans ((p58bfr c j (by omega)).trans ((fr c j (by omega)).trans rfl))))))) | exact (zDA_fr hDA (fun c j h => ((p101bfr c j (by omega)).trans ((p85bfr c j (by omega)).trans ((p67bfr c j (by omega)).trans ((p58bfr c j (by omega)).trans ((fr c j (by omega)).trans rfl))))))) | (clear hQ; grind [xu])), (by first | exact hJG | (clear hQ; grind [xu])), (Classical.choose_spec p101hQ2).1, ?_⟩
      intro I115o p115hQ2 p115bfr
      refine And.intro (zA_63 hS) ⟨_, sn_C_names.up (by decide), ?_⟩
      refine ⟨d, ob, (Classical.choose p115hQ2), rfl, hS, hR, (by first | exact (zDA_fr hDA (fun c j h => ((p115bfr c j (by omega)).trans ((p101bfr c j (by omega)).trans ((p85bfr c j (by omega)).trans ((p67bfr c j (by omega)).trans ((p58bfr c j (by omega)).trans ((fr c j (by omega)).trans rfl)))))))) | exact (zDA_fr hDA (fun c j h => ((p115bfr c j (by omega)).trans ((p101bfr c j (by omega)).trans ((p85bfr c j (by omega)).trans ((p67bfr c j (by omega)).trans ((p58bfr c j (by omega)).trans ((fr c j (by omega)).trans rfl)))))))) | (clear hQ; grind [xu])), (by first | exact hJG | (clear hQ; grind [xu])), (Classical.choose_spec p115hQ2).1, ?_⟩
      intro I119o p119hQ2 p119bfr
      refine And.intro (zA_63 hS) ⟨_, sn_C_ports.up (by decide), ?_⟩
      refine ⟨d, ob, (Classical.choose p119hQ2), rfl, hS, hR, (by first | exact (zDA_fr hDA (fun c j h => ((p119bfr c j (by omega)).trans ((p115bfr c j (by omega)).trans ((p101bfr c j (by omega)).trans ((p85bfr c j (by omega)).trans ((p67bfr c j (by omega)).trans ((p58bfr c j (by omega)).trans ((fr c j (by omega)).trans rfl))))))))) | exact (zDA_fr hDA (fun c j h => ((p119bfr c j (by omega)).trans ((p115bfr c j (by omega)).trans ((p101bfr c j (by omega)).trans ((p85bfr c j (by omega)).trans ((p67bfr c j (by omega)).trans ((p58bfr c j (by omega)).trans ((fr c j (by omega)).trans rfl))))))))) | (clear hQ; grind [xu])), (by first | exact hJG | (clear hQ; grind [xu])), (Classical.choose_spec p119hQ2).1, ?_⟩
      intro I123o p123hQ2 p123bfr
      refine hQ _ ?_ (fun c j h0 => ((p123bfr c j (by omega)).trans ((p119bfr c j (by omega)).trans ((p115bfr c j (by omega)).trans ((p101bfr c j (by omega)).trans ((p85bfr c j (by omega)).trans ((p67bfr c j (by omega)).trans ((p58bfr c j (by omega)).trans ((fr c j (by omega)).trans rfl)))))))))
      · obtain rfl : j = dnj d := (by omega)
        have k0 := Classical.choose_spec p58hQ2
        have k1 := Classical.choose_spec p67hQ2
        have k2 := Classical.choose_spec p85hQ2
        have k3 := Classical.choose_spec p101hQ2
        have k4 := Classical.choose_spec p115hQ2
        have k5 := Classical.choose_spec p119hQ2
        have s0 := zCs_t hf2 hf3 hf4 p58hQ2
        have m : ∀ {A B : Nat → Nat → Prop}, (∀ x y, A x y → B x y) → ∀ {x y}, jCl A x y → jCl B x y := @fun A B q x y w => jCl_m (fun a b k => jCl_e (q a b k)) w
        have t0 : ∀ x y, F x y → Classical.choose p58hQ2 x y := k0.2.1
        have t1 : ∀ x y, Classical.choose p58hQ2 x y → Classical.choose p67hQ2 x y := k1.2.1
        have t2 : ∀ x y, Classical.choose p67hQ2 x y → Classical.choose p85hQ2 x y := k2.2.1
        have t3 : ∀ x y, Classical.choose p85hQ2 x y → Classical.choose p101hQ2 x y := k3.2.1
        have t4 : ∀ x y, Classical.choose p101hQ2 x y → Classical.choose p115hQ2 x y := k4.2.1
        have t5 : ∀ x y, Classical.choose p115hQ2 x y → Classical.choose p119hQ2 x y := k5.2.1
        obtain ⟨G, l1, l2, l3, l4⟩ := p123hQ2
        have u5 : ∀ x y, Classical.choose p115hQ2 x y → G x y := fun x y q => l2 x y (t5 x y q)
        have u4 : ∀ x y, Classical.choose p101hQ2 x y → G x y := fun x y q => u5 x y (t4 x y q)
        have u3 : ∀ x y, Classical.choose p85hQ2 x y → G x y := fun x y q => u4 x y (t3 x y q)
        have u2 : ∀ x y, Classical.choose p67hQ2 x y → G x y := fun x y q => u3 x y (t2 x y q)
        have u1 : ∀ x y, Classical.choose p58hQ2 x y → G x y := fun x y q => u2 x y (t1 x y q)
        have u0 : ∀ x y, F x y → G x y := fun x y q => u1 x y (t0 x y q)
        refine zCs_end (D := fun x y => jCl G x y) hJG ⟨G, l1, fun x y q => q.elim, fun x y q => ?_, fun x y q => q⟩ (fun x y q => m u0 (hf4 x y (Or.inl q))) (fun x y q => m u0 (hf4 x y (Or.inr q))) (fun x y q => m u1 (k0.2.2.2 x y q)) (fun x y q => m u2 (k1.2.2.2 x y q)) (fun x y q => m u3 (k2.2.2.2 x y q)) (fun x y q => m u4 (k3.2.2.2 x y q)) (fun x y q => m u5 (k4.2.2.2 x y q)) (fun x y q => m l2 (k5.2.2.2 x y q)) (fun x y q => l4 x y q)
        rcases l3 x y q with w | w
        · rcases k5.2.2.1 x y w with w | w
          · rcases k4.2.2.1 x y w with w | w
            · rcases k3.2.2.1 x y w with w | w
              · rcases k2.2.2.1 x y w with w | w
                · rcases k1.2.2.1 x y w with w | w
                  · rcases k0.2.2.1 x y w with w | w
                    · exact hf3 x y w
                    · exact Or.inr w
                  · exact Or.inr w
                · exact Or.inr w
              · exact Or.inr w
            · exact Or.inr w
          · exact Or.inr w
        · exact Or.inr w
    · refine And.intro (zA_63 hS) ⟨_, sn_C_junc.up (by decide), ?_⟩
      refine ⟨d, ob, F, (j : Int), j, rfl, hS, hR, (zDA_fr hDA (fun c j h => fr c j (by omega))), (by first | exact hJG | (clear hQ; grind [xu])), hJ1, ⟨rfl, by omega⟩, ?_⟩
      intro I41o p41hQ2 p41bfr
      refine ⟨(2, (51 - (j + 1)), 0), zlt6 (by omega), [some (zvr (63)), some (zvi ((j + 1)))], ⟨rfl, rfl, rfl⟩, (j + 1), rfl, rfl, rfl, rfl, rfl, rfl, (by omega), (zCs_n (zCs_t hf2 hf3 hf4 p41hQ2) (fun x y q => jCl_e (by rcases q with q | q; exact Or.inl (Or.inl q); rcases dJj_s q with w | w; exact Or.inl (Or.inr w); exact Or.inr w))), (fun c j h0 => ((p41bfr c j (by omega)).trans ((fr c j (by omega)).trans rfl)))⟩)
