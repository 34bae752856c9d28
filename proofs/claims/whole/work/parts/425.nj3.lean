/-! nj3 -/
def T_J_sheet : ZT := fun args I L R S Q => ∃ (k : Nat) (d : JdS) (E : Nat → Nat → Prop) (tt : Int) (t : Nat), args = [zvr k, zvi tt] ∧ (zDy zT18 zF18 k R S) ∧ (zNJ k d I L) ∧ (jGd d) ∧ (zJF (k + 18) E I) ∧ (tt = t ∧ t < dns d) ∧ ∀ (I' : ZI), (zSh2 (k + 18) d t E (dnl d) (dnt d) I') → (∀ c j : Nat, ¬ c = k + 18 → I' c j = I c j) → Q none I' L R S
theorem sn_J_sheet : ZSnd 4 18 16 T_J_sheet := ZSnd.loops (zT18_16 3) (by
  rintro args I L R S Q hz ⟨k, d, E, tt, t, rfl, hd, hNJ, hJG, hJF, ht, hQ⟩
  have h5 := hd.1
  obtain ⟨⟨n1, n2, n3, n4, n5, n6, n7⟩, nS, nW, nD, nJ, nL, nT, nO, nP, nR⟩ := id hNJ
  obtain ⟨⟨g1, g2, g3, g4, g5, g6⟩, gs, gw, gj, gl, gp, gt⟩ := id hJG
  have hdt := gs t ht.2
  refine ⟨[15, 99], fun nM tM lsM stM I1 L1 R1 S1 => match tM with
      | 15 => ∃ (l : Nat), nM = (2, (61 - l), 0) ∧ lsM = [some (zvr (k)), some (zvi (t)), some (zvi (dbs d t)), some (zvi (l)), none] ∧ stM = [] ∧ L1 = L ∧ R1 = R ∧ S1 = S ∧ (l ≤ dnl d) ∧ (zSh2 (k + 18) d t E l 0 I1) ∧ (∀ c j : Nat, ¬ c = k + 18 → I1 c j = I c j)
      | 99 => ∃ (p : Nat), nM = (1, (61 - p), 0) ∧ lsM = [some (zvr (k)), some (zvi (t)), some (zvi (dbs d t)), some (zvi (p)), none] ∧ stM = [] ∧ L1 = L ∧ R1 = R ∧ S1 = S ∧ (p ≤ dnt d) ∧ (zSh2 (k + 18) d t E (dnl d) p I1) ∧ (∀ c j : Nat, ¬ c = k + 18 → I1 c j = I c j)
      | _ => False, rfl, ?_, ⟨?_, ?_, True.intro⟩⟩
  · refine And.intro (zDX hd 0 rfl) (zrdR (v := some (k + 2)) (zDR hd 1 rfl) ?_)
    refine And.intro (zDP hd 2 rfl rfl (by omega) (by omega)) (fun v5 e5 r5 => ?_)
    have f5 : v5 = dbs d t := (e5.trans ((congrArg (I (k + 2)) (by omega)).trans (nS t ht.2).2))
    refine And.intro (zDX hd 0 rfl) ⟨_, sn_J_wires.up (by decide), ?_⟩
    refine ⟨k, d, E, (tt : Int), t, (v5 : Int), rfl, hd, (by first | exact (zNJ_fr hNJ (fun c j h => rfl) (fun c j h => rfl)) | (clear hQ; grind [xu])), (by first | exact hJG | (clear hQ; grind [xu])), (by first | exact (zJF_fr hJF (fun c j h => rfl)) | (clear hQ; grind [xu])), ⟨by omega, ht.2⟩, (by omega), ?_⟩
    intro I10o p10hS2 p10bfr
    refine ⟨(2, (61 - (0 : Nat)), 0), [some (zvr (k)), some (zvi (t)), some (zvi (dbs d t)), some (zvi ((0 : Nat))), none], ⟨rfl, (congrArg (fun z => some (zvi z)) (by omega)), (congrArg (fun z => some (zvi z)) f5), rfl, rfl⟩, 0, rfl, rfl, rfl, rfl, rfl, rfl, (by omega), (zSh2_0 p10hS2), (fun c j h0 => ((p10bfr c j (by omega)).trans rfl))⟩
  · rintro nM lsM stM I1 L1 R1 S1 hz1 ⟨l, rfl, rfl, rfl, rfl, rfl, rfl, hl, hS, fr⟩
    obtain ⟨F, q1, q2, q3, q4⟩ := id hS
    refine And.intro (zDX hd 0 rfl) (zrd (v := (dnl d)) ((fr k 11 (by omega)).trans n4) ?_)
    refine And.intro ⟨(by omega), (by omega)⟩ ⟨fun h20 => ?_, fun h20 => ?_⟩
    · refine ⟨(1, (61 - (0 : Nat)), 0), zlt6 (by omega), [some (zvr (k)), some (zvi (t)), some (zvi (dbs d t)), some (zvi ((0 : Nat))), none], ⟨rfl, rfl, rfl, rfl, rfl⟩, 0, rfl, rfl, rfl, rfl, rfl, rfl, (by omega), (by obtain rfl : l = dnl d := (by omega); exact hS), (fun c j h0 => ((fr c j (by omega)).trans rfl))⟩
    · refine And.intro (zDX hd 0 rfl) (zrdR (v := some (k + 8)) (zDR hd 7 rfl) ?_)
      refine And.intro (zDP hd 8 rfl rfl (by omega) (by omega)) (fun v28 e28 r28 => ?_)
      have f28 : v28 = dL d l 0 := (e28.trans ((congrArg (I1 (k + 8)) (by omega)).trans ((fr (k + 8) l (by omega)).trans ((nL l (by omega)).1))))
      refine And.intro ⟨r28, (by omega)⟩ ⟨fun h30 => ?_, fun h30 => ?_⟩
      · refine And.intro (zDX hd 0 rfl) (zrdR (v := some (k + 10)) (zDR hd 9 rfl) ?_)
        refine And.intro (zDP hd 10 rfl rfl (by omega) (by omega)) (fun v60 e60 r60 => ?_)
        have f60 : v60 = dL d l 1 := (e60.trans ((congrArg (L1 (k + 10)) (by omega)).trans (nL l (by omega)).2.2.1))
        refine And.intro (zDX hd 0 rfl) (zrdR (v := some (k + 10)) (zDR hd 9 rfl) ?_)
        refine And.intro (zDP hd 10 rfl rfl (by omega) (by omega)) (fun v70 e70 r70 => ?_)
        have f70 : v70 = dL d l 2 := (e70.trans ((congrArg (L1 (k + 10)) (by omega)).trans (nL l (by omega)).2.2.2))
        refine And.intro (zDX hd 0 rfl) ⟨_, sn_J_place.up (by decide), ?_⟩
        refine ⟨k, d, F, (((1600 + (16 * l)) + t) : Int), (1600 + 16 * l + t), (t : Int), t, ((dbs d t) : Int), (v60 : Int), (v70 : Int), rfl, hd, (zNJ_fr hNJ (fun c j h => fr c j (by omega)) (fun c j h => rfl)), (by first | exact hJG | (clear hQ; grind [xu])), q1, ⟨rfl, ht.2⟩, rfl, ⟨by omega, by omega⟩, (by rw [f60, f70]; exact ⟨(gl l (by omega)).2.1, (gl l (by omega)).2.2.1⟩), ?_⟩
        intro I71o p71hS2 p71bfr
        have g71 : ∃ G, zJF (k + 18) G I71o ∧ jGa d t (1600 + 16 * l + t) (dL d l 1) (dL d l 2) F G ∧ ∀ b, jAq d t (dL d l 1) (dL d l 2) (dnw d) (dnl d) (dnt d) b → G (1600 + 16 * l + t) b := (by rw [← f60, ← f70]; exact p71hS2)
        refine And.intro (zDX hd 0 rfl) (zrdR (v := some (k + 9)) (zDR hd 8 rfl) ?_)
        refine And.intro (zDP hd 9 rfl rfl (by omega) (by omega)) (fun v84 e84 r84 => ?_)
        have f84 : v84 = dL d l 3 := (e84.trans ((congrArg (I71o (k + 9)) (by omega)).trans ((p71bfr (k + 9) l (by omega)).trans ((fr (k + 9) l (by omega)).trans (nL l (by omega)).2.1))))
        have f84b : 0 ≤ v84 ∧ v84 ≤ 999 := (by have := (gl l (by omega)).2.2.2; omega)
        refine And.intro (zDX hd 0 rfl) (Exists.intro _ (And.intro (zinl_ok (zT18_24 2)) (And.intro rfl ?_)))
        refine And.intro ⟨r84, (zRb rfl)⟩ ⟨fun h7_85 => ?_, fun h7_85 => ?_⟩
        · refine And.intro (zDX hd 0 rfl) ⟨_, sn_J_join.up (by decide), ?_⟩
          refine ⟨k, _, (((1600 + (16 * l)) + t) : Int), (1600 + 16 * l + t), (((3520 + (1000 * t)) + v84) : Int), (jNn t (dL d l 3)), rfl, hd, (Classical.choose_spec g71).1, ⟨by omega, by omega⟩, (by have hb := jNn_b (t := t) (n := dL d l 3) (by omega) (gl l (by omega)).2.2.2; refine ⟨?_, hb.2⟩; unfold jNn; split <;> omega), ?_⟩
          intro I88o p88hJF2 p88bfr
          refine ⟨(2, (61 - (l + 1)), 0), zlt6 (by omega), [some (zvr (k)), some (zvi (t)), some (zvi (dbs d t)), some (zvi ((l + 1))), none], ⟨rfl, rfl, rfl, rfl, rfl⟩, (l + 1), rfl, rfl, rfl, rfl, rfl, rfl, (by omega), ?_, (fun c j h0 => ((p88bfr c j (by omega)).trans ((p71bfr c j (by omega)).trans ((fr c j (by omega)).trans rfl))))⟩
          · first
            | (have w := Classical.choose_spec g71
               exact zSh2_l p88hJF2 q2 q3 q4 (by omega) (by omega) w.2.1 w.2.2)
            | exact zSh2_ln hS (by omega)
        · refine And.intro (zDX hd 0 rfl) ⟨_, sn_J_join.up (by decide), ?_⟩
          refine ⟨k, _, (((1600 + (16 * l)) + t) : Int), (1600 + 16 * l + t), (((3520 + 0) + v84) : Int), (jNn t (dL d l 3)), rfl, hd, (Classical.choose_spec g71).1, ⟨by omega, by omega⟩, (by have hb := jNn_b (t := t) (n := dL d l 3) (by omega) (gl l (by omega)).2.2.2; refine ⟨?_, hb.2⟩; unfold jNn; split <;> omega), ?_⟩
          intro I88o p88hJF2 p88bfr
          refine ⟨(2, (61 - (l + 1)), 0), zlt6 (by omega), [some (zvr (k)), some (zvi (t)), some (zvi (dbs d t)), some (zvi ((l + 1))), none], ⟨rfl, rfl, rfl, rfl, rfl⟩, (l + 1), rfl, rfl, rfl, rfl, rfl, rfl, (by omega), ?_, (fun c j h0 => ((p88bfr c j (by omega)).trans ((p71bfr c j (by omega)).trans ((fr c j (by omega)).trans rfl))))⟩
          · first
            | (have w := Classical.choose_spec g71
               exact zSh2_l p88hJF2 q2 q3 q4 (by omega) (by omega) w.2.1 w.2.2)
            | exact zSh2_ln hS (by omega)
      · refine ⟨(2, (61 - (l + 1)), 0), zlt6 (by omega), [some (zvr (k)), some (zvi (t)), some (zvi (dbs d t)), some (zvi ((l + 1))), none], ⟨rfl, rfl, rfl, rfl, rfl⟩, (l + 1), rfl, rfl, rfl, rfl, rfl, rfl, (by omega), ?_, (fun c j h0 => ((fr c j (by omega)).trans rfl))⟩
        · first
          | (have w := Classical.choose_spec g71
             exact zSh2_l p88hJF2 q2 q3 q4 (by omega) (by omega) w.2.1 w.2.2)
          | exact zSh2_ln hS (by omega)
  · rintro nM lsM stM I1 L1 R1 S1 hz1 ⟨p, rfl, rfl, rfl, rfl, rfl, rfl, hp, hS, fr⟩
    obtain ⟨F, q1, q2, q3, q4⟩ := id hS
    refine And.intro (zDX hd 0 rfl) (zrd (v := (dnt d)) ((fr k 15 (by omega)).trans n5) ?_)
    refine And.intro ⟨(by omega), (by omega)⟩ ⟨fun h104 => ?_, fun h104 => ?_⟩
    · refine hQ _ (by obtain rfl : p = dnt d := (by omega); exact hS) (fun c j h0 => ((fr c j (by omega)).trans rfl))
    · refine And.intro (zDX hd 0 rfl) (zrdR (v := some (k + 11)) (zDR hd 10 rfl) ?_)
      refine And.intro (zDP hd 11 rfl rfl (by omega) (by omega)) (fun v112 e112 r112 => ?_)
      have f112 : v112 = dT d p 0 := (e112.trans ((congrArg (I1 (k + 11)) (by omega)).trans ((fr (k + 11) p (by omega)).trans ((nT p (by omega)).1))))
      refine And.intro ⟨r112, (by omega)⟩ ⟨fun h114 => ?_, fun h114 => ?_⟩
      · refine ⟨(1, (61 - (p + 1)), 0), zlt6 (by omega), [some (zvr (k)), some (zvi (t)), some (zvi (dbs d t)), some (zvi ((p + 1))), none], ⟨rfl, rfl, rfl, rfl, rfl⟩, (p + 1), rfl, rfl, rfl, rfl, rfl, rfl, (by omega), ?_, (fun c j h0 => ((fr c j (by omega)).trans rfl))⟩
        · first
          | (have w := p148hS2
             rw [f137, f147] at w
             obtain ⟨G, w1, w2, w3⟩ := w
             exact zSh2_p w1 q2 q3 q4 (by omega) (by omega) w2 w3)
          | exact zSh2_pn hS (by omega)
      · refine And.intro (zDX hd 0 rfl) (zrdR (v := some (k + 13)) (zDR hd 12 rfl) ?_)
        refine And.intro (zDP hd 13 rfl rfl (by omega) (by omega)) (fun v137 e137 r137 => ?_)
        have f137 : v137 = dT d p 1 := (e137.trans ((congrArg (L1 (k + 13)) (by omega)).trans (nT p (by omega)).2.2.1))
        refine And.intro (zDX hd 0 rfl) (zrdR (v := some (k + 13)) (zDR hd 12 rfl) ?_)
        refine And.intro (zDP hd 13 rfl rfl (by omega) (by omega)) (fun v147 e147 r147 => ?_)
        have f147 : v147 = dT d p 2 := (e147.trans ((congrArg (L1 (k + 13)) (by omega)).trans (nT p (by omega)).2.2.2))
        refine And.intro (zDX hd 0 rfl) ⟨_, sn_J_place.up (by decide), ?_⟩
        refine ⟨k, d, F, (((2560 + (16 * p)) + t) : Int), (2560 + 16 * p + t), (t : Int), t, ((dbs d t) : Int), (v137 : Int), (v147 : Int), rfl, hd, (zNJ_fr hNJ (fun c j h => fr c j (by omega)) (fun c j h => rfl)), (by first | exact hJG | (clear hQ; grind [xu])), q1, ⟨rfl, ht.2⟩, rfl, ⟨by omega, by omega⟩, (by rw [f137, f147]; exact ⟨(gt p (by omega)).2.1, (gt p (by omega)).2.2⟩), ?_⟩
        intro I148o p148hS2 p148bfr
        refine ⟨(1, (61 - (p + 1)), 0), zlt6 (by omega), [some (zvr (k)), some (zvi (t)), some (zvi (dbs d t)), some (zvi ((p + 1))), none], ⟨rfl, rfl, rfl, rfl, rfl⟩, (p + 1), rfl, rfl, rfl, rfl, rfl, rfl, (by omega), ?_, (fun c j h0 => ((p148bfr c j (by omega)).trans ((fr c j (by omega)).trans rfl)))⟩
        · first
          | (have w := p148hS2
             rw [f137, f147] at w
             obtain ⟨G, w1, w2, w3⟩ := w
             exact zSh2_p w1 q2 q3 q4 (by omega) (by omega) w2 w3)
          | exact zSh2_pn hS (by omega))
def T_J_all : ZT := fun args I L R S Q => ∃ (k : Nat) (d : JdS), args = [zvr k] ∧ (zDy zT18 zF18 k R S) ∧ (zNJ k d I L) ∧ (jGd d) ∧ ∀ (I' : ZI), (zJF (k + 18) (jE d) I') → (∀ c j : Nat, ¬ c = k + 18 → I' c j = I c j) → Q none I' L R S
theorem sn_J_all : ZSnd 5 18 13 T_J_all := ZSnd.loops (zT18_13 4) (by
  rintro args I L R S Q hz ⟨k, d, rfl, hd, hNJ, hJG, hQ⟩
  have h5 := hd.1
  obtain ⟨⟨n1, n2, n3, n4, n5, n6, n7⟩, nS, nW, nD, nJ, nL, nT, nO, nP, nR⟩ := id hNJ
  obtain ⟨⟨g1, g2, g3, g4, g5, g6⟩, gs, gw, gj, gl, gp, gt⟩ := id hJG
  refine ⟨[2, 24, 39, 104], fun nM tM lsM stM I1 L1 R1 S1 => match tM with
      | 2 => ∃ (n : Nat), nM = (5, (19521 - n), 0) ∧ lsM = [some (zvr (k)), some (zvi (n)), none, none, none] ∧ stM = [] ∧ L1 = L ∧ R1 = R ∧ S1 = S ∧ (n ≤ 19520) ∧ (∀ r : Nat, r < n → I1 (k + 18) r = r) ∧ (∀ c j : Nat, ¬ c = k + 18 → I1 c j = I c j)
      | 24 => ∃ (t : Nat), nM = (4, (17 - t), 20) ∧ lsM = [some (zvr (k)), some (zvi (t)), none, none, none] ∧ stM = [] ∧ L1 = L ∧ R1 = R ∧ S1 = S ∧ (t ≤ dns d) ∧ (zSa (k + 18) d t 0 I1) ∧ (∀ c j : Nat, ¬ c = k + 18 → I1 c j = I c j)
      | 39 => ∃ (t : Nat) (u : Nat), nM = (4, (17 - t), (17 - u)) ∧ lsM = [some (zvr (k)), some (zvi (t)), some (zvi (u)), none, none] ∧ stM = [] ∧ L1 = L ∧ R1 = R ∧ S1 = S ∧ (t < dns d ∧ u ≤ dns d) ∧ (zSa (k + 18) d (t + 1) 0 I1) ∧ (∀ c j : Nat, ¬ c = k + 18 → I1 c j = I c j)
      | 104 => ∃ (q : Nat), nM = (3, (31 - q), 0) ∧ lsM = [some (zvr (k)), some (zvi (q)), none, none, none] ∧ stM = [] ∧ L1 = L ∧ R1 = R ∧ S1 = S ∧ (q ≤ dnp d) ∧ (zSa (k + 18) d (dns d) q I1) ∧ (∀ c j : Nat, ¬ c = k + 18 → I1 c j = I c j)
      | _ => False, rfl, ?_, ⟨?_, ?_, ?_, ?_, True.intro⟩⟩
  · refine ⟨(5, (19521 - (0 : Nat)), 0), [some (zvr (k)), some (zvi ((0 : Nat))), none, none, none], ⟨rfl, rfl, rfl⟩, 0, rfl, rfl, rfl, rfl, rfl, rfl, (by omega), (fun r h => absurd h (Nat.not_lt_zero r)), (fun c j h0 => rfl)⟩
  · rintro nM lsM stM I1 L1 R1 S1 hz1 ⟨n, rfl, rfl, rfl, rfl, rfl, rfl, hn, h0, fr⟩
    refine And.intro ⟨(by omega), (zRb rfl)⟩ ⟨fun h6 => ?_, fun h6 => ?_⟩
    · refine ⟨(4, (17 - (0 : Nat)), 20), zlt6 (by omega), [some (zvr (k)), some (zvi ((0 : Nat))), none, none, none], ⟨rfl, rfl, rfl⟩, 0, rfl, rfl, rfl, rfl, rfl, rfl, (by omega), (zSa_0 (fun r hr => h0 r (by omega))), (fun c j h0 => ((fr c j (by omega)).trans rfl))⟩
    · refine And.intro (zDX hd 0 rfl) (zrdR (v := some (k + 18)) (zDR hd 17 rfl) ?_)
      refine And.intro ⟨(by show 40 ≤ _; omega), (zDP hd 18 rfl rfl (by omega) (by omega))⟩ ⟨_, (zWi (by omega)), ?_⟩
      refine ⟨(5, (19521 - (n + 1)), 0), zlt6 (by omega), [some (zvr (k)), some (zvi ((n + 1))), none, none, none], ⟨rfl, rfl, rfl⟩, (n + 1), rfl, rfl, rfl, rfl, rfl, rfl, (by omega), ?_, (fun c j h0 => (zxu h0 ((fr c j (by omega)).trans rfl)))⟩
      · intro r hr
        by_cases e : r = n
        · rw [e]; exact zxe
        · exact zxs (by omega) (h0 r (by omega))
  · rintro nM lsM stM I1 L1 R1 S1 hz1 ⟨t, rfl, rfl, rfl, rfl, rfl, rfl, ht, hS, fr⟩
    obtain ⟨F, q1, q2, q3, q4⟩ := id hS
    refine And.intro (zDX hd 0 rfl) (zrd (v := (dns d)) ((fr k 1 (by omega)).trans n1) ?_)
    refine And.intro ⟨(by omega), (by omega)⟩ ⟨fun h29 => ?_, fun h29 => ?_⟩
    · refine ⟨(3, (31 - (0 : Nat)), 0), zlt6 (by omega), [some (zvr (k)), some (zvi ((0 : Nat))), none, none, none], ⟨rfl, rfl, rfl⟩, 0, rfl, rfl, rfl, rfl, rfl, rfl, (by omega), (by obtain rfl : t = dns d := (by omega); exact hS), (fun c j h0 => ((fr c j (by omega)).trans rfl))⟩
    · refine And.intro (zDX hd 0 rfl) ⟨_, sn_J_sheet.up (by decide), ?_⟩
      refine ⟨k, d, F, (t : Int), t, rfl, hd, (zNJ_fr hNJ (fun c j h => fr c j (by omega)) (fun c j h => rfl)), (by first | exact hJG | (clear hQ; grind [xu])), q1, ⟨rfl, by omega⟩, ?_⟩
      intro I34o p34hS2 p34bfr
      refine ⟨(4, (17 - t), (17 - (0 : Nat))), zlt6 (by omega), [some (zvr (k)), some (zvi (t)), some (zvi ((0 : Nat))), none, none], ⟨rfl, rfl, rfl, rfl⟩, t, 0, rfl, rfl, rfl, rfl, rfl, rfl, (by omega), (by obtain ⟨G, w1, w2, w3, w4⟩ := p34hS2; exact zSa_s w1 q2 q3 w2 (by omega) (jEt_all w3 w4)), (fun c j h0 => ((p34bfr c j (by omega)).trans ((fr c j (by omega)).trans rfl)))⟩
  · rintro nM lsM stM I1 L1 R1 S1 hz1 ⟨t, u, rfl, rfl, rfl, rfl, rfl, rfl, ht, hS, fr⟩
    refine And.intro (zDX hd 0 rfl) (zrd (v := (dns d)) ((fr k 1 (by omega)).trans n1) ?_)
    refine And.intro ⟨(by omega), (by omega)⟩ ⟨fun h44 => ?_, fun h44 => ?_⟩
    · refine ⟨(4, (17 - (t + 1)), 20), zlt6 (by omega), [some (zvr (k)), some (zvi ((t + 1))), none, none, none], ⟨rfl, rfl, rfl⟩, (t + 1), rfl, rfl, rfl, rfl, rfl, rfl, (by omega), hS, (fun c j h0 => ((fr c j (by omega)).trans rfl))⟩
    · refine And.intro (zDX hd 0 rfl) (zrd (v := 0) ((fr k 22 (by omega)).trans n7) ?_)
      refine And.intro ⟨(zRb rfl), (zRb rfl)⟩ (zbt rfl ?_)
      refine ⟨(4, (17 - t), (17 - (u + 1))), zlt6 (by omega), [some (zvr (k)), some (zvi (t)), some (zvi ((u + 1))), none, none], ⟨rfl, rfl, rfl, rfl⟩, t, (u + 1), rfl, rfl, rfl, rfl, rfl, rfl, (by omega), hS, (fun c j h0 => ((fr c j (by omega)).trans rfl))⟩
  · rintro nM lsM stM I1 L1 R1 S1 hz1 ⟨q, rfl, rfl, rfl, rfl, rfl, rfl, hq, hS, fr⟩
    obtain ⟨F, q1, q2, q3, q4⟩ := id hS
    refine And.intro (zDX hd 0 rfl) (zrd (v := (dnp d)) ((fr k 20 (by omega)).trans n6) ?_)
    refine And.intro ⟨(by omega), (by omega)⟩ ⟨fun h109 => ?_, fun h109 => ?_⟩
    · refine hQ _ (zSa_end hJG (by obtain rfl : q = dnp d := (by omega); exact hS)) (fun c j h0 => ((fr c j (by omega)).trans rfl))
    · refine And.intro (zDX hd 0 rfl) (zrdR (v := some (k + 15)) (zDR hd 14 rfl) ?_)
      refine And.intro (zDP hd 15 rfl rfl (by omega) (by omega)) (fun v119 e119 r119 => ?_)
      have f119 : v119 = dP d q 1 := (e119.trans ((congrArg (I1 (k + 15)) (by omega)).trans ((fr (k + 15) (3 * q + 0) (by omega)).trans (nP q (by omega)).1)))
      have f119b : 0 ≤ v119 ∧ v119 ≤ 15 := (by have := (gp q (by omega)).2.1; omega)
      refine And.intro (zDX hd 0 rfl) (zrdR (v := some (k + 15)) (zDR hd 14 rfl) ?_)
      refine And.intro (zDP hd 15 rfl rfl (by omega) (by omega)) (fun v136 e136 r136 => ?_)
      have f136 : v136 = dP d q 0 := (e136.trans ((congrArg (I1 (k + 15)) (by omega)).trans ((fr (k + 15) (3 * q + 1) (by omega)).trans (nP q (by omega)).2.1)))
      have f136b : 0 ≤ v136 ∧ v136 ≤ 59 := (by have := (gp q (by omega)).1; omega)
      refine And.intro (zDX hd 0 rfl) (zrdR (v := some (k + 1)) (zDR hd 0 rfl) ?_)
      refine And.intro (zDP hd 1 rfl rfl (by omega) (by omega)) (fun v147 e147 r147 => ?_)
      have f147 : v147 = dpr d (dP d q 1).toNat := (e147.trans ((congrArg (I1 (k + 1)) (by rw [f119])).trans ((fr (k + 1) _ (by omega)).trans (nS (dP d q 1).toNat (by have := (gp q (by omega)).2.1; omega)).1)))
      have f147b : 0 ≤ v147 ∧ v147 ≤ 15 := (by have := (gp q (by omega)).2.2.2; have := (gs (dP d q 1).toNat (by have := (gp q (by omega)).2.1; omega)).2.2.2; have := (gp q (by omega)).2.1; omega)
      refine And.intro (zDX hd 0 rfl) (zrdR (v := some (k + 15)) (zDR hd 14 rfl) ?_)
      refine And.intro (zDP hd 15 rfl rfl (by omega) (by omega)) (fun v157 e157 r157 => ?_)
      have f157 : v157 = dL d (dP d q 0).toNat 3 := (e157.trans ((congrArg (I1 (k + 15)) (by omega)).trans ((fr (k + 15) (3 * q + 2) (by omega)).trans (nP q (by omega)).2.2)))
      have f157b : 0 ≤ v157 ∧ v157 ≤ 999 := (by have := (gl (dP d q 0).toNat (by have := (gp q (by omega)).1; omega)).2.2.2; omega)
      refine And.intro (zDX hd 0 rfl) (Exists.intro _ (And.intro (zinl_ok (zT18_24 3)) (And.intro rfl ?_)))
      refine And.intro ⟨r157, (zRb rfl)⟩ ⟨fun h7_158 => ?_, fun h7_158 => ?_⟩
      · refine And.intro (zDX hd 0 rfl) ⟨_, sn_J_join.up (by decide), ?_⟩
        refine ⟨k, F, (((1600 + (16 * v136)) + v119) : Int), (1600 + 16 * (dP d q 0).toNat + (dP d q 1).toNat), (((3520 + (1000 * v147)) + v157) : Int), (jNn (dpr d (dP d q 1).toNat).toNat (dL d (dP d q 0).toNat 3)), rfl, hd, q1, ⟨by omega, by omega⟩, (by have hb := jNn_b (t := (dpr d (dP d q 1).toNat).toNat) (n := dL d (dP d q 0).toNat 3) (by omega) (by omega); refine ⟨?_, hb.2⟩; unfold jNn; split <;> omega), ?_⟩
        intro I161o p161hJF2 p161bfr
        refine ⟨(3, (31 - (q + 1)), 0), zlt6 (by omega), [some (zvr (k)), some (zvi ((q + 1))), none, none, none], ⟨rfl, rfl, rfl⟩, (q + 1), rfl, rfl, rfl, rfl, rfl, rfl, (by omega), (zSa_p p161hJF2 q2 q3 q4 (by omega) ⟨rfl, rfl⟩), (fun c j h0 => ((p161bfr c j (by omega)).trans ((fr c j (by omega)).trans rfl)))⟩
      · refine And.intro (zDX hd 0 rfl) ⟨_, sn_J_join.up (by decide), ?_⟩
        refine ⟨k, F, (((1600 + (16 * v136)) + v119) : Int), (1600 + 16 * (dP d q 0).toNat + (dP d q 1).toNat), (((3520 + 0) + v157) : Int), (jNn (dpr d (dP d q 1).toNat).toNat (dL d (dP d q 0).toNat 3)), rfl, hd, q1, ⟨by omega, by omega⟩, (by have hb := jNn_b (t := (dpr d (dP d q 1).toNat).toNat) (n := dL d (dP d q 0).toNat 3) (by omega) (by omega); refine ⟨?_, hb.2⟩; unfold jNn; split <;> omega), ?_⟩
        intro I161o p161hJF2 p161bfr
        refine ⟨(3, (31 - (q + 1)), 0), zlt6 (by omega), [some (zvr (k)), some (zvi ((q + 1))), none, none, none], ⟨rfl, rfl, rfl⟩, (q + 1), rfl, rfl, rfl, rfl, rfl, rfl, (by omega), (zSa_p p161hJF2 q2 q3 q4 (by omega) ⟨rfl, rfl⟩), (fun c j h0 => ((p161bfr c j (by omega)).trans ((fr c j (by omega)).trans rfl)))⟩)
def T_J_num : ZT := fun args I L R S Q => ∃ (k : Nat) (d : JdS), args = [zvr k] ∧ (zDy zT18 zF18 k R S) ∧ (zNJ k d I L) ∧ (jGd d) ∧ (zJF (k + 18) (jE d) I) ∧ ∀ (I' : ZI), (zJN k d I') → (∀ c j : Nat, ¬ (c = k ∧ j = 29) → ¬ c = k + 19 → ¬ c = k + 20 → I' c j = I c j) → Q none I' L R S
theorem sn_J_num : ZSnd 2 18 28 T_J_num := ZSnd.loops (zT18_28 1) (by
  rintro args I L R S Q hz ⟨k, d, rfl, hd, hNJ, hJG, hJF, hQ⟩
  have h5 := hd.1
  obtain ⟨⟨n1, n2, n3, n4, n5, n6, n7⟩, nS, nW, nD, nJ, nL, nT, nO, nP, nR⟩ := id hNJ
  obtain ⟨⟨g1, g2, g3, g4, g5, g6⟩, gs, gw, gj, gl, gp, gt⟩ := id hJG
  obtain ⟨rt, hU, hR, hE⟩ := id hJF
  refine ⟨[2, 24, 51, 66], fun nM tM lsM stM I1 L1 R1 S1 => match tM with
      | 2 => ∃ (n : Nat), nM = (5, (19521 - n), 0) ∧ lsM = [some (zvr (k)), some (zvi (n)), none, none] ∧ stM = [] ∧ L1 = L ∧ R1 = R ∧ S1 = S ∧ (n ≤ 19520) ∧ (∀ r : Nat, r < n → I1 (k + 19) r = -1) ∧ (∀ c j : Nat, ¬ (c = k ∧ j = 29) → ¬ c = k + 19 → ¬ c = k + 20 → I1 c j = I c j)
      | 24 => ∃ (n : Nat), nM = (4, (961 - n), 0) ∧ lsM = [some (zvr (k)), some (zvi (n)), none, none] ∧ stM = [] ∧ L1 = L ∧ R1 = R ∧ S1 = S ∧ (n ≤ 960) ∧ (∀ r : Nat, r < 19520 → I1 (k + 19) r = -1) ∧ (∀ r : Nat, r < n → I1 (k + 20) r = -1) ∧ (∀ c j : Nat, ¬ (c = k ∧ j = 29) → ¬ c = k + 19 → ¬ c = k + 20 → I1 c j = I c j)
      | 51 => ∃ (p : Nat), nM = (3, (61 - p), 20) ∧ lsM = [some (zvr (k)), some (zvi (p)), none, none] ∧ stM = [] ∧ L1 = L ∧ R1 = R ∧ S1 = S ∧ (p ≤ dnt d) ∧ (zNb k d rt (16 * p) I1) ∧ (∀ c j : Nat, ¬ (c = k ∧ j = 29) → ¬ c = k + 19 → ¬ c = k + 20 → I1 c j = I c j)
      | 66 => ∃ (p : Nat) (t : Nat), nM = (3, (61 - p), (17 - t)) ∧ lsM = [some (zvr (k)), some (zvi (p)), some (zvi (t)), none] ∧ stM = [] ∧ L1 = L ∧ R1 = R ∧ S1 = S ∧ (p < dnt d ∧ t ≤ dns d) ∧ (zNb k d rt (16 * p + jNc (dbs d) (dT d p 0) t) I1) ∧ (∀ c j : Nat, ¬ (c = k ∧ j = 29) → ¬ c = k + 19 → ¬ c = k + 20 → I1 c j = I c j)
      | _ => False, rfl, ?_, ⟨?_, ?_, ?_, ?_, True.intro⟩⟩
  · refine ⟨(5, (19521 - (0 : Nat)), 0), [some (zvr (k)), some (zvi ((0 : Nat))), none, none], ⟨rfl, rfl, rfl⟩, 0, rfl, rfl, rfl, rfl, rfl, rfl, (by omega), (fun r h => absurd h (Nat.not_lt_zero r)), (fun c j h0 h1 h2 => rfl)⟩
  · rintro nM lsM stM I1 L1 R1 S1 hz1 ⟨n, rfl, rfl, rfl, rfl, rfl, rfl, hn, h0, fr⟩
    refine And.intro ⟨(by omega), (zRb rfl)⟩ ⟨fun h6 => ?_, fun h6 => ?_⟩
    · refine ⟨(4, (961 - (0 : Nat)), 0), zlt6 (by omega), [some (zvr (k)), some (zvi ((0 : Nat))), none, none], ⟨rfl, rfl, rfl⟩, 0, rfl, rfl, rfl, rfl, rfl, rfl, (by omega), (fun r hr => h0 r (by omega)), (fun r h => absurd h (Nat.not_lt_zero r)), (fun c j h0 h1 h2 => ((fr c j (by omega) (by omega) (by omega)).trans rfl))⟩
    · refine And.intro (zDX hd 0 rfl) (zrdR (v := some (k + 19)) (zDR hd 18 rfl) ?_)
      refine And.intro ⟨(by show 40 ≤ _; omega), (zDP hd 19 rfl rfl (by omega) (by omega))⟩ ⟨_, (zWi (zRb rfl)), ?_⟩
      refine ⟨(5, (19521 - (n + 1)), 0), zlt6 (by omega), [some (zvr (k)), some (zvi ((n + 1))), none, none], ⟨rfl, rfl, rfl⟩, (n + 1), rfl, rfl, rfl, rfl, rfl, rfl, (by omega), ?_, (fun c j h0 h1 h2 => (zxu h1 ((fr c j (by omega) (by omega) (by omega)).trans rfl)))⟩
      · intro r hr
        by_cases e : r = n
        · rw [e]; exact zxe
        · exact zxs (by omega) (h0 r (by omega))
  · rintro nM lsM stM I1 L1 R1 S1 hz1 ⟨n, rfl, rfl, rfl, rfl, rfl, rfl, hn, h19, h0, fr⟩
    refine And.intro ⟨(by omega), (zRb rfl)⟩ ⟨fun h28 => ?_, fun h28 => ?_⟩
    · refine And.intro (zDX hd 0 rfl) ⟨_, (zWi (zRb rfl)), ?_⟩
      refine ⟨(3, (61 - (0 : Nat)), 20), zlt6 (by omega), [some (zvr (k)), some (zvi ((0 : Nat))), none, none], ⟨rfl, rfl, rfl⟩, 0, rfl, rfl, rfl, rfl, rfl, rfl, (by omega), (zNb_0 zxe (fun r hr => zxu (by omega) (h19 r hr)) (fun r hr => zxu (by omega) (h0 r (by omega)))), (fun c j h0 h1 h2 => (zxcj h0 ((fr c j (by omega) (by omega) (by omega)).trans rfl)))⟩
    · refine And.intro (zDX hd 0 rfl) (zrdR (v := some (k + 20)) (zDR hd 19 rfl) ?_)
      refine And.intro ⟨(by show 40 ≤ _; omega), (zDP hd 20 rfl rfl (by omega) (by omega))⟩ ⟨_, (zWi (zRb rfl)), ?_⟩
      refine ⟨(4, (961 - (n + 1)), 0), zlt6 (by omega), [some (zvr (k)), some (zvi ((n + 1))), none, none], ⟨rfl, rfl, rfl⟩, (n + 1), rfl, rfl, rfl, rfl, rfl, rfl, (by omega), (fun r hr => zxu (by omega) (h19 r hr)), ?_, (fun c j h0 h1 h2 => (zxu h2 ((fr c j (by omega) (by omega) (by omega)).trans rfl)))⟩
      · intro r hr
        by_cases e : r = n
        · rw [e]; exact zxe
        · exact zxs (by omega) (h0 r (by omega))
  · rintro nM lsM stM I1 L1 R1 S1 hz1 ⟨p, rfl, rfl, rfl, rfl, rfl, rfl, hp, hS, fr⟩
    refine And.intro (zDX hd 0 rfl) (zrd (v := (dnt d)) ((fr k 15 (by omega) (by omega) (by omega)).trans n5) ?_)
    refine And.intro ⟨(by omega), (by omega)⟩ ⟨fun h56 => ?_, fun h56 => ?_⟩
    · refine hQ _ ⟨rt, zUF_fr hU (fun c j h => fr c j (by omega) (by omega) (by omega)), hR, zNb_sk hS (by omega) (fun i h1 h2 hv => by have w := hv.1; omega)⟩ (fun c j h0 h1 h2 => ((fr c j (by omega) (by omega) (by omega)).trans rfl))
    · refine And.intro (zDX hd 0 rfl) (zrdR (v := some (k + 11)) (zDR hd 10 rfl) ?_)
      refine And.intro (zDP hd 11 rfl rfl (by omega) (by omega)) (fun v64 e64 r64 => ?_)
      have f64 : v64 = dT d p 0 := (e64.trans ((congrArg (I1 (k + 11)) (by omega)).trans ((fr (k + 11) p (by omega) (by omega) (by omega)).trans (nT p (by omega)).1)))
      have f64b : 0 ≤ v64 ∧ v64 + 1 ≤ dns d := (by have := (gt p (by omega)).1; omega)
      refine ⟨(3, (61 - p), (17 - v64.toNat)), zlt6 (by omega), [some (zvr (k)), some (zvi (p)), some (zvi (v64.toNat)), none], ⟨rfl, rfl, (congrArg (fun z => some (zvi z)) (by omega)), rfl⟩, p, v64.toNat, rfl, rfl, rfl, rfl, rfl, rfl, (by omega), (by have e := jNc_0 (f := dbs d) (b := v64.toNat) (t := v64.toNat) (fun u hu => (gs u (by omega)).1) (Nat.le_refl _); rw [← f64, show v64 = ((v64.toNat : Nat) : Int) by omega, show ((v64.toNat : Nat) : Int).toNat = v64.toNat from rfl, e]; exact hS), (fun c j h0 h1 h2 => ((fr c j (by omega) (by omega) (by omega)).trans rfl))⟩
  · rintro nM lsM stM I1 L1 R1 S1 hz1 ⟨p, t, rfl, rfl, rfl, rfl, rfl, rfl, hp, hS, fr⟩
    have hpt := (gt p hp.1).1
    have hN1 := hS.1
    have hzc := zct_le (jFst d) (16 * p + jNc (dbs d) (dT d p 0) t)
    have e16 : jNc (dbs d) (dT d p 0) t ≤ 16 := by have := jNc_le (dbs d) (dT d p 0) t; omega
    refine And.intro (zDX hd 0 rfl) (zrd (v := (dns d)) ((fr k 1 (by omega) (by omega) (by omega)).trans n1) ?_)
    refine And.intro ⟨(by omega), (by omega)⟩ ⟨fun h71 => ?_, fun h71 => ?_⟩
    · refine ⟨(3, (61 - (p + 1)), 20), zlt6 (by omega), [some (zvr (k)), some (zvi ((p + 1))), none, none], ⟨rfl, rfl, rfl⟩, (p + 1), rfl, rfl, rfl, rfl, rfl, rfl, (by omega), (by obtain rfl : t = dns d := (by omega); refine zNb_sk hS (by omega) (fun i h1 h2 hv => ?_); have w := hv.2; rw [show i / 16 = p by omega] at w; omega), (fun c j h0 h1 h2 => ((fr c j (by omega) (by omega) (by omega)).trans rfl))⟩
    · refine And.intro (zDX hd 0 rfl) (zrdR (v := some (k + 2)) (zDR hd 1 rfl) ?_)
      refine And.intro (zDP hd 2 rfl rfl (by omega) (by omega)) (fun v79 e79 r79 => ?_)
      have f79 : v79 = dbs d t := (e79.trans ((congrArg (I1 (k + 2)) (by omega)).trans ((fr (k + 2) t (by omega) (by omega) (by omega)).trans (nS t (by omega)).2)))
      refine And.intro (zDX hd 0 rfl) (zrdR (v := some (k + 11)) (zDR hd 10 rfl) ?_)
      refine And.intro (zDP hd 11 rfl rfl (by omega) (by omega)) (fun v85 e85 r85 => ?_)
      have f85 : v85 = dT d p 0 := (e85.trans ((congrArg (I1 (k + 11)) (by omega)).trans ((fr (k + 11) p (by omega) (by omega) (by omega)).trans (nT p (by omega)).1)))
      refine And.intro ⟨r79, r85⟩ ⟨fun h86 => ?_, fun h86 => ?_⟩
      · refine And.intro (zDX hd 0 rfl) ⟨_, sn_J_lead.up (by decide), ?_⟩
        refine ⟨k, rt, (((2560 + (16 * p)) + t) : Int), (2560 + 16 * p + t), rfl, hd, (zUF_fr hU (fun c j h => fr c j (by omega) (by omega) (by omega))), ⟨by omega, by omega⟩, ?_⟩
        intro v103o p103hv p103bhv2
        refine And.intro (zDX hd 0 rfl) (zrdR (v := some (k + 19)) (zDR hd 18 rfl) ?_)
        refine And.intro (zDP hd 19 rfl rfl (by omega) (by omega)) (fun v112 e112 r112 => ?_)
        have f112 : v112 = I1 (k + 19) v103o.toNat := e112
        refine And.intro ⟨r112, (zRb rfl)⟩ ⟨fun h114 => ?_, fun h114 => ?_⟩
        · refine And.intro (zDX hd 0 rfl) (zrdR (v := some (k + 20)) (zDR hd 19 rfl) ?_)
          refine And.intro (zDX hd 0 rfl) (zrdR (v := some (k + 19)) (zDR hd 18 rfl) ?_)
          refine And.intro (zDP hd 19 rfl rfl (by omega) (by omega)) (fun v152 e152 r152 => ?_)
          refine And.intro ⟨(by show 40 ≤ _; omega), (zDP hd 20 rfl rfl (by omega) (by omega))⟩ ⟨_, (zWi r152), ?_⟩
          refine ⟨(3, (61 - p), (17 - (t + 1))), zlt6 (by omega), [some (zvr (k)), some (zvi (p)), some (zvi ((t + 1))), none], ⟨rfl, rfl, rfl, rfl⟩, p, (t + 1), rfl, rfl, rfl, rfl, rfl, rfl, (by omega), ?_, (fun c j h0 h1 h2 => (zxu h2 ((fr c j (by omega) (by omega) (by omega)).trans rfl)))⟩
          · first
            | (rw [jNc_f (by omega)]
               exact hS)
            | (have e15 : jNc (dbs d) (dT d p 0) t ≤ 15 := (by have := jNc_le (dbs d) (dT d p 0) t; omega)
               have hV := (jV_of (p := p) (o := jNc (dbs d) (dT d p 0) t) (t := t) (by omega) ⟨by omega, by omega, rfl⟩ (by omega))
               have hN := (jNd_at (d := d) (p := p) (o := jNc (dbs d) (dT d p 0) t) (t := t) (by omega) (jV_of (p := p) (o := jNc (dbs d) (dT d p 0) t) (t := t) (by omega) ⟨by omega, by omega, rfl⟩ (by omega)).2)
               have er : rt (jNd d (16 * p + jNc (dbs d) (dT d p 0) t)) = v103o.toNat := (by rw [hN.1]; omega)
               rw [jNc_t (by omega)]
               refine zNb_st (n := 16 * p + jNc (dbs d) (dT d p 0) t) hJG hS hR hV.1 (by rw [er]; omega) ?_ (fun j => ?_)
               · rw [er]
                 first
                 | (refine Or.inl ⟨by omega, zxu (by omega) (zxe.trans (by rw [f129])), fun r => zxu (by omega) (zxu (by omega) ?_)⟩
                    by_cases e : r = v103o.toNat
                    · rw [if_pos e, e]; exact zxe.trans (by omega)
                    · rw [if_neg e]; exact zxs e rfl)
                 | exact Or.inr ⟨by omega, zxu (by omega) rfl, fun r => zxu (by omega) rfl⟩
               · rw [er, hN.2]
                 by_cases e : j = 16 * p + t
                 · rw [if_pos e, show j = (16 * p + t : Int).toNat by omega]
                   first
                   | (refine zxe.trans ?_
                      exact (zxu (by omega) (zxu (by omega) zxe)).symm)
                   | (refine zxe.trans (Eq.trans ?_ (zxu (by omega) rfl).symm)
                      omega)
                 · rw [if_neg e]
                   first
                   | exact zxs (by omega) (zxu (by omega) (zxu (by omega) rfl))
                   | exact zxs (by omega) rfl)
        · refine And.intro (zDX hd 0 rfl) (zrdR (v := some (k + 19)) (zDR hd 18 rfl) ?_)
          refine And.intro (zDX hd 0 rfl) (fun v123 e123 r123 => ?_)
          have f123 : v123 = I1 k 29 := e123
          refine And.intro ⟨(by show 40 ≤ _; omega), (zDP hd 19 rfl rfl (by omega) (by omega))⟩ ⟨_, (zWi r123), ?_⟩
          refine And.intro (zDX hd 0 rfl) (fun v129 e129 r129 => ?_)
          have f129 : v129 = I1 k 29 := (e129.trans (zxu (by omega) rfl))
          refine And.intro (zDX hd 0 rfl) ⟨_, (zWi (by omega)), ?_⟩
          refine And.intro (zDX hd 0 rfl) (zrdR (v := some (k + 20)) (zDR hd 19 rfl) ?_)
          refine And.intro (zDX hd 0 rfl) (zrdR (v := some (k + 19)) (zDR hd 18 rfl) ?_)
          refine And.intro (zDP hd 19 rfl rfl (by omega) (by omega)) (zrd (v := v123) (zxu (by omega) zxe) ?_)
          refine And.intro ⟨(by show 40 ≤ _; omega), (zDP hd 20 rfl rfl (by omega) (by omega))⟩ ⟨_, (zWi r123), ?_⟩
          refine ⟨(3, (61 - p), (17 - (t + 1))), zlt6 (by omega), [some (zvr (k)), some (zvi (p)), some (zvi ((t + 1))), none], ⟨rfl, rfl, rfl, rfl⟩, p, (t + 1), rfl, rfl, rfl, rfl, rfl, rfl, (by omega), ?_, (fun c j h0 h1 h2 => (zxu h2 (zxcj h0 (zxu h1 ((fr c j (by omega) (by omega) (by omega)).trans rfl)))))⟩
          · first
            | (rw [jNc_f (by omega)]
               exact hS)
            | (have e15 : jNc (dbs d) (dT d p 0) t ≤ 15 := (by have := jNc_le (dbs d) (dT d p 0) t; omega)
               have hV := (jV_of (p := p) (o := jNc (dbs d) (dT d p 0) t) (t := t) (by omega) ⟨by omega, by omega, rfl⟩ (by omega))
               have hN := (jNd_at (d := d) (p := p) (o := jNc (dbs d) (dT d p 0) t) (t := t) (by omega) (jV_of (p := p) (o := jNc (dbs d) (dT d p 0) t) (t := t) (by omega) ⟨by omega, by omega, rfl⟩ (by omega)).2)
               have er : rt (jNd d (16 * p + jNc (dbs d) (dT d p 0) t)) = v103o.toNat := (by rw [hN.1]; omega)
               rw [jNc_t (by omega)]
               refine zNb_st (n := 16 * p + jNc (dbs d) (dT d p 0) t) hJG hS hR hV.1 (by rw [er]; omega) ?_ (fun j => ?_)
               · rw [er]
                 first
                 | (refine Or.inl ⟨by omega, zxu (by omega) (zxe.trans (by rw [f129])), fun r => zxu (by omega) (zxu (by omega) ?_)⟩
                    by_cases e : r = v103o.toNat
                    · rw [if_pos e, e]; exact zxe.trans (by omega)
                    · rw [if_neg e]; exact zxs e rfl)
                 | exact Or.inr ⟨by omega, zxu (by omega) rfl, fun r => zxu (by omega) rfl⟩
               · rw [er, hN.2]
                 by_cases e : j = 16 * p + t
                 · rw [if_pos e, show j = (16 * p + t : Int).toNat by omega]
                   first
                   | (refine zxe.trans ?_
                      exact (zxu (by omega) (zxu (by omega) zxe)).symm)
                   | (refine zxe.trans (Eq.trans ?_ (zxu (by omega) rfl).symm)
                      omega)
                 · rw [if_neg e]
                   first
                   | exact zxs (by omega) (zxu (by omega) (zxu (by omega) rfl))
                   | exact zxs (by omega) rfl)
      · refine ⟨(3, (61 - p), (17 - (t + 1))), zlt6 (by omega), [some (zvr (k)), some (zvi (p)), some (zvi ((t + 1))), none], ⟨rfl, rfl, rfl, rfl⟩, p, (t + 1), rfl, rfl, rfl, rfl, rfl, rfl, (by omega), ?_, (fun c j h0 h1 h2 => ((fr c j (by omega) (by omega) (by omega)).trans rfl))⟩
        · first
          | (rw [jNc_f (by omega)]
             exact hS)
          | (have e15 : jNc (dbs d) (dT d p 0) t ≤ 15 := (by have := jNc_le (dbs d) (dT d p 0) t; omega)
             have hV := (jV_of (p := p) (o := jNc (dbs d) (dT d p 0) t) (t := t) (by omega) ⟨by omega, by omega, rfl⟩ (by omega))
             have hN := (jNd_at (d := d) (p := p) (o := jNc (dbs d) (dT d p 0) t) (t := t) (by omega) (jV_of (p := p) (o := jNc (dbs d) (dT d p 0) t) (t := t) (by omega) ⟨by omega, by omega, rfl⟩ (by omega)).2)
             have er : rt (jNd d (16 * p + jNc (dbs d) (dT d p 0) t)) = v103o.toNat := (by rw [hN.1]; omega)
             rw [jNc_t (by omega)]
             refine zNb_st (n := 16 * p + jNc (dbs d) (dT d p 0) t) hJG hS hR hV.1 (by rw [er]; omega) ?_ (fun j => ?_)
             · rw [er]
               first
               | (refine Or.inl ⟨by omega, zxu (by omega) (zxe.trans (by rw [f129])), fun r => zxu (by omega) (zxu (by omega) ?_)⟩
                  by_cases e : r = v103o.toNat
                  · rw [if_pos e, e]; exact zxe.trans (by omega)
                  · rw [if_neg e]; exact zxs e rfl)
               | exact Or.inr ⟨by omega, zxu (by omega) rfl, fun r => zxu (by omega) rfl⟩
             · rw [er, hN.2]
               by_cases e : j = 16 * p + t
               · rw [if_pos e, show j = (16 * p + t : Int).toNat by omega]
                 first
                 | (refine zxe.trans ?_
                    exact (zxu (by omega) (zxu (by omega) zxe)).symm)
                 | (refine zxe.trans (Eq.trans ?_ (zxu (by omega) rfl).symm)
                    omega)
               · rw [if_neg e]
                 first
                 | exact zxs (by omega) (zxu (by omega) (zxu (by omega) rfl))
                 | exact zxs (by omega) rfl))
def T_J_cpy : ZT := fun args I L R S Q => ∃ (k : Nat) (d : JdS) (b : Int) (y : Int), args = [zvr k, zvi b, zvi y] ∧ (zDy zT18 zF18 k R S) ∧ (zNJ k d I L) ∧ (jGd d) ∧ (0 ≤ b ∧ b < dns d) ∧ (r32 y) ∧ ∀ (v : Int), ((v = -1 ∧ ¬ (0 ≤ y ∧ y < jNc (dbs d) b (dns d))) ∨ (0 ≤ v ∧ 0 ≤ y ∧ jOn d b y.toNat v.toNat)) → (-1 ≤ v ∧ v < dns d) → Q (some (zvi (v))) I L R S
theorem sn_J_cpy : ZSnd 1 18 1 T_J_cpy := ZSnd.loops (zT18_1 0) (by
  rintro args I L R S Q hz ⟨k, d, b, y, rfl, hd, hNJ, hJG, hb, hr, hQ⟩
  have h5 := hd.1
  obtain ⟨⟨n1, n2, n3, n4, n5, n6, n7⟩, nS, nW, nD, nJ, nL, nT, nO, nP, nR⟩ := id hNJ
  obtain ⟨⟨g1, g2, g3, g4, g5, g6⟩, gs, gw, gj, gl, gp, gt⟩ := id hJG
  refine ⟨[5], fun nM tM lsM stM I1 L1 R1 S1 => match tM with
      | 5 => ∃ (t : Nat) (l : Int), nM = ((17 - t), 0, 0) ∧ lsM = [some (zvr (k)), some (zvi (b)), some (zvi (y)), some (zvi (l)), some (zvi (t))] ∧ stM = [] ∧ I1 = I ∧ L1 = L ∧ R1 = R ∧ S1 = S ∧ (t ≤ dns d) ∧ (l = y - jNc (dbs d) b t) ∧ (y < 0 ∨ 0 ≤ l)
      | _ => False, rfl, ?_, ⟨?_, True.intro⟩⟩
  · refine ⟨((17 - b.toNat), 0, 0), [some (zvr (k)), some (zvi (b)), some (zvi (y)), some (zvi (y)), some (zvi (b.toNat))], ⟨rfl, rfl, rfl, rfl, (congrArg (fun z => some (zvi z)) (by omega)), rfl⟩, b.toNat, y, rfl, rfl, rfl, rfl, rfl, rfl, rfl, (by omega), (by have e := jNc_0 (f := dbs d) (b := b.toNat) (t := b.toNat) (fun u hu => (gs u (by omega)).1) (Nat.le_refl _); rw [show ((b.toNat : Nat) : Int) = b by omega] at e; omega), (by omega)⟩
  · rintro nM lsM stM I1 L1 R1 S1 hz1 ⟨t, l, rfl, rfl, rfl, rfl, rfl, rfl, rfl, ht, hl, hl2⟩
    have hle := jNc_le (dbs d) b t
    refine And.intro (zDX hd 0 rfl) (zrd (v := (dns d)) n1 ?_)
    refine And.intro ⟨(by omega), (by omega)⟩ ⟨fun h11 => ?_, fun h11 => ?_⟩
    · refine hQ _ ?_ (by omega)
      · first
        | (refine Or.inl ⟨rfl, fun w => ?_⟩
           first
           | (exfalso; omega)
           | (obtain rfl : t = dns d := (by omega)
              omega))
        | exact Or.inr ⟨by omega, by omega, by show t < dns d; omega, by show (dbs d t : Int) = b; omega, by show jNc (dbs d) b t = y.toNat; omega⟩
    · refine And.intro (by omega) ⟨fun h15 => ?_, fun h15 => ?_⟩
      · refine hQ _ ?_ (by omega)
        · first
          | (refine Or.inl ⟨rfl, fun w => ?_⟩
             first
             | (exfalso; omega)
             | (obtain rfl : t = dns d := (by omega)
                omega))
          | exact Or.inr ⟨by omega, by omega, by show t < dns d; omega, by show (dbs d t : Int) = b; omega, by show jNc (dbs d) b t = y.toNat; omega⟩
      · refine And.intro (zDX hd 0 rfl) (zrdR (v := some (k + 2)) (zDR hd 1 rfl) ?_)
        refine And.intro (zDP hd 2 rfl rfl (by omega) (by omega)) (fun v24 e24 r24 => ?_)
        have f24 : v24 = dbs d t := (e24.trans ((congrArg (I1 (k + 2)) (by omega)).trans (nS t (by omega)).2))
        refine And.intro ⟨r24, (by omega)⟩ ⟨fun h26 => ?_, fun h26 => ?_⟩
        · refine And.intro (by omega) ⟨fun h33 => ?_, fun h33 => ?_⟩
          · refine ⟨((17 - (t + 1)), 0, 0), zlt6 (by omega), [some (zvr (k)), some (zvi (b)), some (zvi (y)), some (zvi ((l + (-1)))), some (zvi ((t + 1)))], ⟨rfl, rfl, rfl, rfl, rfl, rfl⟩, (t + 1), (l + (-1)), rfl, rfl, rfl, rfl, rfl, rfl, rfl, (by omega), (by first | (rw [jNc_f (by omega)]; omega) | (rw [jNc_t (by omega)]; omega)), (by omega)⟩
          · refine hQ _ ?_ (by omega)
            · first
              | (refine Or.inl ⟨rfl, fun w => ?_⟩
                 first
                 | (exfalso; omega)
                 | (obtain rfl : t = dns d := (by omega)
                    omega))
              | exact Or.inr ⟨by omega, by omega, by show t < dns d; omega, by show (dbs d t : Int) = b; omega, by show jNc (dbs d) b t = y.toNat; omega⟩
        · refine ⟨((17 - (t + 1)), 0, 0), zlt6 (by omega), [some (zvr (k)), some (zvi (b)), some (zvi (y)), some (zvi (l)), some (zvi ((t + 1)))], ⟨rfl, rfl, rfl, rfl, rfl, rfl⟩, (t + 1), l, rfl, rfl, rfl, rfl, rfl, rfl, rfl, (by omega), (by first | (rw [jNc_f (by omega)]; omega) | (rw [jNc_t (by omega)]; omega)), (by omega)⟩)
def T_J_netOf : ZT := fun args I L R S Q => ∃ (k : Nat) (d : JdS) (x : Int) (y : Int), args = [zvr k, zvi x, zvi y] ∧ (zDy zT18 zF18 k R S) ∧ (zNJ k d I L) ∧ (jGd d) ∧ (zJN k d I) ∧ (r32 x ∧ r32 y) ∧ ∀ (v : Int) (I' : ZI), ((I' k 0 = 0 ∧ v = jOf d x y ∧ 0 ≤ v ∧ v < 960) ∨ (I' k 0 = 1 ∧ jOf d x y = -1)) → (∀ c j : Nat, ¬ (c = k ∧ j = 0) → I' c j = I c j) → Q (some (zvi (v))) I' L R S
theorem sn_J_netOf : ZSnd 2 18 26 T_J_netOf := ZSnd.of (zT18_26 1) (by
  rintro args I L R S Q hz ⟨k, d, x, y, rfl, hd, hNJ, hJG, hJN, hr, hQ⟩
  have h5 := hd.1
  obtain ⟨⟨n1, n2, n3, n4, n5, n6, n7⟩, nS, nW, nD, nJ, nL, nT, nO, nP, nR⟩ := id hNJ
  obtain ⟨⟨g1, g2, g3, g4, g5, g6⟩, gs, gw, gj, gl, gp, gt⟩ := id hJG
  obtain ⟨rt, hU, hR, hNb1, hNb2, hNb3, hNb4⟩ := id hJN
  refine And.intro rfl ?_
  refine And.intro (by omega) ⟨fun h1 => ?_, fun h1 => ?_⟩
  · refine And.intro ⟨(zRb rfl), (zRb rfl)⟩ (zbf rfl ?_)
    refine And.intro (zDX hd 0 rfl) ⟨_, (zWi (zRb rfl)), ?_⟩
    refine And.intro (zDX hd 0 rfl) (zrd (v := 1) zxe ?_)
    refine And.intro (zRb rfl) (zbt rfl ?_)
    refine hQ _ _ ?_ (fun c j h0 => (zxcj h0 rfl))
    · unfold jOf
      first
      | (refine Or.inr ⟨zxe, ?_⟩
         rw [if_neg (by omega)]
         done)
      | (refine Or.inr ⟨zxe, ?_⟩
         rw [if_neg (fun w => by
           rcases p24hv with w2 | w2
           · rw [f22] at w2
             exact w2.2 w.2
           · omega)]
         done)
      | (have hO := p24hv.resolve_left (fun w => by have := w.1; omega)
         rw [f22] at hO
         have hlt := jOn_lt hO.2.2
         have hle := jNc_le (dbs d) (dT d x.toNat 0) (dns d)
         have hV := jV_of (p := x.toNat) (o := y.toNat) (t := v24o.toNat) (by omega) hO.2.2 (by omega)
         have hN := jNd_at (d := d) (p := x.toNat) (o := y.toNat) (t := v24o.toNat) (by omega) hV.2
         have h9 := jNo_lt hV.1 (n := 960) (by omega)
         have h8 := zct_le (jFst d) 960
         rw [if_pos ⟨by omega, by omega, by omega⟩]
         have w := hNb3 (16 * x.toNat + y.toNat) (by omega) hV.1
         rw [hN.2] at w
         have e9 : v59 = jNo d (16 * x.toNat + y.toNat) := e59.trans (zxu (by omega) ((congrArg (I (k + 20)) (by omega)).trans w))
         exact Or.inl ⟨zxe, e9, by omega, by omega⟩)
  · refine And.intro (zDX hd 0 rfl) (zrd (v := (dnt d)) n5 ?_)
    refine And.intro ⟨(by omega), (by omega)⟩ ⟨fun h9 => ?_, fun h9 => ?_⟩
    · refine And.intro (zDX hd 0 rfl) (zrdR (v := some (k + 11)) (zDR hd 10 rfl) ?_)
      refine And.intro (zDP hd 11 rfl rfl (by omega) (by omega)) (fun v22 e22 r22 => ?_)
      have f22 : v22 = dT d x.toNat 0 := (e22.trans ((congrArg (I (k + 11)) (by omega)).trans (nT x.toNat (by omega)).1))
      have f22b : 0 ≤ v22 ∧ v22 + 1 ≤ dns d := (by have := (gt x.toNat (by omega)).1; omega)
      refine And.intro (zDX hd 0 rfl) ⟨_, sn_J_cpy.up (by decide), ?_⟩
      refine ⟨k, d, (v22 : Int), (y : Int), rfl, hd, (by first | exact (zNJ_fr hNJ (fun c j h => rfl) (fun c j h => rfl)) | (clear hQ; grind [xu])), (by first | exact hJG | (clear hQ; grind [xu])), (by omega), (by omega), ?_⟩
      intro v24o p24hv p24bhv2
      refine And.intro ⟨(by omega), (zRb rfl)⟩ ⟨fun h31 => ?_, fun h31 => ?_⟩
      · refine And.intro (zDX hd 0 rfl) ⟨_, (zWi (zRb rfl)), ?_⟩
        refine And.intro (zDX hd 0 rfl) (zrd (v := 0) zxe ?_)
        refine And.intro (zRb rfl) (zbf rfl ?_)
        refine And.intro (zDX hd 0 rfl) (zrdR (v := some (k + 20)) (zDR hd 19 rfl) ?_)
        refine And.intro (zDP hd 20 rfl rfl (by omega) (by omega)) (fun v59 e59 r59 => ?_)
        refine hQ _ _ ?_ (fun c j h0 => (zxcj h0 rfl))
        · unfold jOf
          first
          | (refine Or.inr ⟨zxe, ?_⟩
             rw [if_neg (by omega)]
             done)
          | (refine Or.inr ⟨zxe, ?_⟩
             rw [if_neg (fun w => by
               rcases p24hv with w2 | w2
               · rw [f22] at w2
                 exact w2.2 w.2
               · omega)]
             done)
          | (have hO := p24hv.resolve_left (fun w => by have := w.1; omega)
             rw [f22] at hO
             have hlt := jOn_lt hO.2.2
             have hle := jNc_le (dbs d) (dT d x.toNat 0) (dns d)
             have hV := jV_of (p := x.toNat) (o := y.toNat) (t := v24o.toNat) (by omega) hO.2.2 (by omega)
             have hN := jNd_at (d := d) (p := x.toNat) (o := y.toNat) (t := v24o.toNat) (by omega) hV.2
             have h9 := jNo_lt hV.1 (n := 960) (by omega)
             have h8 := zct_le (jFst d) 960
             rw [if_pos ⟨by omega, by omega, by omega⟩]
             have w := hNb3 (16 * x.toNat + y.toNat) (by omega) hV.1
             rw [hN.2] at w
             have e9 : v59 = jNo d (16 * x.toNat + y.toNat) := e59.trans (zxu (by omega) ((congrArg (I (k + 20)) (by omega)).trans w))
             exact Or.inl ⟨zxe, e9, by omega, by omega⟩)
      · refine And.intro (zDX hd 0 rfl) ⟨_, (zWi (zRb rfl)), ?_⟩
        refine And.intro (zDX hd 0 rfl) (zrd (v := 1) zxe ?_)
        refine And.intro (zRb rfl) (zbt rfl ?_)
        refine hQ _ _ ?_ (fun c j h0 => (zxcj h0 rfl))
        · unfold jOf
          first
          | (refine Or.inr ⟨zxe, ?_⟩
             rw [if_neg (by omega)]
             done)
          | (refine Or.inr ⟨zxe, ?_⟩
             rw [if_neg (fun w => by
               rcases p24hv with w2 | w2
               · rw [f22] at w2
                 exact w2.2 w.2
               · omega)]
             done)
          | (have hO := p24hv.resolve_left (fun w => by have := w.1; omega)
             rw [f22] at hO
             have hlt := jOn_lt hO.2.2
             have hle := jNc_le (dbs d) (dT d x.toNat 0) (dns d)
             have hV := jV_of (p := x.toNat) (o := y.toNat) (t := v24o.toNat) (by omega) hO.2.2 (by omega)
             have hN := jNd_at (d := d) (p := x.toNat) (o := y.toNat) (t := v24o.toNat) (by omega) hV.2
             have h9 := jNo_lt hV.1 (n := 960) (by omega)
             have h8 := zct_le (jFst d) 960
             rw [if_pos ⟨by omega, by omega, by omega⟩]
             have w := hNb3 (16 * x.toNat + y.toNat) (by omega) hV.1
             rw [hN.2] at w
             have e9 : v59 = jNo d (16 * x.toNat + y.toNat) := e59.trans (zxu (by omega) ((congrArg (I (k + 20)) (by omega)).trans w))
             exact Or.inl ⟨zxe, e9, by omega, by omega⟩)
    · refine And.intro ⟨(zRb rfl), (zRb rfl)⟩ (zbf rfl ?_)
      refine And.intro (zDX hd 0 rfl) ⟨_, (zWi (zRb rfl)), ?_⟩
      refine And.intro (zDX hd 0 rfl) (zrd (v := 1) zxe ?_)
      refine And.intro (zRb rfl) (zbt rfl ?_)
      refine hQ _ _ ?_ (fun c j h0 => (zxcj h0 rfl))
      · unfold jOf
        first
        | (refine Or.inr ⟨zxe, ?_⟩
           rw [if_neg (by omega)]
           done)
        | (refine Or.inr ⟨zxe, ?_⟩
           rw [if_neg (fun w => by
             rcases p24hv with w2 | w2
             · rw [f22] at w2
               exact w2.2 w.2
             · omega)]
           done)
        | (have hO := p24hv.resolve_left (fun w => by have := w.1; omega)
           rw [f22] at hO
           have hlt := jOn_lt hO.2.2
           have hle := jNc_le (dbs d) (dT d x.toNat 0) (dns d)
           have hV := jV_of (p := x.toNat) (o := y.toNat) (t := v24o.toNat) (by omega) hO.2.2 (by omega)
           have hN := jNd_at (d := d) (p := x.toNat) (o := y.toNat) (t := v24o.toNat) (by omega) hV.2
           have h9 := jNo_lt hV.1 (n := 960) (by omega)
           have h8 := zct_le (jFst d) 960
           rw [if_pos ⟨by omega, by omega, by omega⟩]
           have w := hNb3 (16 * x.toNat + y.toNat) (by omega) hV.1
           rw [hN.2] at w
           have e9 : v59 = jNo d (16 * x.toNat + y.toNat) := e59.trans (zxu (by omega) ((congrArg (I (k + 20)) (by omega)).trans w))
           exact Or.inl ⟨zxe, e9, by omega, by omega⟩))
