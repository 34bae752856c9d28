/-! wb -/
def T_O_qte : ZT := fun args I L R S Q => ∃ (k : Nat) (w : List Int) (O : OoS) (j : Int) (j_ : Nat) (w0 : Int) (w_ : Nat), args = [zvr k, zvi j, zvi w0] ∧ (zSh S) ∧ (zRs R) ∧ (zDy zT2 zF2 k R S) ∧ (43 ≤ k ∧ k ≤ 52) ∧ (zPG k w I) ∧ (zOB k O I L) ∧ (oGd O) ∧ (j = j_ ∧ j_ < ocn O) ∧ (w0 = w_ ∧ w_ < 2) ∧ ∀ (I' : ZI), (zPG k (w ++ wQt (otc O j_ w_) (otl O j_ w_)) I') → (∀ c j : Nat, ¬ (c = k ∧ j = 12) → ¬ c = k + 8 → I' c j = I c j) → Q none I' L R S
theorem sn_O_qte : ZSnd 3 2 7 T_O_qte := ZSnd.loops (zT2_7 2) (by
  rintro args I L R S Q hz ⟨k, w, O, j, j_, w0, w_, rfl, hS, hR, hD, hk, hP, hO, hG, hj, hw, hQ⟩
  obtain ⟨g1, g2, g3, g4, g5⟩ := id hG
  have l5 := (g4 j_ w_ (by omega) (by omega)).1
  refine ⟨[8], fun nM tM lsM stM I1 L1 R1 S1 => match tM with
      | 8 => ∃ (i : Nat), nM = ((5000 - i), 0, 0) ∧ lsM = [some (zvr (k)), some (zvi (j_)), some (zvi (w_)), some (zvi (i)), none] ∧ stM = [] ∧ L1 = L ∧ R1 = R ∧ S1 = S ∧ (i ≤ otl O j_ w_) ∧ (zPG k (w ++ [34] ++ wBd (otc O j_ w_) i) I1) ∧ (∀ c j : Nat, ¬ (c = k ∧ j = 12) → ¬ c = k + 8 → I1 c j = I c j)
      | _ => False, rfl, ?_, ⟨?_, True.intro⟩⟩
  · refine And.intro (zDX hD 0 rfl) ⟨_, sn_O_emt.up (by decide), ?_⟩
    refine ⟨k, w, (34 : Int), rfl, hS, hR, hD, (by omega), (by first | exact (zPG_fr hP (fun c j h => rfl)) | (clear hQ; grind [xu])), (by omega), ?_⟩
    intro I3o p3hP2 p3bfr
    refine ⟨((5000 - (0 : Nat)), 0, 0), [some (zvr (k)), some (zvi (j_)), some (zvi (w_)), some (zvi ((0 : Nat))), none], ⟨rfl, (congrArg (fun z => some (zvi z)) (by omega)), (congrArg (fun z => some (zvi z)) (by omega)), rfl, rfl⟩, 0, rfl, rfl, rfl, rfl, rfl, rfl, (by omega), (by show zPG k (w ++ [34] ++ []) _; rw [List.append_nil]; exact p3hP2), (fun c j h0 h1 => ((p3bfr c j h0 h1).trans rfl))⟩
  · rintro nM lsM stM I1 L1 R1 S1 hz1 ⟨i, rfl, rfl, rfl, rfl, rfl, rfl, hi, hP1, fr⟩
    refine And.intro (zDX hD 0 rfl) ⟨_, sn_O_tl.up (by decide), ?_⟩
    refine ⟨k, O, (j_ : Int), j_, (w_ : Int), w_, rfl, hS, hR, hD, (by first | exact (zOB_fr hO (fun c j h => ((fr c j (by omega) (by omega)).trans rfl)) (fun c j h => rfl)) | (clear hQ; grind [xu])), (by first | exact hG | (clear hQ; grind [xu])), (by omega), (by omega), ?_⟩
    intro v12o p12hv p12bhv2
    refine And.intro ⟨(by omega), (by omega)⟩ ⟨fun h15 => ?_, fun h15 => ?_⟩
    · refine And.intro (zDX hD 0 rfl) ⟨_, sn_O_emt.up (by decide), ?_⟩
      refine ⟨k, (w ++ [34] ++ wBd (otc O j_ w_) i), (34 : Int), rfl, hS, hR, hD, (by omega), hP1, (by omega), ?_⟩
      intro I62o p62hP2 p62bfr
      refine hQ _ ?_ (fun c j h0 h1 => ((p62bfr c j h0 h1).trans ((fr c j h0 h1).trans rfl)))
      · have e : i = otl O j_ w_ := by omega
        rw [← e]
        unfold wQt
        rw [← List.append_assoc, ← List.append_assoc]
        exact p62hP2
    · refine And.intro (zDX hD 0 rfl) ⟨_, sn_O_let.up (by decide), ?_⟩
      refine ⟨k, O, (j_ : Int), j_, (w_ : Int), w_, (i : Int), i, rfl, hS, hR, hD, (by first | exact (zOB_fr hO (fun c j h => ((fr c j (by omega) (by omega)).trans rfl)) (fun c j h => rfl)) | (clear hQ; grind [xu])), (by first | exact hG | (clear hQ; grind [xu])), (by omega), (by omega), (by omega), ?_⟩
      intro v22o p22hv p22bhv2
      refine And.intro ⟨(by omega), (zRb rfl)⟩ ⟨fun h31 => ?_, fun h31 => ?_⟩
      · refine And.intro (zDX hD 0 rfl) ⟨_, sn_O_emt.up (by decide), ?_⟩
        refine ⟨k, (w ++ [34] ++ wBd (otc O j_ w_) i), (92 : Int), rfl, hS, hR, hD, (by omega), hP1, (by omega), ?_⟩
        intro I44o p44hP2 p44bfr
        refine And.intro (zDX hD 0 rfl) ⟨_, sn_O_emt.up (by decide), ?_⟩
        refine ⟨k, ((w ++ [34] ++ wBd (otc O j_ w_) i) ++ [92]), (v22o : Int), rfl, hS, hR, hD, (by omega), (by first | exact p44hP2 | exact hP1), (by omega), ?_⟩
        intro I50o p50hP2 p50bfr
        refine ⟨((5000 - (i + 1)), 0, 0), zlt6 (by omega), [some (zvr (k)), some (zvi (j_)), some (zvi (w_)), some (zvi ((i + 1))), none], ⟨rfl, rfl, rfl, rfl, rfl⟩, (i + 1), rfl, rfl, rfl, rfl, rfl, rfl, (by omega), ?_, (fun c j h0 h1 => ((p50bfr c j h0 h1).trans ((p44bfr c j h0 h1).trans ((fr c j h0 h1).trans rfl))))⟩
        · show zPG k (w ++ [34] ++ (wBd (otc O j_ w_) i ++ (if otc O j_ w_ i = 34 ∨ otc O j_ w_ i = 92 then [92, otc O j_ w_ i] else [otc O j_ w_ i]))) _
          first
          | (rw [if_pos (by omega), ← List.append_assoc, ← wA1, ← p22hv]
             exact p50hP2)
          | (rw [if_neg (by omega), ← List.append_assoc, ← p22hv]
             exact p50hP2)
      · refine And.intro ⟨(by omega), (zRb rfl)⟩ ⟨fun h38 => ?_, fun h38 => ?_⟩
        · refine And.intro (zDX hD 0 rfl) ⟨_, sn_O_emt.up (by decide), ?_⟩
          refine ⟨k, (w ++ [34] ++ wBd (otc O j_ w_) i), (v22o : Int), rfl, hS, hR, hD, (by omega), (by first | exact p44hP2 | exact hP1), (by omega), ?_⟩
          intro I50o p50hP2 p50bfr
          refine ⟨((5000 - (i + 1)), 0, 0), zlt6 (by omega), [some (zvr (k)), some (zvi (j_)), some (zvi (w_)), some (zvi ((i + 1))), none], ⟨rfl, rfl, rfl, rfl, rfl⟩, (i + 1), rfl, rfl, rfl, rfl, rfl, rfl, (by omega), ?_, (fun c j h0 h1 => ((p50bfr c j h0 h1).trans ((fr c j h0 h1).trans rfl)))⟩
          · show zPG k (w ++ [34] ++ (wBd (otc O j_ w_) i ++ (if otc O j_ w_ i = 34 ∨ otc O j_ w_ i = 92 then [92, otc O j_ w_ i] else [otc O j_ w_ i]))) _
            first
            | (rw [if_pos (by omega), ← List.append_assoc, ← wA1, ← p22hv]
               exact p50hP2)
            | (rw [if_neg (by omega), ← List.append_assoc, ← p22hv]
               exact p50hP2)
        · refine And.intro (zDX hD 0 rfl) ⟨_, sn_O_emt.up (by decide), ?_⟩
          refine ⟨k, (w ++ [34] ++ wBd (otc O j_ w_) i), (92 : Int), rfl, hS, hR, hD, (by omega), hP1, (by omega), ?_⟩
          intro I44o p44hP2 p44bfr
          refine And.intro (zDX hD 0 rfl) ⟨_, sn_O_emt.up (by decide), ?_⟩
          refine ⟨k, ((w ++ [34] ++ wBd (otc O j_ w_) i) ++ [92]), (v22o : Int), rfl, hS, hR, hD, (by omega), (by first | exact p44hP2 | exact hP1), (by omega), ?_⟩
          intro I50o p50hP2 p50bfr
          refine ⟨((5000 - (i + 1)), 0, 0), zlt6 (by omega), [some (zvr (k)), some (zvi (j_)), some (zvi (w_)), some (zvi ((i + 1))), none], ⟨rfl, rfl, rfl, rfl, rfl⟩, (i + 1), rfl, rfl, rfl, rfl, rfl, rfl, (by omega), ?_, (fun c j h0 h1 => ((p50bfr c j h0 h1).trans ((p44bfr c j h0 h1).trans ((fr c j h0 h1).trans rfl))))⟩
          · show zPG k (w ++ [34] ++ (wBd (otc O j_ w_) i ++ (if otc O j_ w_ i = 34 ∨ otc O j_ w_ i = 92 then [92, otc O j_ w_ i] else [otc O j_ w_ i]))) _
            first
            | (rw [if_pos (by omega), ← List.append_assoc, ← wA1, ← p22hv]
               exact p50hP2)
            | (rw [if_neg (by omega), ← List.append_assoc, ← p22hv]
               exact p50hP2))
def T_O_whl : ZT := fun args I L R S Q => ∃ (k : Nat) (w : List Int) (v : Int), args = [zvr k, zvl v] ∧ (zSh S) ∧ (zRs R) ∧ (zDy zT2 zF2 k R S) ∧ (43 ≤ k ∧ k ≤ 52) ∧ (zPG k w I) ∧ (0 ≤ v ∧ v ≤ 9999) ∧ ∀ (I' : ZI), (zPG k (w ++ wWh v) I') → (∀ c j : Nat, ¬ (c = k ∧ j = 12) → ¬ c = k + 8 → I' c j = I c j) → Q none I' L R S
theorem sn_O_whl : ZSnd 2 2 10 T_O_whl := ZSnd.of (zT2_10 1) (by
  rintro args I L R S Q hz ⟨k, w, v, rfl, hS, hR, hD, hk, hP, hv, hQ⟩
  refine And.intro rfl ?_
  refine ⟨_, _, ⟨zW6i (zRL rfl), zW6i (zRL rfl)⟩, fun z10 c10 => ?_⟩
  refine And.intro c10.2.2 ⟨(fun h11 => False.elim (by omega)), fun h11 => ?_⟩
  refine And.intro (zRb rfl) (zbf rfl ?_)
  refine ⟨_, _, ⟨zW6i (by omega), zW6i (zRL rfl)⟩, fun z21 c21 => ?_⟩
  refine And.intro c21.2.2 ⟨fun h22 => ?_, fun h22 => ?_⟩
  · refine And.intro (zRb rfl) (zbf rfl ?_)
    refine ⟨_, _, ⟨(zW6i (by omega)), (zW6i (zRL rfl)), (by decide)⟩, (zdv (by omega) (fun q49 e49 => ?_))⟩
    refine ⟨_, _, ⟨(zW6i (by omega)), (zW6i (zRL rfl)), (by decide)⟩, (zdv (by omega) (fun q53 e53 => ?_))⟩
    refine ⟨_, (zWi (by omega)), ?_⟩
    refine And.intro (zDX hD 0 rfl) ⟨_, sn_O_emt.up (by decide), ?_⟩
    refine ⟨_, _, ((zi2c (48 + q53)) : Int), rfl, hS, hR, hD, (by omega), (by first | exact p57bbbbhP2 | exact p57bbhP2 | exact p57hP2 | exact hP), (by rw [zi2c_d (by omega)]; omega), ?_⟩
    intro I57o p57hP2 p57bfr
    refine ⟨_, _, ⟨(zW6i (zRL rfl)), (zW6i (zRL rfl)), (by decide)⟩, (zdv (by omega) (fun q65 e65 => ?_))⟩
    obtain rfl : q65 = 100 := (by omega)
    refine ⟨_, _, ⟨zW6i (zRL rfl), zW6i (zRL rfl)⟩, fun z10b c10b => ?_⟩
    refine And.intro c10b.2.2 ⟨(fun h11b => False.elim (by omega)), fun h11b => ?_⟩
    refine And.intro (zRb rfl) (zbt rfl ?_)
    refine And.intro (zRb rfl) (zbf rfl ?_)
    refine ⟨_, _, ⟨(zW6i (by omega)), (zW6i (zRL rfl)), (by decide)⟩, (zdv (by omega) (fun q49b e49b => ?_))⟩
    refine ⟨_, _, ⟨(zW6i (by omega)), (zW6i (zRL rfl)), (by decide)⟩, (zdv (by omega) (fun q53b e53b => ?_))⟩
    refine ⟨_, (zWi (by omega)), ?_⟩
    refine And.intro (zDX hD 0 rfl) ⟨_, sn_O_emt.up (by decide), ?_⟩
    refine ⟨_, _, ((zi2c (48 + q53b)) : Int), rfl, hS, hR, hD, (by omega), (by first | exact p57bbbbhP2 | exact p57bbhP2 | exact p57hP2 | exact hP), (by rw [zi2c_d (by omega)]; omega), ?_⟩
    intro I57bo p57bbhP2 p57bbbfr
    refine ⟨_, _, ⟨(zW6i (zRL rfl)), (zW6i (zRL rfl)), (by decide)⟩, (zdv (by omega) (fun q65b e65b => ?_))⟩
    obtain rfl : q65b = 10 := (by omega)
    refine ⟨_, _, ⟨zW6i (zRL rfl), zW6i (zRL rfl)⟩, fun z10bb c10bb => ?_⟩
    refine And.intro c10bb.2.2 ⟨(fun h11bb => False.elim (by omega)), fun h11bb => ?_⟩
    refine And.intro (zRb rfl) (zbt rfl ?_)
    refine And.intro (zRb rfl) (zbf rfl ?_)
    refine ⟨_, _, ⟨(zW6i (by omega)), (zW6i (zRL rfl)), (by decide)⟩, (zdv (by omega) (fun q49bb e49bb => ?_))⟩
    refine ⟨_, _, ⟨(zW6i (by omega)), (zW6i (zRL rfl)), (by decide)⟩, (zdv (by omega) (fun q53bb e53bb => ?_))⟩
    refine ⟨_, (zWi (by omega)), ?_⟩
    refine And.intro (zDX hD 0 rfl) ⟨_, sn_O_emt.up (by decide), ?_⟩
    refine ⟨_, _, ((zi2c (48 + q53bb)) : Int), rfl, hS, hR, hD, (by omega), (by first | exact p57bbbbhP2 | exact p57bbhP2 | exact p57hP2 | exact hP), (by rw [zi2c_d (by omega)]; omega), ?_⟩
    intro I57bbo p57bbbbhP2 p57bbbbbfr
    refine ⟨_, _, ⟨(zW6i (zRL rfl)), (zW6i (zRL rfl)), (by decide)⟩, (zdv (by omega) (fun q65bb e65bb => ?_))⟩
    obtain rfl : q65bb = 1 := (by omega)
    refine ⟨_, _, ⟨zW6i (zRL rfl), zW6i (zRL rfl)⟩, fun z10bbb c10bbb => ?_⟩
    refine And.intro c10bbb.2.2 ⟨(fun h11bbb => False.elim (by omega)), fun h11bbb => ?_⟩
    refine And.intro (zRb rfl) (zbt rfl ?_)
    refine And.intro (zRb rfl) (zbf rfl ?_)
    refine ⟨_, _, ⟨(zW6i (by omega)), (zW6i (zRL rfl)), (by decide)⟩, (zdv (by omega) (fun q49bbb e49bbb => ?_))⟩
    refine ⟨_, _, ⟨(zW6i (by omega)), (zW6i (zRL rfl)), (by decide)⟩, (zdv (by omega) (fun q53bbb e53bbb => ?_))⟩
    refine ⟨_, (zWi (by omega)), ?_⟩
    refine And.intro (zDX hD 0 rfl) ⟨_, sn_O_emt.up (by decide), ?_⟩
    refine ⟨_, _, ((zi2c (48 + q53bbb)) : Int), rfl, hS, hR, hD, (by omega), (by first | exact p57bbbbhP2 | exact p57bbhP2 | exact p57hP2 | exact hP), (by rw [zi2c_d (by omega)]; omega), ?_⟩
    intro I57bbbo p57bbbbbbhP2 p57bbbbbbbfr
    refine ⟨_, _, ⟨(zW6i (zRL rfl)), (zW6i (zRL rfl)), (by decide)⟩, (zdv (by omega) (fun q65bbb e65bbb => ?_))⟩
    obtain rfl : q65bbb = 0 := (by omega)
    refine ⟨_, _, ⟨zW6i (zRL rfl), zW6i (zRL rfl)⟩, fun z10bbbb c10bbbb => ?_⟩
    refine And.intro c10bbbb.2.2 ⟨fun h11bbbb => ?_, (fun h11bbbb => False.elim (by omega))⟩
    refine hQ _ ?_ (fun c j h0 h1 => ((p57bbbbbbbfr c j h0 h1).trans ((p57bbbbbfr c j h0 h1).trans ((p57bbbfr c j h0 h1).trans ((p57bfr c j h0 h1).trans rfl)))))
    · first
      | (rw [wWh_4 (by omega), ← wA3, ← (show zi2c (48 + q53) = wDg v 1000 from (zi2c_d (by omega)).trans (by unfold wDg; omega)), ← (show zi2c (48 + q53b) = wDg v 100 from (zi2c_d (by omega)).trans (by unfold wDg; omega)), ← (show zi2c (48 + q53bb) = wDg v 10 from (zi2c_d (by omega)).trans (by unfold wDg; omega)), ← (show zi2c (48 + q53bbb) = wDg v 1 from (zi2c_d (by omega)).trans (by unfold wDg; omega))]
         exact p57bbbbbbhP2)
      | (rw [wWh_3 (by omega) (by omega), ← wA2, ← (show zi2c (48 + q53) = wDg v 100 from (zi2c_d (by omega)).trans (by unfold wDg; omega)), ← (show zi2c (48 + q53b) = wDg v 10 from (zi2c_d (by omega)).trans (by unfold wDg; omega)), ← (show zi2c (48 + q53bb) = wDg v 1 from (zi2c_d (by omega)).trans (by unfold wDg; omega))]
         exact p57bbbbhP2)
      | (rw [wWh_2 (by omega) (by omega), ← wA1, ← (show zi2c (48 + q53) = wDg v 10 from (zi2c_d (by omega)).trans (by unfold wDg; omega)), ← (show zi2c (48 + q53b) = wDg v 1 from (zi2c_d (by omega)).trans (by unfold wDg; omega))]
         exact p57bbhP2)
      | (rw [wWh_1 (by omega), ← (show zi2c (48 + q53) = wDg v 1 from (zi2c_d (by omega)).trans (by unfold wDg; omega))]
         exact p57hP2)
  · refine ⟨_, _, ⟨zW6i (zRL rfl), zW6i (zRL rfl)⟩, fun z28 c28 => ?_⟩
    refine And.intro c28.2.2 ⟨fun h29 => ?_, (fun h29 => False.elim (by omega))⟩
    refine And.intro (zRb rfl) (zbt rfl ?_)
    refine ⟨_, _, ⟨(zW6i (zRL rfl)), (zW6i (zRL rfl)), (by decide)⟩, (zdv (by omega) (fun q65 e65 => ?_))⟩
    obtain rfl : q65 = 100 := (by omega)
    refine ⟨_, _, ⟨zW6i (zRL rfl), zW6i (zRL rfl)⟩, fun z10b c10b => ?_⟩
    refine And.intro c10b.2.2 ⟨(fun h11b => False.elim (by omega)), fun h11b => ?_⟩
    refine And.intro (zRb rfl) (zbf rfl ?_)
    refine ⟨_, _, ⟨zW6i (by omega), zW6i (zRL rfl)⟩, fun z21b c21b => ?_⟩
    refine And.intro c21b.2.2 ⟨fun h22b => ?_, fun h22b => ?_⟩
    · refine And.intro (zRb rfl) (zbf rfl ?_)
      refine ⟨_, _, ⟨(zW6i (by omega)), (zW6i (zRL rfl)), (by decide)⟩, (zdv (by omega) (fun q49 e49 => ?_))⟩
      refine ⟨_, _, ⟨(zW6i (by omega)), (zW6i (zRL rfl)), (by decide)⟩, (zdv (by omega) (fun q53 e53 => ?_))⟩
      refine ⟨_, (zWi (by omega)), ?_⟩
      refine And.intro (zDX hD 0 rfl) ⟨_, sn_O_emt.up (by decide), ?_⟩
      refine ⟨_, _, ((zi2c (48 + q53)) : Int), rfl, hS, hR, hD, (by omega), (by first | exact p57bbbbhP2 | exact p57bbhP2 | exact p57hP2 | exact hP), (by rw [zi2c_d (by omega)]; omega), ?_⟩
      intro I57o p57hP2 p57bfr
      refine ⟨_, _, ⟨(zW6i (zRL rfl)), (zW6i (zRL rfl)), (by decide)⟩, (zdv (by omega) (fun q65b e65b => ?_))⟩
      obtain rfl : q65b = 10 := (by omega)
      refine ⟨_, _, ⟨zW6i (zRL rfl), zW6i (zRL rfl)⟩, fun z10bb c10bb => ?_⟩
      refine And.intro c10bb.2.2 ⟨(fun h11bb => False.elim (by omega)), fun h11bb => ?_⟩
      refine And.intro (zRb rfl) (zbt rfl ?_)
      refine And.intro (zRb rfl) (zbf rfl ?_)
      refine ⟨_, _, ⟨(zW6i (by omega)), (zW6i (zRL rfl)), (by decide)⟩, (zdv (by omega) (fun q49b e49b => ?_))⟩
      refine ⟨_, _, ⟨(zW6i (by omega)), (zW6i (zRL rfl)), (by decide)⟩, (zdv (by omega) (fun q53b e53b => ?_))⟩
      refine ⟨_, (zWi (by omega)), ?_⟩
      refine And.intro (zDX hD 0 rfl) ⟨_, sn_O_emt.up (by decide), ?_⟩
      refine ⟨_, _, ((zi2c (48 + q53b)) : Int), rfl, hS, hR, hD, (by omega), (by first | exact p57bbbbhP2 | exact p57bbhP2 | exact p57hP2 | exact hP), (by rw [zi2c_d (by omega)]; omega), ?_⟩
      intro I57bo p57bbhP2 p57bbbfr
      refine ⟨_, _, ⟨(zW6i (zRL rfl)), (zW6i (zRL rfl)), (by decide)⟩, (zdv (by omega) (fun q65bb e65bb => ?_))⟩
      obtain rfl : q65bb = 1 := (by omega)
      refine ⟨_, _, ⟨zW6i (zRL rfl), zW6i (zRL rfl)⟩, fun z10bbb c10bbb => ?_⟩
      refine And.intro c10bbb.2.2 ⟨(fun h11bbb => False.elim (by omega)), fun h11bbb => ?_⟩
      refine And.intro (zRb rfl) (zbt rfl ?_)
      refine And.intro (zRb rfl) (zbf rfl ?_)
      refine ⟨_, _, ⟨(zW6i (by omega)), (zW6i (zRL rfl)), (by decide)⟩, (zdv (by omega) (fun q49bb e49bb => ?_))⟩
      refine ⟨_, _, ⟨(zW6i (by omega)), (zW6i (zRL rfl)), (by decide)⟩, (zdv (by omega) (fun q53bb e53bb => ?_))⟩
      refine ⟨_, (zWi (by omega)), ?_⟩
      refine And.intro (zDX hD 0 rfl) ⟨_, sn_O_emt.up (by decide), ?_⟩
      refine ⟨_, _, ((zi2c (48 + q53bb)) : Int), rfl, hS, hR, hD, (by omega), (by first | exact p57bbbbhP2 | exact p57bbhP2 | exact p57hP2 | exact hP), (by rw [zi2c_d (by omega)]; omega), ?_⟩
      intro I57bbo p57bbbbhP2 p57bbbbbfr
      refine ⟨_, _, ⟨(zW6i (zRL rfl)), (zW6i (zRL rfl)), (by decide)⟩, (zdv (by omega) (fun q65bbb e65bbb => ?_))⟩
      obtain rfl : q65bbb = 0 := (by omega)
      refine ⟨_, _, ⟨zW6i (zRL rfl), zW6i (zRL rfl)⟩, fun z10bbbb c10bbbb => ?_⟩
      refine And.intro c10bbbb.2.2 ⟨fun h11bbbb => ?_, (fun h11bbbb => False.elim (by omega))⟩
      refine hQ _ ?_ (fun c j h0 h1 => ((p57bbbbbfr c j h0 h1).trans ((p57bbbfr c j h0 h1).trans ((p57bfr c j h0 h1).trans rfl))))
      · first
        | (rw [wWh_4 (by omega), ← wA3, ← (show zi2c (48 + q53) = wDg v 1000 from (zi2c_d (by omega)).trans (by unfold wDg; omega)), ← (show zi2c (48 + q53b) = wDg v 100 from (zi2c_d (by omega)).trans (by unfold wDg; omega)), ← (show zi2c (48 + q53bb) = wDg v 10 from (zi2c_d (by omega)).trans (by unfold wDg; omega)), ← (show zi2c (48 + q53bbb) = wDg v 1 from (zi2c_d (by omega)).trans (by unfold wDg; omega))]
           exact p57bbbbbbhP2)
        | (rw [wWh_3 (by omega) (by omega), ← wA2, ← (show zi2c (48 + q53) = wDg v 100 from (zi2c_d (by omega)).trans (by unfold wDg; omega)), ← (show zi2c (48 + q53b) = wDg v 10 from (zi2c_d (by omega)).trans (by unfold wDg; omega)), ← (show zi2c (48 + q53bb) = wDg v 1 from (zi2c_d (by omega)).trans (by unfold wDg; omega))]
           exact p57bbbbhP2)
        | (rw [wWh_2 (by omega) (by omega), ← wA1, ← (show zi2c (48 + q53) = wDg v 10 from (zi2c_d (by omega)).trans (by unfold wDg; omega)), ← (show zi2c (48 + q53b) = wDg v 1 from (zi2c_d (by omega)).trans (by unfold wDg; omega))]
           exact p57bbhP2)
        | (rw [wWh_1 (by omega), ← (show zi2c (48 + q53) = wDg v 1 from (zi2c_d (by omega)).trans (by unfold wDg; omega))]
           exact p57hP2)
    · refine ⟨_, _, ⟨zW6i (zRL rfl), zW6i (zRL rfl)⟩, fun z28b c28b => ?_⟩
      refine And.intro c28b.2.2 ⟨fun h29b => ?_, (fun h29b => False.elim (by omega))⟩
      refine And.intro (zRb rfl) (zbt rfl ?_)
      refine ⟨_, _, ⟨(zW6i (zRL rfl)), (zW6i (zRL rfl)), (by decide)⟩, (zdv (by omega) (fun q65b e65b => ?_))⟩
      obtain rfl : q65b = 10 := (by omega)
      refine ⟨_, _, ⟨zW6i (zRL rfl), zW6i (zRL rfl)⟩, fun z10bb c10bb => ?_⟩
      refine And.intro c10bb.2.2 ⟨(fun h11bb => False.elim (by omega)), fun h11bb => ?_⟩
      refine And.intro (zRb rfl) (zbf rfl ?_)
      refine ⟨_, _, ⟨zW6i (by omega), zW6i (zRL rfl)⟩, fun z21bb c21bb => ?_⟩
      refine And.intro c21bb.2.2 ⟨fun h22bb => ?_, fun h22bb => ?_⟩
      · refine And.intro (zRb rfl) (zbf rfl ?_)
        refine ⟨_, _, ⟨(zW6i (by omega)), (zW6i (zRL rfl)), (by decide)⟩, (zdv (by omega) (fun q49 e49 => ?_))⟩
        refine ⟨_, _, ⟨(zW6i (by omega)), (zW6i (zRL rfl)), (by decide)⟩, (zdv (by omega) (fun q53 e53 => ?_))⟩
        refine ⟨_, (zWi (by omega)), ?_⟩
        refine And.intro (zDX hD 0 rfl) ⟨_, sn_O_emt.up (by decide), ?_⟩
        refine ⟨_, _, ((zi2c (48 + q53)) : Int), rfl, hS, hR, hD, (by omega), (by first | exact p57bbbbhP2 | exact p57bbhP2 | exact p57hP2 | exact hP), (by rw [zi2c_d (by omega)]; omega), ?_⟩
        intro I57o p57hP2 p57bfr
        refine ⟨_, _, ⟨(zW6i (zRL rfl)), (zW6i (zRL rfl)), (by decide)⟩, (zdv (by omega) (fun q65bb e65bb => ?_))⟩
        obtain rfl : q65bb = 1 := (by omega)
        refine ⟨_, _, ⟨zW6i (zRL rfl), zW6i (zRL rfl)⟩, fun z10bbb c10bbb => ?_⟩
        refine And.intro c10bbb.2.2 ⟨(fun h11bbb => False.elim (by omega)), fun h11bbb => ?_⟩
        refine And.intro (zRb rfl) (zbt rfl ?_)
        refine And.intro (zRb rfl) (zbf rfl ?_)
        refine ⟨_, _, ⟨(zW6i (by omega)), (zW6i (zRL rfl)), (by decide)⟩, (zdv (by omega) (fun q49b e49b => ?_))⟩
        refine ⟨_, _, ⟨(zW6i (by omega)), (zW6i (zRL rfl)), (by decide)⟩, (zdv (by omega) (fun q53b e53b => ?_))⟩
        refine ⟨_, (zWi (by omega)), ?_⟩
        refine And.intro (zDX hD 0 rfl) ⟨_, sn_O_emt.up (by decide), ?_⟩
        refine ⟨_, _, ((zi2c (48 + q53b)) : Int), rfl, hS, hR, hD, (by omega), (by first | exact p57bbbbhP2 | exact p57bbhP2 | exact p57hP2 | exact hP), (by rw [zi2c_d (by omega)]; omega), ?_⟩
        intro I57bo p57bbhP2 p57bbbfr
        refine ⟨_, _, ⟨(zW6i (zRL rfl)), (zW6i (zRL rfl)), (by decide)⟩, (zdv (by omega) (fun q65bbb e65bbb => ?_))⟩
        obtain rfl : q65bbb = 0 := (by omega)
        refine ⟨_, _, ⟨zW6i (zRL rfl), zW6i (zRL rfl)⟩, fun z10bbbb c10bbbb => ?_⟩
        refine And.intro c10bbbb.2.2 ⟨fun h11bbbb => ?_, (fun h11bbbb => False.elim (by omega))⟩
        refine hQ _ ?_ (fun c j h0 h1 => ((p57bbbfr c j h0 h1).trans ((p57bfr c j h0 h1).trans rfl)))
        · first
          | (rw [wWh_4 (by omega), ← wA3, ← (show zi2c (48 + q53) = wDg v 1000 from (zi2c_d (by omega)).trans (by unfold wDg; omega)), ← (show zi2c (48 + q53b) = wDg v 100 from (zi2c_d (by omega)).trans (by unfold wDg; omega)), ← (show zi2c (48 + q53bb) = wDg v 10 from (zi2c_d (by omega)).trans (by unfold wDg; omega)), ← (show zi2c (48 + q53bbb) = wDg v 1 from (zi2c_d (by omega)).trans (by unfold wDg; omega))]
             exact p57bbbbbbhP2)
          | (rw [wWh_3 (by omega) (by omega), ← wA2, ← (show zi2c (48 + q53) = wDg v 100 from (zi2c_d (by omega)).trans (by unfold wDg; omega)), ← (show zi2c (48 + q53b) = wDg v 10 from (zi2c_d (by omega)).trans (by unfold wDg; omega)), ← (show zi2c (48 + q53bb) = wDg v 1 from (zi2c_d (by omega)).trans (by unfold wDg; omega))]
             exact p57bbbbhP2)
          | (rw [wWh_2 (by omega) (by omega), ← wA1, ← (show zi2c (48 + q53) = wDg v 10 from (zi2c_d (by omega)).trans (by unfold wDg; omega)), ← (show zi2c (48 + q53b) = wDg v 1 from (zi2c_d (by omega)).trans (by unfold wDg; omega))]
             exact p57bbhP2)
          | (rw [wWh_1 (by omega), ← (show zi2c (48 + q53) = wDg v 1 from (zi2c_d (by omega)).trans (by unfold wDg; omega))]
             exact p57hP2)
      · refine ⟨_, _, ⟨zW6i (zRL rfl), zW6i (zRL rfl)⟩, fun z28bb c28bb => ?_⟩
        refine And.intro c28bb.2.2 ⟨fun h29bb => ?_, (fun h29bb => False.elim (by omega))⟩
        refine And.intro (zRb rfl) (zbt rfl ?_)
        refine ⟨_, _, ⟨(zW6i (zRL rfl)), (zW6i (zRL rfl)), (by decide)⟩, (zdv (by omega) (fun q65bb e65bb => ?_))⟩
        obtain rfl : q65bb = 1 := (by omega)
        refine ⟨_, _, ⟨zW6i (zRL rfl), zW6i (zRL rfl)⟩, fun z10bbb c10bbb => ?_⟩
        refine And.intro c10bbb.2.2 ⟨(fun h11bbb => False.elim (by omega)), fun h11bbb => ?_⟩
        refine And.intro (zRb rfl) (zbf rfl ?_)
        refine ⟨_, _, ⟨zW6i (by omega), zW6i (zRL rfl)⟩, fun z21bbb c21bbb => ?_⟩
        refine And.intro c21bbb.2.2 ⟨fun h22bbb => ?_, fun h22bbb => ?_⟩
        · refine And.intro (zRb rfl) (zbf rfl ?_)
          refine ⟨_, _, ⟨(zW6i (by omega)), (zW6i (zRL rfl)), (by decide)⟩, (zdv (by omega) (fun q49 e49 => ?_))⟩
          refine ⟨_, _, ⟨(zW6i (by omega)), (zW6i (zRL rfl)), (by decide)⟩, (zdv (by omega) (fun q53 e53 => ?_))⟩
          refine ⟨_, (zWi (by omega)), ?_⟩
          refine And.intro (zDX hD 0 rfl) ⟨_, sn_O_emt.up (by decide), ?_⟩
          refine ⟨_, _, ((zi2c (48 + q53)) : Int), rfl, hS, hR, hD, (by omega), (by first | exact p57bbbbhP2 | exact p57bbhP2 | exact p57hP2 | exact hP), (by rw [zi2c_d (by omega)]; omega), ?_⟩
          intro I57o p57hP2 p57bfr
          refine ⟨_, _, ⟨(zW6i (zRL rfl)), (zW6i (zRL rfl)), (by decide)⟩, (zdv (by omega) (fun q65bbb e65bbb => ?_))⟩
          obtain rfl : q65bbb = 0 := (by omega)
          refine ⟨_, _, ⟨zW6i (zRL rfl), zW6i (zRL rfl)⟩, fun z10bbbb c10bbbb => ?_⟩
          refine And.intro c10bbbb.2.2 ⟨fun h11bbbb => ?_, (fun h11bbbb => False.elim (by omega))⟩
          refine hQ _ ?_ (fun c j h0 h1 => ((p57bfr c j h0 h1).trans rfl))
          · first
            | (rw [wWh_4 (by omega), ← wA3, ← (show zi2c (48 + q53) = wDg v 1000 from (zi2c_d (by omega)).trans (by unfold wDg; omega)), ← (show zi2c (48 + q53b) = wDg v 100 from (zi2c_d (by omega)).trans (by unfold wDg; omega)), ← (show zi2c (48 + q53bb) = wDg v 10 from (zi2c_d (by omega)).trans (by unfold wDg; omega)), ← (show zi2c (48 + q53bbb) = wDg v 1 from (zi2c_d (by omega)).trans (by unfold wDg; omega))]
               exact p57bbbbbbhP2)
            | (rw [wWh_3 (by omega) (by omega), ← wA2, ← (show zi2c (48 + q53) = wDg v 100 from (zi2c_d (by omega)).trans (by unfold wDg; omega)), ← (show zi2c (48 + q53b) = wDg v 10 from (zi2c_d (by omega)).trans (by unfold wDg; omega)), ← (show zi2c (48 + q53bb) = wDg v 1 from (zi2c_d (by omega)).trans (by unfold wDg; omega))]
               exact p57bbbbhP2)
            | (rw [wWh_2 (by omega) (by omega), ← wA1, ← (show zi2c (48 + q53) = wDg v 10 from (zi2c_d (by omega)).trans (by unfold wDg; omega)), ← (show zi2c (48 + q53b) = wDg v 1 from (zi2c_d (by omega)).trans (by unfold wDg; omega))]
               exact p57bbhP2)
            | (rw [wWh_1 (by omega), ← (show zi2c (48 + q53) = wDg v 1 from (zi2c_d (by omega)).trans (by unfold wDg; omega))]
               exact p57hP2)
        · refine ⟨_, _, ⟨zW6i (zRL rfl), zW6i (zRL rfl)⟩, fun z28bbb c28bbb => ?_⟩
          refine And.intro c28bbb.2.2 ⟨(fun h29bbb => False.elim (by omega)), fun h29bbb => ?_⟩
          refine And.intro (zRb rfl) (zbf rfl ?_)
          refine ⟨_, _, ⟨(zW6i (by omega)), (zW6i (zRL rfl)), (by decide)⟩, (zdv (by omega) (fun q49 e49 => ?_))⟩
          refine ⟨_, _, ⟨(zW6i (by omega)), (zW6i (zRL rfl)), (by decide)⟩, (zdv (by omega) (fun q53 e53 => ?_))⟩
          refine ⟨_, (zWi (by omega)), ?_⟩
          refine And.intro (zDX hD 0 rfl) ⟨_, sn_O_emt.up (by decide), ?_⟩
          refine ⟨_, _, ((zi2c (48 + q53)) : Int), rfl, hS, hR, hD, (by omega), (by first | exact p57bbbbhP2 | exact p57bbhP2 | exact p57hP2 | exact hP), (by rw [zi2c_d (by omega)]; omega), ?_⟩
          intro I57o p57hP2 p57bfr
          refine ⟨_, _, ⟨(zW6i (zRL rfl)), (zW6i (zRL rfl)), (by decide)⟩, (zdv (by omega) (fun q65bbb e65bbb => ?_))⟩
          obtain rfl : q65bbb = 0 := (by omega)
          refine ⟨_, _, ⟨zW6i (zRL rfl), zW6i (zRL rfl)⟩, fun z10bbbb c10bbbb => ?_⟩
          refine And.intro c10bbbb.2.2 ⟨fun h11bbbb => ?_, (fun h11bbbb => False.elim (by omega))⟩
          refine hQ _ ?_ (fun c j h0 h1 => ((p57bfr c j h0 h1).trans rfl))
          · first
            | (rw [wWh_4 (by omega), ← wA3, ← (show zi2c (48 + q53) = wDg v 1000 from (zi2c_d (by omega)).trans (by unfold wDg; omega)), ← (show zi2c (48 + q53b) = wDg v 100 from (zi2c_d (by omega)).trans (by unfold wDg; omega)), ← (show zi2c (48 + q53bb) = wDg v 10 from (zi2c_d (by omega)).trans (by unfold wDg; omega)), ← (show zi2c (48 + q53bbb) = wDg v 1 from (zi2c_d (by omega)).trans (by unfold wDg; omega))]
               exact p57bbbbbbhP2)
            | (rw [wWh_3 (by omega) (by omega), ← wA2, ← (show zi2c (48 + q53) = wDg v 100 from (zi2c_d (by omega)).trans (by unfold wDg; omega)), ← (show zi2c (48 + q53b) = wDg v 10 from (zi2c_d (by omega)).trans (by unfold wDg; omega)), ← (show zi2c (48 + q53bb) = wDg v 1 from (zi2c_d (by omega)).trans (by unfold wDg; omega))]
               exact p57bbbbhP2)
            | (rw [wWh_2 (by omega) (by omega), ← wA1, ← (show zi2c (48 + q53) = wDg v 10 from (zi2c_d (by omega)).trans (by unfold wDg; omega)), ← (show zi2c (48 + q53b) = wDg v 1 from (zi2c_d (by omega)).trans (by unfold wDg; omega))]
               exact p57bbhP2)
            | (rw [wWh_1 (by omega), ← (show zi2c (48 + q53) = wDg v 1 from (zi2c_d (by omega)).trans (by unfold wDg; omega))]
               exact p57hP2))
def T_O_frc : ZT := fun args I L R S Q => ∃ (k : Nat) (w : List Int) (v : Int), args = [zvr k, zvl v] ∧ (zSh S) ∧ (zRs R) ∧ (zDy zT2 zF2 k R S) ∧ (43 ≤ k ∧ k ≤ 52) ∧ (zPG k w I) ∧ (0 ≤ v ∧ v ≤ 999999) ∧ ∀ (I' : ZI), (zPG k (w ++ wFr v) I') → (∀ c j : Nat, ¬ (c = k ∧ j = 12) → ¬ c = k + 8 → I' c j = I c j) → Q none I' L R S
theorem sn_O_frc : ZSnd 2 2 4 T_O_frc := ZSnd.of (zT2_4 1) (by
  rintro args I L R S Q hz ⟨k, w, v, rfl, hS, hR, hD, hk, hP, hv, hQ⟩
  refine And.intro rfl ?_
  refine ⟨_, _, ⟨zW6i (by omega), zW6i (zRL rfl)⟩, fun z2 c2 => ?_⟩
  refine And.intro c2.2.2 ⟨fun h3 => ?_, fun h3 => ?_⟩
  · refine ⟨_, _, ⟨zW6i (zRL rfl), zW6i (zRL rfl)⟩, fun z22 c22 => ?_⟩
    refine And.intro c22.2.2 ⟨(fun h23 => False.elim (by omega)), fun h23 => ?_⟩
    refine ⟨_, _, ⟨zW6i (by omega), zW6i (zRL rfl)⟩, fun z28 c28 => ?_⟩
    refine And.intro c28.2.2 ⟨fun h29 => ?_, (fun h29 => False.elim (by omega))⟩
    refine hQ _ ?_ (fun c j h0 h1 => rfl)
    · first
      | (rw [wFr_n (by omega), List.append_nil]
         exact hP)
      | (rw [wFr_y (by omega), wFd_e (k := 5) (r := v) (d := zi2c (48 + q39)) (m := q49) (by omega) ((zi2c_d (by omega)).trans (by show _ = _ / 100000 + 48; omega)) (by show _ = _ % 100000; omega), wFd_e (k := 4) (r := q49) (d := zi2c (48 + q39b)) (m := q49b) (by omega) ((zi2c_d (by omega)).trans (by show _ = _ / 10000 + 48; omega)) (by show _ = _ % 10000; omega), wFd_e (k := 3) (r := q49b) (d := zi2c (48 + q39bb)) (m := q49bb) (by omega) ((zi2c_d (by omega)).trans (by show _ = _ / 1000 + 48; omega)) (by show _ = _ % 1000; omega), wFd_e (k := 2) (r := q49bb) (d := zi2c (48 + q39bbb)) (m := q49bbb) (by omega) ((zi2c_d (by omega)).trans (by show _ = _ / 100 + 48; omega)) (by show _ = _ % 100; omega), wFd_e (k := 1) (r := q49bbb) (d := zi2c (48 + q39bbbb)) (m := q49bbbb) (by omega) ((zi2c_d (by omega)).trans (by show _ = _ / 10 + 48; omega)) (by show _ = _ % 10; omega), wFd_e (k := 0) (r := q49bbbb) (d := zi2c (48 + q39bbbbb)) (m := q49bbbbb) (by omega) ((zi2c_d (by omega)).trans (by show _ = _ / 1 + 48; omega)) (by show _ = _ % 1; omega), show wFd 0 q49bbbbb = [] from rfl]
         simpa only [List.append_assoc, List.cons_append, List.nil_append] using p43bbbbbbbbbbhP2)
      | (rw [wFr_y (by omega), wFd_e (k := 5) (r := v) (d := zi2c (48 + q39)) (m := q49) (by omega) ((zi2c_d (by omega)).trans (by show _ = _ / 100000 + 48; omega)) (by show _ = _ % 100000; omega), wFd_e (k := 4) (r := q49) (d := zi2c (48 + q39b)) (m := q49b) (by omega) ((zi2c_d (by omega)).trans (by show _ = _ / 10000 + 48; omega)) (by show _ = _ % 10000; omega), wFd_e (k := 3) (r := q49b) (d := zi2c (48 + q39bb)) (m := q49bb) (by omega) ((zi2c_d (by omega)).trans (by show _ = _ / 1000 + 48; omega)) (by show _ = _ % 1000; omega), wFd_e (k := 2) (r := q49bb) (d := zi2c (48 + q39bbb)) (m := q49bbb) (by omega) ((zi2c_d (by omega)).trans (by show _ = _ / 100 + 48; omega)) (by show _ = _ % 100; omega), wFd_e (k := 1) (r := q49bbb) (d := zi2c (48 + q39bbbb)) (m := q49bbbb) (by omega) ((zi2c_d (by omega)).trans (by show _ = _ / 10 + 48; omega)) (by show _ = _ % 10; omega), wFd_n (by omega)]
         simpa only [List.append_assoc, List.cons_append, List.nil_append] using p43bbbbbbbbhP2)
      | (rw [wFr_y (by omega), wFd_e (k := 5) (r := v) (d := zi2c (48 + q39)) (m := q49) (by omega) ((zi2c_d (by omega)).trans (by show _ = _ / 100000 + 48; omega)) (by show _ = _ % 100000; omega), wFd_e (k := 4) (r := q49) (d := zi2c (48 + q39b)) (m := q49b) (by omega) ((zi2c_d (by omega)).trans (by show _ = _ / 10000 + 48; omega)) (by show _ = _ % 10000; omega), wFd_e (k := 3) (r := q49b) (d := zi2c (48 + q39bb)) (m := q49bb) (by omega) ((zi2c_d (by omega)).trans (by show _ = _ / 1000 + 48; omega)) (by show _ = _ % 1000; omega), wFd_e (k := 2) (r := q49bb) (d := zi2c (48 + q39bbb)) (m := q49bbb) (by omega) ((zi2c_d (by omega)).trans (by show _ = _ / 100 + 48; omega)) (by show _ = _ % 100; omega), wFd_n (by omega)]
         simpa only [List.append_assoc, List.cons_append, List.nil_append] using p43bbbbbbhP2)
      | (rw [wFr_y (by omega), wFd_e (k := 5) (r := v) (d := zi2c (48 + q39)) (m := q49) (by omega) ((zi2c_d (by omega)).trans (by show _ = _ / 100000 + 48; omega)) (by show _ = _ % 100000; omega), wFd_e (k := 4) (r := q49) (d := zi2c (48 + q39b)) (m := q49b) (by omega) ((zi2c_d (by omega)).trans (by show _ = _ / 10000 + 48; omega)) (by show _ = _ % 10000; omega), wFd_e (k := 3) (r := q49b) (d := zi2c (48 + q39bb)) (m := q49bb) (by omega) ((zi2c_d (by omega)).trans (by show _ = _ / 1000 + 48; omega)) (by show _ = _ % 1000; omega), wFd_n (by omega)]
         simpa only [List.append_assoc, List.cons_append, List.nil_append] using p43bbbbhP2)
      | (rw [wFr_y (by omega), wFd_e (k := 5) (r := v) (d := zi2c (48 + q39)) (m := q49) (by omega) ((zi2c_d (by omega)).trans (by show _ = _ / 100000 + 48; omega)) (by show _ = _ % 100000; omega), wFd_e (k := 4) (r := q49) (d := zi2c (48 + q39b)) (m := q49b) (by omega) ((zi2c_d (by omega)).trans (by show _ = _ / 10000 + 48; omega)) (by show _ = _ % 10000; omega), wFd_n (by omega)]
         simpa only [List.append_assoc, List.cons_append, List.nil_append] using p43bbhP2)
      | (rw [wFr_y (by omega), wFd_e (k := 5) (r := v) (d := zi2c (48 + q39)) (m := q49) (by omega) ((zi2c_d (by omega)).trans (by show _ = _ / 100000 + 48; omega)) (by show _ = _ % 100000; omega), wFd_n (by omega)]
         simpa only [List.append_assoc, List.cons_append, List.nil_append] using p43hP2)
  · refine And.intro (zDX hD 0 rfl) ⟨_, sn_O_emt.up (by decide), ?_⟩
    refine ⟨k, w, (46 : Int), rfl, hS, hR, hD, (by omega), (by first | exact (zPG_fr hP (fun c j h => rfl)) | (clear hQ; grind [xu])), (by omega), ?_⟩
    intro I9o p9hP2 p9bfr
    refine ⟨_, _, ⟨zW6i (zRL rfl), zW6i (zRL rfl)⟩, fun z22 c22 => ?_⟩
    refine And.intro c22.2.2 ⟨(fun h23 => False.elim (by omega)), fun h23 => ?_⟩
    refine ⟨_, _, ⟨zW6i (by omega), zW6i (zRL rfl)⟩, fun z28 c28 => ?_⟩
    refine And.intro c28.2.2 ⟨(fun h29 => False.elim (by omega)), fun h29 => ?_⟩
    refine ⟨_, _, ⟨(zW6i (by omega)), (zW6i (zRL rfl)), (by decide)⟩, (zdv (by omega) (fun q39 e39 => ?_))⟩
    refine ⟨_, (zWi (by omega)), ?_⟩
    refine And.intro (zDX hD 0 rfl) ⟨_, sn_O_emt.up (by decide), ?_⟩
    refine ⟨_, _, ((zi2c (48 + q39)) : Int), rfl, hS, hR, hD, (by omega), (by first | exact p43bbbbbbbbhP2 | exact p43bbbbbbhP2 | exact p43bbbbhP2 | exact p43bbhP2 | exact p43hP2 | exact p9hP2), (by rw [zi2c_d (by omega)]; omega), ?_⟩
    intro I43o p43hP2 p43bfr
    refine ⟨_, _, ⟨(zW6i (by omega)), (zW6i (zRL rfl)), (by decide)⟩, (zdv (by omega) (fun q49 e49 => ?_))⟩
    refine ⟨_, _, ⟨(zW6i (zRL rfl)), (zW6i (zRL rfl)), (by decide)⟩, (zdv (by omega) (fun q56 e56 => ?_))⟩
    obtain rfl : q56 = 10000 := (by omega)
    refine ⟨_, _, ⟨zW6i (zRL rfl), zW6i (zRL rfl)⟩, fun z22b c22b => ?_⟩
    refine And.intro c22b.2.2 ⟨(fun h23b => False.elim (by omega)), fun h23b => ?_⟩
    refine ⟨_, _, ⟨zW6i (by omega), zW6i (zRL rfl)⟩, fun z28b c28b => ?_⟩
    refine And.intro c28b.2.2 ⟨fun h29b => ?_, fun h29b => ?_⟩
    · refine hQ _ ?_ (fun c j h0 h1 => ((p43bfr c j h0 h1).trans ((p9bfr c j h0 h1).trans rfl)))
      · first
        | (rw [wFr_n (by omega), List.append_nil]
           exact hP)
        | (rw [wFr_y (by omega), wFd_e (k := 5) (r := v) (d := zi2c (48 + q39)) (m := q49) (by omega) ((zi2c_d (by omega)).trans (by show _ = _ / 100000 + 48; omega)) (by show _ = _ % 100000; omega), wFd_e (k := 4) (r := q49) (d := zi2c (48 + q39b)) (m := q49b) (by omega) ((zi2c_d (by omega)).trans (by show _ = _ / 10000 + 48; omega)) (by show _ = _ % 10000; omega), wFd_e (k := 3) (r := q49b) (d := zi2c (48 + q39bb)) (m := q49bb) (by omega) ((zi2c_d (by omega)).trans (by show _ = _ / 1000 + 48; omega)) (by show _ = _ % 1000; omega), wFd_e (k := 2) (r := q49bb) (d := zi2c (48 + q39bbb)) (m := q49bbb) (by omega) ((zi2c_d (by omega)).trans (by show _ = _ / 100 + 48; omega)) (by show _ = _ % 100; omega), wFd_e (k := 1) (r := q49bbb) (d := zi2c (48 + q39bbbb)) (m := q49bbbb) (by omega) ((zi2c_d (by omega)).trans (by show _ = _ / 10 + 48; omega)) (by show _ = _ % 10; omega), wFd_e (k := 0) (r := q49bbbb) (d := zi2c (48 + q39bbbbb)) (m := q49bbbbb) (by omega) ((zi2c_d (by omega)).trans (by show _ = _ / 1 + 48; omega)) (by show _ = _ % 1; omega), show wFd 0 q49bbbbb = [] from rfl]
           simpa only [List.append_assoc, List.cons_append, List.nil_append] using p43bbbbbbbbbbhP2)
        | (rw [wFr_y (by omega), wFd_e (k := 5) (r := v) (d := zi2c (48 + q39)) (m := q49) (by omega) ((zi2c_d (by omega)).trans (by show _ = _ / 100000 + 48; omega)) (by show _ = _ % 100000; omega), wFd_e (k := 4) (r := q49) (d := zi2c (48 + q39b)) (m := q49b) (by omega) ((zi2c_d (by omega)).trans (by show _ = _ / 10000 + 48; omega)) (by show _ = _ % 10000; omega), wFd_e (k := 3) (r := q49b) (d := zi2c (48 + q39bb)) (m := q49bb) (by omega) ((zi2c_d (by omega)).trans (by show _ = _ / 1000 + 48; omega)) (by show _ = _ % 1000; omega), wFd_e (k := 2) (r := q49bb) (d := zi2c (48 + q39bbb)) (m := q49bbb) (by omega) ((zi2c_d (by omega)).trans (by show _ = _ / 100 + 48; omega)) (by show _ = _ % 100; omega), wFd_e (k := 1) (r := q49bbb) (d := zi2c (48 + q39bbbb)) (m := q49bbbb) (by omega) ((zi2c_d (by omega)).trans (by show _ = _ / 10 + 48; omega)) (by show _ = _ % 10; omega), wFd_n (by omega)]
           simpa only [List.append_assoc, List.cons_append, List.nil_append] using p43bbbbbbbbhP2)
        | (rw [wFr_y (by omega), wFd_e (k := 5) (r := v) (d := zi2c (48 + q39)) (m := q49) (by omega) ((zi2c_d (by omega)).trans (by show _ = _ / 100000 + 48; omega)) (by show _ = _ % 100000; omega), wFd_e (k := 4) (r := q49) (d := zi2c (48 + q39b)) (m := q49b) (by omega) ((zi2c_d (by omega)).trans (by show _ = _ / 10000 + 48; omega)) (by show _ = _ % 10000; omega), wFd_e (k := 3) (r := q49b) (d := zi2c (48 + q39bb)) (m := q49bb) (by omega) ((zi2c_d (by omega)).trans (by show _ = _ / 1000 + 48; omega)) (by show _ = _ % 1000; omega), wFd_e (k := 2) (r := q49bb) (d := zi2c (48 + q39bbb)) (m := q49bbb) (by omega) ((zi2c_d (by omega)).trans (by show _ = _ / 100 + 48; omega)) (by show _ = _ % 100; omega), wFd_n (by omega)]
           simpa only [List.append_assoc, List.cons_append, List.nil_append] using p43bbbbbbhP2)
        | (rw [wFr_y (by omega), wFd_e (k := 5) (r := v) (d := zi2c (48 + q39)) (m := q49) (by omega) ((zi2c_d (by omega)).trans (by show _ = _ / 100000 + 48; omega)) (by show _ = _ % 100000; omega), wFd_e (k := 4) (r := q49) (d := zi2c (48 + q39b)) (m := q49b) (by omega) ((zi2c_d (by omega)).trans (by show _ = _ / 10000 + 48; omega)) (by show _ = _ % 10000; omega), wFd_e (k := 3) (r := q49b) (d := zi2c (48 + q39bb)) (m := q49bb) (by omega) ((zi2c_d (by omega)).trans (by show _ = _ / 1000 + 48; omega)) (by show _ = _ % 1000; omega), wFd_n (by omega)]
           simpa only [List.append_assoc, List.cons_append, List.nil_append] using p43bbbbhP2)
        | (rw [wFr_y (by omega), wFd_e (k := 5) (r := v) (d := zi2c (48 + q39)) (m := q49) (by omega) ((zi2c_d (by omega)).trans (by show _ = _ / 100000 + 48; omega)) (by show _ = _ % 100000; omega), wFd_e (k := 4) (r := q49) (d := zi2c (48 + q39b)) (m := q49b) (by omega) ((zi2c_d (by omega)).trans (by show _ = _ / 10000 + 48; omega)) (by show _ = _ % 10000; omega), wFd_n (by omega)]
           simpa only [List.append_assoc, List.cons_append, List.nil_append] using p43bbhP2)
        | (rw [wFr_y (by omega), wFd_e (k := 5) (r := v) (d := zi2c (48 + q39)) (m := q49) (by omega) ((zi2c_d (by omega)).trans (by show _ = _ / 100000 + 48; omega)) (by show _ = _ % 100000; omega), wFd_n (by omega)]
           simpa only [List.append_assoc, List.cons_append, List.nil_append] using p43hP2)
    · refine ⟨_, _, ⟨(zW6i (by omega)), (zW6i (zRL rfl)), (by decide)⟩, (zdv (by omega) (fun q39b e39b => ?_))⟩
      refine ⟨_, (zWi (by omega)), ?_⟩
      refine And.intro (zDX hD 0 rfl) ⟨_, sn_O_emt.up (by decide), ?_⟩
      refine ⟨_, _, ((zi2c (48 + q39b)) : Int), rfl, hS, hR, hD, (by omega), (by first | exact p43bbbbbbbbhP2 | exact p43bbbbbbhP2 | exact p43bbbbhP2 | exact p43bbhP2 | exact p43hP2 | exact p9hP2), (by rw [zi2c_d (by omega)]; omega), ?_⟩
      intro I43bo p43bbhP2 p43bbbfr
      refine ⟨_, _, ⟨(zW6i (by omega)), (zW6i (zRL rfl)), (by decide)⟩, (zdv (by omega) (fun q49b e49b => ?_))⟩
      refine ⟨_, _, ⟨(zW6i (zRL rfl)), (zW6i (zRL rfl)), (by decide)⟩, (zdv (by omega) (fun q56b e56b => ?_))⟩
      obtain rfl : q56b = 1000 := (by omega)
      refine ⟨_, _, ⟨zW6i (zRL rfl), zW6i (zRL rfl)⟩, fun z22bb c22bb => ?_⟩
      refine And.intro c22bb.2.2 ⟨(fun h23bb => False.elim (by omega)), fun h23bb => ?_⟩
      refine ⟨_, _, ⟨zW6i (by omega), zW6i (zRL rfl)⟩, fun z28bb c28bb => ?_⟩
      refine And.intro c28bb.2.2 ⟨fun h29bb => ?_, fun h29bb => ?_⟩
      · refine hQ _ ?_ (fun c j h0 h1 => ((p43bbbfr c j h0 h1).trans ((p43bfr c j h0 h1).trans ((p9bfr c j h0 h1).trans rfl))))
        · first
          | (rw [wFr_n (by omega), List.append_nil]
             exact hP)
          | (rw [wFr_y (by omega), wFd_e (k := 5) (r := v) (d := zi2c (48 + q39)) (m := q49) (by omega) ((zi2c_d (by omega)).trans (by show _ = _ / 100000 + 48; omega)) (by show _ = _ % 100000; omega), wFd_e (k := 4) (r := q49) (d := zi2c (48 + q39b)) (m := q49b) (by omega) ((zi2c_d (by omega)).trans (by show _ = _ / 10000 + 48; omega)) (by show _ = _ % 10000; omega), wFd_e (k := 3) (r := q49b) (d := zi2c (48 + q39bb)) (m := q49bb) (by omega) ((zi2c_d (by omega)).trans (by show _ = _ / 1000 + 48; omega)) (by show _ = _ % 1000; omega), wFd_e (k := 2) (r := q49bb) (d := zi2c (48 + q39bbb)) (m := q49bbb) (by omega) ((zi2c_d (by omega)).trans (by show _ = _ / 100 + 48; omega)) (by show _ = _ % 100; omega), wFd_e (k := 1) (r := q49bbb) (d := zi2c (48 + q39bbbb)) (m := q49bbbb) (by omega) ((zi2c_d (by omega)).trans (by show _ = _ / 10 + 48; omega)) (by show _ = _ % 10; omega), wFd_e (k := 0) (r := q49bbbb) (d := zi2c (48 + q39bbbbb)) (m := q49bbbbb) (by omega) ((zi2c_d (by omega)).trans (by show _ = _ / 1 + 48; omega)) (by show _ = _ % 1; omega), show wFd 0 q49bbbbb = [] from rfl]
             simpa only [List.append_assoc, List.cons_append, List.nil_append] using p43bbbbbbbbbbhP2)
          | (rw [wFr_y (by omega), wFd_e (k := 5) (r := v) (d := zi2c (48 + q39)) (m := q49) (by omega) ((zi2c_d (by omega)).trans (by show _ = _ / 100000 + 48; omega)) (by show _ = _ % 100000; omega), wFd_e (k := 4) (r := q49) (d := zi2c (48 + q39b)) (m := q49b) (by omega) ((zi2c_d (by omega)).trans (by show _ = _ / 10000 + 48; omega)) (by show _ = _ % 10000; omega), wFd_e (k := 3) (r := q49b) (d := zi2c (48 + q39bb)) (m := q49bb) (by omega) ((zi2c_d (by omega)).trans (by show _ = _ / 1000 + 48; omega)) (by show _ = _ % 1000; omega), wFd_e (k := 2) (r := q49bb) (d := zi2c (48 + q39bbb)) (m := q49bbb) (by omega) ((zi2c_d (by omega)).trans (by show _ = _ / 100 + 48; omega)) (by show _ = _ % 100; omega), wFd_e (k := 1) (r := q49bbb) (d := zi2c (48 + q39bbbb)) (m := q49bbbb) (by omega) ((zi2c_d (by omega)).trans (by show _ = _ / 10 + 48; omega)) (by show _ = _ % 10; omega), wFd_n (by omega)]
             simpa only [List.append_assoc, List.cons_append, List.nil_append] using p43bbbbbbbbhP2)
          | (rw [wFr_y (by omega), wFd_e (k := 5) (r := v) (d := zi2c (48 + q39)) (m := q49) (by omega) ((zi2c_d (by omega)).trans (by show _ = _ / 100000 + 48; omega)) (by show _ = _ % 100000; omega), wFd_e (k := 4) (r := q49) (d := zi2c (48 + q39b)) (m := q49b) (by omega) ((zi2c_d (by omega)).trans (by show _ = _ / 10000 + 48; omega)) (by show _ = _ % 10000; omega), wFd_e (k := 3) (r := q49b) (d := zi2c (48 + q39bb)) (m := q49bb) (by omega) ((zi2c_d (by omega)).trans (by show _ = _ / 1000 + 48; omega)) (by show _ = _ % 1000; omega), wFd_e (k := 2) (r := q49bb) (d := zi2c (48 + q39bbb)) (m := q49bbb) (by omega) ((zi2c_d (by omega)).trans (by show _ = _ / 100 + 48; omega)) (by show _ = _ % 100; omega), wFd_n (by omega)]
             simpa only [List.append_assoc, List.cons_append, List.nil_append] using p43bbbbbbhP2)
          | (rw [wFr_y (by omega), wFd_e (k := 5) (r := v) (d := zi2c (48 + q39)) (m := q49) (by omega) ((zi2c_d (by omega)).trans (by show _ = _ / 100000 + 48; omega)) (by show _ = _ % 100000; omega), wFd_e (k := 4) (r := q49) (d := zi2c (48 + q39b)) (m := q49b) (by omega) ((zi2c_d (by omega)).trans (by show _ = _ / 10000 + 48; omega)) (by show _ = _ % 10000; omega), wFd_e (k := 3) (r := q49b) (d := zi2c (48 + q39bb)) (m := q49bb) (by omega) ((zi2c_d (by omega)).trans (by show _ = _ / 1000 + 48; omega)) (by show _ = _ % 1000; omega), wFd_n (by omega)]
             simpa only [List.append_assoc, List.cons_append, List.nil_append] using p43bbbbhP2)
          | (rw [wFr_y (by omega), wFd_e (k := 5) (r := v) (d := zi2c (48 + q39)) (m := q49) (by omega) ((zi2c_d (by omega)).trans (by show _ = _ / 100000 + 48; omega)) (by show _ = _ % 100000; omega), wFd_e (k := 4) (r := q49) (d := zi2c (48 + q39b)) (m := q49b) (by omega) ((zi2c_d (by omega)).trans (by show _ = _ / 10000 + 48; omega)) (by show _ = _ % 10000; omega), wFd_n (by omega)]
             simpa only [List.append_assoc, List.cons_append, List.nil_append] using p43bbhP2)
          | (rw [wFr_y (by omega), wFd_e (k := 5) (r := v) (d := zi2c (48 + q39)) (m := q49) (by omega) ((zi2c_d (by omega)).trans (by show _ = _ / 100000 + 48; omega)) (by show _ = _ % 100000; omega), wFd_n (by omega)]
             simpa only [List.append_assoc, List.cons_append, List.nil_append] using p43hP2)
      · refine ⟨_, _, ⟨(zW6i (by omega)), (zW6i (zRL rfl)), (by decide)⟩, (zdv (by omega) (fun q39bb e39bb => ?_))⟩
        refine ⟨_, (zWi (by omega)), ?_⟩
        refine And.intro (zDX hD 0 rfl) ⟨_, sn_O_emt.up (by decide), ?_⟩
        refine ⟨_, _, ((zi2c (48 + q39bb)) : Int), rfl, hS, hR, hD, (by omega), (by first | exact p43bbbbbbbbhP2 | exact p43bbbbbbhP2 | exact p43bbbbhP2 | exact p43bbhP2 | exact p43hP2 | exact p9hP2), (by rw [zi2c_d (by omega)]; omega), ?_⟩
        intro I43bbo p43bbbbhP2 p43bbbbbfr
        refine ⟨_, _, ⟨(zW6i (by omega)), (zW6i (zRL rfl)), (by decide)⟩, (zdv (by omega) (fun q49bb e49bb => ?_))⟩
        refine ⟨_, _, ⟨(zW6i (zRL rfl)), (zW6i (zRL rfl)), (by decide)⟩, (zdv (by omega) (fun q56bb e56bb => ?_))⟩
        obtain rfl : q56bb = 100 := (by omega)
        refine ⟨_, _, ⟨zW6i (zRL rfl), zW6i (zRL rfl)⟩, fun z22bbb c22bbb => ?_⟩
        refine And.intro c22bbb.2.2 ⟨(fun h23bbb => False.elim (by omega)), fun h23bbb => ?_⟩
        refine ⟨_, _, ⟨zW6i (by omega), zW6i (zRL rfl)⟩, fun z28bbb c28bbb => ?_⟩
        refine And.intro c28bbb.2.2 ⟨fun h29bbb => ?_, fun h29bbb => ?_⟩
        · refine hQ _ ?_ (fun c j h0 h1 => ((p43bbbbbfr c j h0 h1).trans ((p43bbbfr c j h0 h1).trans ((p43bfr c j h0 h1).trans ((p9bfr c j h0 h1).trans rfl)))))
          · first
            | (rw [wFr_n (by omega), List.append_nil]
               exact hP)
            | (rw [wFr_y (by omega), wFd_e (k := 5) (r := v) (d := zi2c (48 + q39)) (m := q49) (by omega) ((zi2c_d (by omega)).trans (by show _ = _ / 100000 + 48; omega)) (by show _ = _ % 100000; omega), wFd_e (k := 4) (r := q49) (d := zi2c (48 + q39b)) (m := q49b) (by omega) ((zi2c_d (by omega)).trans (by show _ = _ / 10000 + 48; omega)) (by show _ = _ % 10000; omega), wFd_e (k := 3) (r := q49b) (d := zi2c (48 + q39bb)) (m := q49bb) (by omega) ((zi2c_d (by omega)).trans (by show _ = _ / 1000 + 48; omega)) (by show _ = _ % 1000; omega), wFd_e (k := 2) (r := q49bb) (d := zi2c (48 + q39bbb)) (m := q49bbb) (by omega) ((zi2c_d (by omega)).trans (by show _ = _ / 100 + 48; omega)) (by show _ = _ % 100; omega), wFd_e (k := 1) (r := q49bbb) (d := zi2c (48 + q39bbbb)) (m := q49bbbb) (by omega) ((zi2c_d (by omega)).trans (by show _ = _ / 10 + 48; omega)) (by show _ = _ % 10; omega), wFd_e (k := 0) (r := q49bbbb) (d := zi2c (48 + q39bbbbb)) (m := q49bbbbb) (by omega) ((zi2c_d (by omega)).trans (by show _ = _ / 1 + 48; omega)) (by show _ = _ % 1; omega), show wFd 0 q49bbbbb = [] from rfl]
               simpa only [List.append_assoc, List.cons_append, List.nil_append] using p43bbbbbbbbbbhP2)
            | (rw [wFr_y (by omega), wFd_e (k := 5) (r := v) (d := zi2c (48 + q39)) (m := q49) (by omega) ((zi2c_d (by omega)).trans (by show _ = _ / 100000 + 48; omega)) (by show _ = _ % 100000; omega), wFd_e (k := 4) (r := q49) (d := zi2c (48 + q39b)) (m := q49b) (by omega) ((zi2c_d (by omega)).trans (by show _ = _ / 10000 + 48; omega)) (by show _ = _ % 10000; omega), wFd_e (k := 3) (r := q49b) (d := zi2c (48 + q39bb)) (m := q49bb) (by omega) ((zi2c_d (by omega)).trans (by show _ = _ / 1000 + 48; omega)) (by show _ = _ % 1000; omega), wFd_e (k := 2) (r := q49bb) (d := zi2c (48 + q39bbb)) (m := q49bbb) (by omega) ((zi2c_d (by omega)).trans (by show _ = _ / 100 + 48; omega)) (by show _ = _ % 100; omega), wFd_e (k := 1) (r := q49bbb) (d := zi2c (48 + q39bbbb)) (m := q49bbbb) (by omega) ((zi2c_d (by omega)).trans (by show _ = _ / 10 + 48; omega)) (by show _ = _ % 10; omega), wFd_n (by omega)]
               simpa only [List.append_assoc, List.cons_append, List.nil_append] using p43bbbbbbbbhP2)
            | (rw [wFr_y (by omega), wFd_e (k := 5) (r := v) (d := zi2c (48 + q39)) (m := q49) (by omega) ((zi2c_d (by omega)).trans (by show _ = _ / 100000 + 48; omega)) (by show _ = _ % 100000; omega), wFd_e (k := 4) (r := q49) (d := zi2c (48 + q39b)) (m := q49b) (by omega) ((zi2c_d (by omega)).trans (by show _ = _ / 10000 + 48; omega)) (by show _ = _ % 10000; omega), wFd_e (k := 3) (r := q49b) (d := zi2c (48 + q39bb)) (m := q49bb) (by omega) ((zi2c_d (by omega)).trans (by show _ = _ / 1000 + 48; omega)) (by show _ = _ % 1000; omega), wFd_e (k := 2) (r := q49bb) (d := zi2c (48 + q39bbb)) (m := q49bbb) (by omega) ((zi2c_d (by omega)).trans (by show _ = _ / 100 + 48; omega)) (by show _ = _ % 100; omega), wFd_n (by omega)]
               simpa only [List.append_assoc, List.cons_append, List.nil_append] using p43bbbbbbhP2)
            | (rw [wFr_y (by omega), wFd_e (k := 5) (r := v) (d := zi2c (48 + q39)) (m := q49) (by omega) ((zi2c_d (by omega)).trans (by show _ = _ / 100000 + 48; omega)) (by show _ = _ % 100000; omega), wFd_e (k := 4) (r := q49) (d := zi2c (48 + q39b)) (m := q49b) (by omega) ((zi2c_d (by omega)).trans (by show _ = _ / 10000 + 48; omega)) (by show _ = _ % 10000; omega), wFd_e (k := 3) (r := q49b) (d := zi2c (48 + q39bb)) (m := q49bb) (by omega) ((zi2c_d (by omega)).trans (by show _ = _ / 1000 + 48; omega)) (by show _ = _ % 1000; omega), wFd_n (by omega)]
               simpa only [List.append_assoc, List.cons_append, List.nil_append] using p43bbbbhP2)
            | (rw [wFr_y (by omega), wFd_e (k := 5) (r := v) (d := zi2c (48 + q39)) (m := q49) (by omega) ((zi2c_d (by omega)).trans (by show _ = _ / 100000 + 48; omega)) (by show _ = _ % 100000; omega), wFd_e (k := 4) (r := q49) (d := zi2c (48 + q39b)) (m := q49b) (by omega) ((zi2c_d (by omega)).trans (by show _ = _ / 10000 + 48; omega)) (by show _ = _ % 10000; omega), wFd_n (by omega)]
               simpa only [List.append_assoc, List.cons_append, List.nil_append] using p43bbhP2)
            | (rw [wFr_y (by omega), wFd_e (k := 5) (r := v) (d := zi2c (48 + q39)) (m := q49) (by omega) ((zi2c_d (by omega)).trans (by show _ = _ / 100000 + 48; omega)) (by show _ = _ % 100000; omega), wFd_n (by omega)]
               simpa only [List.append_assoc, List.cons_append, List.nil_append] using p43hP2)
        · refine ⟨_, _, ⟨(zW6i (by omega)), (zW6i (zRL rfl)), (by decide)⟩, (zdv (by omega) (fun q39bbb e39bbb => ?_))⟩
          refine ⟨_, (zWi (by omega)), ?_⟩
          refine And.intro (zDX hD 0 rfl) ⟨_, sn_O_emt.up (by decide), ?_⟩
          refine ⟨_, _, ((zi2c (48 + q39bbb)) : Int), rfl, hS, hR, hD, (by omega), (by first | exact p43bbbbbbbbhP2 | exact p43bbbbbbhP2 | exact p43bbbbhP2 | exact p43bbhP2 | exact p43hP2 | exact p9hP2), (by rw [zi2c_d (by omega)]; omega), ?_⟩
          intro I43bbbo p43bbbbbbhP2 p43bbbbbbbfr
          refine ⟨_, _, ⟨(zW6i (by omega)), (zW6i (zRL rfl)), (by decide)⟩, (zdv (by omega) (fun q49bbb e49bbb => ?_))⟩
          refine ⟨_, _, ⟨(zW6i (zRL rfl)), (zW6i (zRL rfl)), (by decide)⟩, (zdv (by omega) (fun q56bbb e56bbb => ?_))⟩
          obtain rfl : q56bbb = 10 := (by omega)
          refine ⟨_, _, ⟨zW6i (zRL rfl), zW6i (zRL rfl)⟩, fun z22bbbb c22bbbb => ?_⟩
          refine And.intro c22bbbb.2.2 ⟨(fun h23bbbb => False.elim (by omega)), fun h23bbbb => ?_⟩
          refine ⟨_, _, ⟨zW6i (by omega), zW6i (zRL rfl)⟩, fun z28bbbb c28bbbb => ?_⟩
          refine And.intro c28bbbb.2.2 ⟨fun h29bbbb => ?_, fun h29bbbb => ?_⟩
          · refine hQ _ ?_ (fun c j h0 h1 => ((p43bbbbbbbfr c j h0 h1).trans ((p43bbbbbfr c j h0 h1).trans ((p43bbbfr c j h0 h1).trans ((p43bfr c j h0 h1).trans ((p9bfr c j h0 h1).trans rfl))))))
            · first
              | (rw [wFr_n (by omega), List.append_nil]
                 exact hP)
              | (rw [wFr_y (by omega), wFd_e (k := 5) (r := v) (d := zi2c (48 + q39)) (m := q49) (by omega) ((zi2c_d (by omega)).trans (by show _ = _ / 100000 + 48; omega)) (by show _ = _ % 100000; omega), wFd_e (k := 4) (r := q49) (d := zi2c (48 + q39b)) (m := q49b) (by omega) ((zi2c_d (by omega)).trans (by show _ = _ / 10000 + 48; omega)) (by show _ = _ % 10000; omega), wFd_e (k := 3) (r := q49b) (d := zi2c (48 + q39bb)) (m := q49bb) (by omega) ((zi2c_d (by omega)).trans (by show _ = _ / 1000 + 48; omega)) (by show _ = _ % 1000; omega), wFd_e (k := 2) (r := q49bb) (d := zi2c (48 + q39bbb)) (m := q49bbb) (by omega) ((zi2c_d (by omega)).trans (by show _ = _ / 100 + 48; omega)) (by show _ = _ % 100; omega), wFd_e (k := 1) (r := q49bbb) (d := zi2c (48 + q39bbbb)) (m := q49bbbb) (by omega) ((zi2c_d (by omega)).trans (by show _ = _ / 10 + 48; omega)) (by show _ = _ % 10; omega), wFd_e (k := 0) (r := q49bbbb) (d := zi2c (48 + q39bbbbb)) (m := q49bbbbb) (by omega) ((zi2c_d (by omega)).trans (by show _ = _ / 1 + 48; omega)) (by show _ = _ % 1; omega), show wFd 0 q49bbbbb = [] from rfl]
                 simpa only [List.append_assoc, List.cons_append, List.nil_append] using p43bbbbbbbbbbhP2)
              | (rw [wFr_y (by omega), wFd_e (k := 5) (r := v) (d := zi2c (48 + q39)) (m := q49) (by omega) ((zi2c_d (by omega)).trans (by show _ = _ / 100000 + 48; omega)) (by show _ = _ % 100000; omega), wFd_e (k := 4) (r := q49) (d := zi2c (48 + q39b)) (m := q49b) (by omega) ((zi2c_d (by omega)).trans (by show _ = _ / 10000 + 48; omega)) (by show _ = _ % 10000; omega), wFd_e (k := 3) (r := q49b) (d := zi2c (48 + q39bb)) (m := q49bb) (by omega) ((zi2c_d (by omega)).trans (by show _ = _ / 1000 + 48; omega)) (by show _ = _ % 1000; omega), wFd_e (k := 2) (r := q49bb) (d := zi2c (48 + q39bbb)) (m := q49bbb) (by omega) ((zi2c_d (by omega)).trans (by show _ = _ / 100 + 48; omega)) (by show _ = _ % 100; omega), wFd_e (k := 1) (r := q49bbb) (d := zi2c (48 + q39bbbb)) (m := q49bbbb) (by omega) ((zi2c_d (by omega)).trans (by show _ = _ / 10 + 48; omega)) (by show _ = _ % 10; omega), wFd_n (by omega)]
                 simpa only [List.append_assoc, List.cons_append, List.nil_append] using p43bbbbbbbbhP2)
              | (rw [wFr_y (by omega), wFd_e (k := 5) (r := v) (d := zi2c (48 + q39)) (m := q49) (by omega) ((zi2c_d (by omega)).trans (by show _ = _ / 100000 + 48; omega)) (by show _ = _ % 100000; omega), wFd_e (k := 4) (r := q49) (d := zi2c (48 + q39b)) (m := q49b) (by omega) ((zi2c_d (by omega)).trans (by show _ = _ / 10000 + 48; omega)) (by show _ = _ % 10000; omega), wFd_e (k := 3) (r := q49b) (d := zi2c (48 + q39bb)) (m := q49bb) (by omega) ((zi2c_d (by omega)).trans (by show _ = _ / 1000 + 48; omega)) (by show _ = _ % 1000; omega), wFd_e (k := 2) (r := q49bb) (d := zi2c (48 + q39bbb)) (m := q49bbb) (by omega) ((zi2c_d (by omega)).trans (by show _ = _ / 100 + 48; omega)) (by show _ = _ % 100; omega), wFd_n (by omega)]
                 simpa only [List.append_assoc, List.cons_append, List.nil_append] using p43bbbbbbhP2)
              | (rw [wFr_y (by omega), wFd_e (k := 5) (r := v) (d := zi2c (48 + q39)) (m := q49) (by omega) ((zi2c_d (by omega)).trans (by show _ = _ / 100000 + 48; omega)) (by show _ = _ % 100000; omega), wFd_e (k := 4) (r := q49) (d := zi2c (48 + q39b)) (m := q49b) (by omega) ((zi2c_d (by omega)).trans (by show _ = _ / 10000 + 48; omega)) (by show _ = _ % 10000; omega), wFd_e (k := 3) (r := q49b) (d := zi2c (48 + q39bb)) (m := q49bb) (by omega) ((zi2c_d (by omega)).trans (by show _ = _ / 1000 + 48; omega)) (by show _ = _ % 1000; omega), wFd_n (by omega)]
                 simpa only [List.append_assoc, List.cons_append, List.nil_append] using p43bbbbhP2)
              | (rw [wFr_y (by omega), wFd_e (k := 5) (r := v) (d := zi2c (48 + q39)) (m := q49) (by omega) ((zi2c_d (by omega)).trans (by show _ = _ / 100000 + 48; omega)) (by show _ = _ % 100000; omega), wFd_e (k := 4) (r := q49) (d := zi2c (48 + q39b)) (m := q49b) (by omega) ((zi2c_d (by omega)).trans (by show _ = _ / 10000 + 48; omega)) (by show _ = _ % 10000; omega), wFd_n (by omega)]
                 simpa only [List.append_assoc, List.cons_append, List.nil_append] using p43bbhP2)
              | (rw [wFr_y (by omega), wFd_e (k := 5) (r := v) (d := zi2c (48 + q39)) (m := q49) (by omega) ((zi2c_d (by omega)).trans (by show _ = _ / 100000 + 48; omega)) (by show _ = _ % 100000; omega), wFd_n (by omega)]
                 simpa only [List.append_assoc, List.cons_append, List.nil_append] using p43hP2)
          · refine ⟨_, _, ⟨(zW6i (by omega)), (zW6i (zRL rfl)), (by decide)⟩, (zdv (by omega) (fun q39bbbb e39bbbb => ?_))⟩
            refine ⟨_, (zWi (by omega)), ?_⟩
            refine And.intro (zDX hD 0 rfl) ⟨_, sn_O_emt.up (by decide), ?_⟩
            refine ⟨_, _, ((zi2c (48 + q39bbbb)) : Int), rfl, hS, hR, hD, (by omega), (by first | exact p43bbbbbbbbhP2 | exact p43bbbbbbhP2 | exact p43bbbbhP2 | exact p43bbhP2 | exact p43hP2 | exact p9hP2), (by rw [zi2c_d (by omega)]; omega), ?_⟩
            intro I43bbbbo p43bbbbbbbbhP2 p43bbbbbbbbbfr
            refine ⟨_, _, ⟨(zW6i (by omega)), (zW6i (zRL rfl)), (by decide)⟩, (zdv (by omega) (fun q49bbbb e49bbbb => ?_))⟩
            refine ⟨_, _, ⟨(zW6i (zRL rfl)), (zW6i (zRL rfl)), (by decide)⟩, (zdv (by omega) (fun q56bbbb e56bbbb => ?_))⟩
            obtain rfl : q56bbbb = 1 := (by omega)
            refine ⟨_, _, ⟨zW6i (zRL rfl), zW6i (zRL rfl)⟩, fun z22bbbbb c22bbbbb => ?_⟩
            refine And.intro c22bbbbb.2.2 ⟨(fun h23bbbbb => False.elim (by omega)), fun h23bbbbb => ?_⟩
            refine ⟨_, _, ⟨zW6i (by omega), zW6i (zRL rfl)⟩, fun z28bbbbb c28bbbbb => ?_⟩
            refine And.intro c28bbbbb.2.2 ⟨fun h29bbbbb => ?_, fun h29bbbbb => ?_⟩
            · refine hQ _ ?_ (fun c j h0 h1 => ((p43bbbbbbbbbfr c j h0 h1).trans ((p43bbbbbbbfr c j h0 h1).trans ((p43bbbbbfr c j h0 h1).trans ((p43bbbfr c j h0 h1).trans ((p43bfr c j h0 h1).trans ((p9bfr c j h0 h1).trans rfl)))))))
              · first
                | (rw [wFr_n (by omega), List.append_nil]
                   exact hP)
                | (rw [wFr_y (by omega), wFd_e (k := 5) (r := v) (d := zi2c (48 + q39)) (m := q49) (by omega) ((zi2c_d (by omega)).trans (by show _ = _ / 100000 + 48; omega)) (by show _ = _ % 100000; omega), wFd_e (k := 4) (r := q49) (d := zi2c (48 + q39b)) (m := q49b) (by omega) ((zi2c_d (by omega)).trans (by show _ = _ / 10000 + 48; omega)) (by show _ = _ % 10000; omega), wFd_e (k := 3) (r := q49b) (d := zi2c (48 + q39bb)) (m := q49bb) (by omega) ((zi2c_d (by omega)).trans (by show _ = _ / 1000 + 48; omega)) (by show _ = _ % 1000; omega), wFd_e (k := 2) (r := q49bb) (d := zi2c (48 + q39bbb)) (m := q49bbb) (by omega) ((zi2c_d (by omega)).trans (by show _ = _ / 100 + 48; omega)) (by show _ = _ % 100; omega), wFd_e (k := 1) (r := q49bbb) (d := zi2c (48 + q39bbbb)) (m := q49bbbb) (by omega) ((zi2c_d (by omega)).trans (by show _ = _ / 10 + 48; omega)) (by show _ = _ % 10; omega), wFd_e (k := 0) (r := q49bbbb) (d := zi2c (48 + q39bbbbb)) (m := q49bbbbb) (by omega) ((zi2c_d (by omega)).trans (by show _ = _ / 1 + 48; omega)) (by show _ = _ % 1; omega), show wFd 0 q49bbbbb = [] from rfl]
                   simpa only [List.append_assoc, List.cons_append, List.nil_append] using p43bbbbbbbbbbhP2)
                | (rw [wFr_y (by omega), wFd_e (k := 5) (r := v) (d := zi2c (48 + q39)) (m := q49) (by omega) ((zi2c_d (by omega)).trans (by show _ = _ / 100000 + 48; omega)) (by show _ = _ % 100000; omega), wFd_e (k := 4) (r := q49) (d := zi2c (48 + q39b)) (m := q49b) (by omega) ((zi2c_d (by omega)).trans (by show _ = _ / 10000 + 48; omega)) (by show _ = _ % 10000; omega), wFd_e (k := 3) (r := q49b) (d := zi2c (48 + q39bb)) (m := q49bb) (by omega) ((zi2c_d (by omega)).trans (by show _ = _ / 1000 + 48; omega)) (by show _ = _ % 1000; omega), wFd_e (k := 2) (r := q49bb) (d := zi2c (48 + q39bbb)) (m := q49bbb) (by omega) ((zi2c_d (by omega)).trans (by show _ = _ / 100 + 48; omega)) (by show _ = _ % 100; omega), wFd_e (k := 1) (r := q49bbb) (d := zi2c (48 + q39bbbb)) (m := q49bbbb) (by omega) ((zi2c_d (by omega)).trans (by show _ = _ / 10 + 48; omega)) (by show _ = _ % 10; omega), wFd_n (by omega)]
                   simpa only [List.append_assoc, List.cons_append, List.nil_append] using p43bbbbbbbbhP2)
                | (rw [wFr_y (by omega), wFd_e (k := 5) (r := v) (d := zi2c (48 + q39)) (m := q49) (by omega) ((zi2c_d (by omega)).trans (by show _ = _ / 100000 + 48; omega)) (by show _ = _ % 100000; omega), wFd_e (k := 4) (r := q49) (d := zi2c (48 + q39b)) (m := q49b) (by omega) ((zi2c_d (by omega)).trans (by show _ = _ / 10000 + 48; omega)) (by show _ = _ % 10000; omega), wFd_e (k := 3) (r := q49b) (d := zi2c (48 + q39bb)) (m := q49bb) (by omega) ((zi2c_d (by omega)).trans (by show _ = _ / 1000 + 48; omega)) (by show _ = _ % 1000; omega), wFd_e (k := 2) (r := q49bb) (d := zi2c (48 + q39bbb)) (m := q49bbb) (by omega) ((zi2c_d (by omega)).trans (by show _ = _ / 100 + 48; omega)) (by show _ = _ % 100; omega), wFd_n (by omega)]
                   simpa only [List.append_assoc, List.cons_append, List.nil_append] using p43bbbbbbhP2)
                | (rw [wFr_y (by omega), wFd_e (k := 5) (r := v) (d := zi2c (48 + q39)) (m := q49) (by omega) ((zi2c_d (by omega)).trans (by show _ = _ / 100000 + 48; omega)) (by show _ = _ % 100000; omega), wFd_e (k := 4) (r := q49) (d := zi2c (48 + q39b)) (m := q49b) (by omega) ((zi2c_d (by omega)).trans (by show _ = _ / 10000 + 48; omega)) (by show _ = _ % 10000; omega), wFd_e (k := 3) (r := q49b) (d := zi2c (48 + q39bb)) (m := q49bb) (by omega) ((zi2c_d (by omega)).trans (by show _ = _ / 1000 + 48; omega)) (by show _ = _ % 1000; omega), wFd_n (by omega)]
                   simpa only [List.append_assoc, List.cons_append, List.nil_append] using p43bbbbhP2)
                | (rw [wFr_y (by omega), wFd_e (k := 5) (r := v) (d := zi2c (48 + q39)) (m := q49) (by omega) ((zi2c_d (by omega)).trans (by show _ = _ / 100000 + 48; omega)) (by show _ = _ % 100000; omega), wFd_e (k := 4) (r := q49) (d := zi2c (48 + q39b)) (m := q49b) (by omega) ((zi2c_d (by omega)).trans (by show _ = _ / 10000 + 48; omega)) (by show _ = _ % 10000; omega), wFd_n (by omega)]
                   simpa only [List.append_assoc, List.cons_append, List.nil_append] using p43bbhP2)
                | (rw [wFr_y (by omega), wFd_e (k := 5) (r := v) (d := zi2c (48 + q39)) (m := q49) (by omega) ((zi2c_d (by omega)).trans (by show _ = _ / 100000 + 48; omega)) (by show _ = _ % 100000; omega), wFd_n (by omega)]
                   simpa only [List.append_assoc, List.cons_append, List.nil_append] using p43hP2)
            · refine ⟨_, _, ⟨(zW6i (by omega)), (zW6i (zRL rfl)), (by decide)⟩, (zdv (by omega) (fun q39bbbbb e39bbbbb => ?_))⟩
              refine ⟨_, (zWi (by omega)), ?_⟩
              refine And.intro (zDX hD 0 rfl) ⟨_, sn_O_emt.up (by decide), ?_⟩
              refine ⟨_, _, ((zi2c (48 + q39bbbbb)) : Int), rfl, hS, hR, hD, (by omega), (by first | exact p43bbbbbbbbhP2 | exact p43bbbbbbhP2 | exact p43bbbbhP2 | exact p43bbhP2 | exact p43hP2 | exact p9hP2), (by rw [zi2c_d (by omega)]; omega), ?_⟩
              intro I43bbbbbo p43bbbbbbbbbbhP2 p43bbbbbbbbbbbfr
              refine ⟨_, _, ⟨(zW6i (by omega)), (zW6i (zRL rfl)), (by decide)⟩, (zdv (by omega) (fun q49bbbbb e49bbbbb => ?_))⟩
              refine ⟨_, _, ⟨(zW6i (zRL rfl)), (zW6i (zRL rfl)), (by decide)⟩, (zdv (by omega) (fun q56bbbbb e56bbbbb => ?_))⟩
              obtain rfl : q56bbbbb = 0 := (by omega)
              refine ⟨_, _, ⟨zW6i (zRL rfl), zW6i (zRL rfl)⟩, fun z22bbbbbb c22bbbbbb => ?_⟩
              refine And.intro c22bbbbbb.2.2 ⟨fun h23bbbbbb => ?_, (fun h23bbbbbb => False.elim (by omega))⟩
              refine hQ _ ?_ (fun c j h0 h1 => ((p43bbbbbbbbbbbfr c j h0 h1).trans ((p43bbbbbbbbbfr c j h0 h1).trans ((p43bbbbbbbfr c j h0 h1).trans ((p43bbbbbfr c j h0 h1).trans ((p43bbbfr c j h0 h1).trans ((p43bfr c j h0 h1).trans ((p9bfr c j h0 h1).trans rfl))))))))
              · first
                | (rw [wFr_n (by omega), List.append_nil]
                   exact hP)
                | (rw [wFr_y (by omega), wFd_e (k := 5) (r := v) (d := zi2c (48 + q39)) (m := q49) (by omega) ((zi2c_d (by omega)).trans (by show _ = _ / 100000 + 48; omega)) (by show _ = _ % 100000; omega), wFd_e (k := 4) (r := q49) (d := zi2c (48 + q39b)) (m := q49b) (by omega) ((zi2c_d (by omega)).trans (by show _ = _ / 10000 + 48; omega)) (by show _ = _ % 10000; omega), wFd_e (k := 3) (r := q49b) (d := zi2c (48 + q39bb)) (m := q49bb) (by omega) ((zi2c_d (by omega)).trans (by show _ = _ / 1000 + 48; omega)) (by show _ = _ % 1000; omega), wFd_e (k := 2) (r := q49bb) (d := zi2c (48 + q39bbb)) (m := q49bbb) (by omega) ((zi2c_d (by omega)).trans (by show _ = _ / 100 + 48; omega)) (by show _ = _ % 100; omega), wFd_e (k := 1) (r := q49bbb) (d := zi2c (48 + q39bbbb)) (m := q49bbbb) (by omega) ((zi2c_d (by omega)).trans (by show _ = _ / 10 + 48; omega)) (by show _ = _ % 10; omega), wFd_e (k := 0) (r := q49bbbb) (d := zi2c (48 + q39bbbbb)) (m := q49bbbbb) (by omega) ((zi2c_d (by omega)).trans (by show _ = _ / 1 + 48; omega)) (by show _ = _ % 1; omega), show wFd 0 q49bbbbb = [] from rfl]
                   simpa only [List.append_assoc, List.cons_append, List.nil_append] using p43bbbbbbbbbbhP2)
                | (rw [wFr_y (by omega), wFd_e (k := 5) (r := v) (d := zi2c (48 + q39)) (m := q49) (by omega) ((zi2c_d (by omega)).trans (by show _ = _ / 100000 + 48; omega)) (by show _ = _ % 100000; omega), wFd_e (k := 4) (r := q49) (d := zi2c (48 + q39b)) (m := q49b) (by omega) ((zi2c_d (by omega)).trans (by show _ = _ / 10000 + 48; omega)) (by show _ = _ % 10000; omega), wFd_e (k := 3) (r := q49b) (d := zi2c (48 + q39bb)) (m := q49bb) (by omega) ((zi2c_d (by omega)).trans (by show _ = _ / 1000 + 48; omega)) (by show _ = _ % 1000; omega), wFd_e (k := 2) (r := q49bb) (d := zi2c (48 + q39bbb)) (m := q49bbb) (by omega) ((zi2c_d (by omega)).trans (by show _ = _ / 100 + 48; omega)) (by show _ = _ % 100; omega), wFd_e (k := 1) (r := q49bbb) (d := zi2c (48 + q39bbbb)) (m := q49bbbb) (by omega) ((zi2c_d (by omega)).trans (by show _ = _ / 10 + 48; omega)) (by show _ = _ % 10; omega), wFd_n (by omega)]
                   simpa only [List.append_assoc, List.cons_append, List.nil_append] using p43bbbbbbbbhP2)
                | (rw [wFr_y (by omega), wFd_e (k := 5) (r := v) (d := zi2c (48 + q39)) (m := q49) (by omega) ((zi2c_d (by omega)).trans (by show _ = _ / 100000 + 48; omega)) (by show _ = _ % 100000; omega), wFd_e (k := 4) (r := q49) (d := zi2c (48 + q39b)) (m := q49b) (by omega) ((zi2c_d (by omega)).trans (by show _ = _ / 10000 + 48; omega)) (by show _ = _ % 10000; omega), wFd_e (k := 3) (r := q49b) (d := zi2c (48 + q39bb)) (m := q49bb) (by omega) ((zi2c_d (by omega)).trans (by show _ = _ / 1000 + 48; omega)) (by show _ = _ % 1000; omega), wFd_e (k := 2) (r := q49bb) (d := zi2c (48 + q39bbb)) (m := q49bbb) (by omega) ((zi2c_d (by omega)).trans (by show _ = _ / 100 + 48; omega)) (by show _ = _ % 100; omega), wFd_n (by omega)]
                   simpa only [List.append_assoc, List.cons_append, List.nil_append] using p43bbbbbbhP2)
                | (rw [wFr_y (by omega), wFd_e (k := 5) (r := v) (d := zi2c (48 + q39)) (m := q49) (by omega) ((zi2c_d (by omega)).trans (by show _ = _ / 100000 + 48; omega)) (by show _ = _ % 100000; omega), wFd_e (k := 4) (r := q49) (d := zi2c (48 + q39b)) (m := q49b) (by omega) ((zi2c_d (by omega)).trans (by show _ = _ / 10000 + 48; omega)) (by show _ = _ % 10000; omega), wFd_e (k := 3) (r := q49b) (d := zi2c (48 + q39bb)) (m := q49bb) (by omega) ((zi2c_d (by omega)).trans (by show _ = _ / 1000 + 48; omega)) (by show _ = _ % 1000; omega), wFd_n (by omega)]
                   simpa only [List.append_assoc, List.cons_append, List.nil_append] using p43bbbbhP2)
                | (rw [wFr_y (by omega), wFd_e (k := 5) (r := v) (d := zi2c (48 + q39)) (m := q49) (by omega) ((zi2c_d (by omega)).trans (by show _ = _ / 100000 + 48; omega)) (by show _ = _ % 100000; omega), wFd_e (k := 4) (r := q49) (d := zi2c (48 + q39b)) (m := q49b) (by omega) ((zi2c_d (by omega)).trans (by show _ = _ / 10000 + 48; omega)) (by show _ = _ % 10000; omega), wFd_n (by omega)]
                   simpa only [List.append_assoc, List.cons_append, List.nil_append] using p43bbhP2)
                | (rw [wFr_y (by omega), wFd_e (k := 5) (r := v) (d := zi2c (48 + q39)) (m := q49) (by omega) ((zi2c_d (by omega)).trans (by show _ = _ / 100000 + 48; omega)) (by show _ = _ % 100000; omega), wFd_n (by omega)]
                   simpa only [List.append_assoc, List.cons_append, List.nil_append] using p43hP2))
