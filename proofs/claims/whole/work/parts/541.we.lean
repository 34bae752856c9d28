/-! we -/
def T_V_say : ZT := fun args I L R S Q => ∃ (k : Nat) (w : List Int) (u : Int), args = [zvr k, zvi u] ∧ (zDy zT20 zF20 k R S) ∧ (zPO k w I) ∧ (w.length + 1 ≤ 110000) ∧ (r32 u) ∧ ∀ (I' : ZI), (zPO k (w ++ [u]) I') → (∀ c j : Nat, ¬ (c = k ∧ j = 26) → ¬ c = k + 12 → I' c j = I c j) → Q none I' L R S
theorem sn_V_say : ZSnd 1 20 41 T_V_say := ZSnd.of (zT20_41 0) (by
  rintro args I L R S Q hz ⟨k, w, u, rfl, hD, hP, hl, hu, hQ⟩
  have hk40 := hD.1
  have q1 : I k 26 = w.length := hP.1
  refine And.intro rfl ?_
  refine And.intro (zDX hD 0 rfl) (zrdR (v := some (k + 12)) (zDR hD 11 rfl) ?_)
  refine And.intro (zDX hD 0 rfl) (zrd (v := (w.length)) q1 ?_)
  refine And.intro ⟨(by show 40 ≤ _; omega), (zDP hD 12 rfl rfl (by omega) (by omega))⟩ ⟨_, (zWi (by omega)), ?_⟩
  refine And.intro (zDX hD 0 rfl) (zrd (v := (w.length)) (zxu (by omega) q1) ?_)
  refine And.intro (zDX hD 0 rfl) ⟨_, (zWi (by omega)), ?_⟩
  refine hQ _ (zPO_e hP (zxe.trans (by omega)) (zxu (by omega) (zxe' (by omega))) (fun j hj => zxu (by omega) (zxs (by omega) rfl))) (fun c j h0 h1 => (zxcj h0 (zxu h1 rfl))))
def T_V_whl : ZT := fun args I L R S Q => ∃ (k : Nat) (w : List Int) (v : Int), args = [zvr k, zvl v] ∧ (zDy zT20 zF20 k R S) ∧ (zPO k w I) ∧ (w.length + 4 ≤ 110000) ∧ (0 ≤ v ∧ v ≤ 9999) ∧ ∀ (I' : ZI), (zPO k (w ++ wWh v) I') → (∀ c j : Nat, ¬ (c = k ∧ j = 26) → ¬ c = k + 12 → I' c j = I c j) → Q none I' L R S
theorem sn_V_whl : ZSnd 2 20 47 T_V_whl := ZSnd.of (zT20_47 1) (by
  rintro args I L R S Q hz ⟨k, w, v, rfl, hD, hP, hl, hv, hQ⟩
  have hk40 := hD.1
  refine And.intro rfl ?_
  refine ⟨_, _, ⟨(zW6i (by omega)), (zW6i (zRL rfl)), (by decide)⟩, (zdv (by omega) (fun q4 e4 => ?_))⟩
  refine ⟨_, _, ⟨zW6i (by omega), zW6i (zRL rfl)⟩, fun z8 c8 => ?_⟩
  refine And.intro c8.2.2 ⟨fun h9 => ?_, fun h9 => ?_⟩
  · refine ⟨_, _, ⟨zW6i (zRL rfl), zW6i (zRL rfl)⟩, fun z23 c23 => ?_⟩
    refine And.intro c23.2.2 ⟨(fun h24 => False.elim (by omega)), fun h24 => ?_⟩
    refine ⟨_, _, ⟨(zW6i (by omega)), (zW6i (zRL rfl)), (by decide)⟩, (zdv (by omega) (fun q30 e30 => ?_))⟩
    refine ⟨_, _, ⟨(zW6i (by omega)), (zW6i (zRL rfl)), (by decide)⟩, (zdv (by omega) (fun q34 e34 => ?_))⟩
    refine ⟨_, (zWi (by omega)), ?_⟩
    refine And.intro (zDX hD 0 rfl) ⟨_, sn_V_say.up (by decide), ?_⟩
    refine ⟨_, _, ((q34 + 48) : Int), rfl, hD, (by first | exact p39bbbbhP2 | exact p39bbhP2 | exact p39hP2 | exact hP), (by first | omega | (simp only [List.length_append, List.length_cons, List.length_nil]; omega)), (by omega), ?_⟩
    intro I39o p39hP2 p39bfr
    refine ⟨_, _, ⟨(zW6i (zRL rfl)), (zW6i (zRL rfl)), (by decide)⟩, (zdv (by omega) (fun q46 e46 => ?_))⟩
    obtain rfl : q46 = 0 := (by omega)
    refine ⟨_, _, ⟨zW6i (zRL rfl), zW6i (zRL rfl)⟩, fun z23b c23b => ?_⟩
    refine And.intro c23b.2.2 ⟨fun h24b => ?_, (fun h24b => False.elim (by omega))⟩
    refine hQ _ ?_ (fun c j h0 h1 => ((p39bfr c j h0 h1).trans rfl))
    · first
      | (rw [wWh_4 (by omega), ← wA3, ← (show q34 + 48 = wDg v 1000 from by unfold wDg; omega), ← (show q34b + 48 = wDg v 100 from by unfold wDg; omega), ← (show q34bb + 48 = wDg v 10 from by unfold wDg; omega), ← (show q34bbb + 48 = wDg v 1 from by unfold wDg; omega)]
         exact p39bbbbbbhP2)
      | (rw [wWh_3 (by omega) (by omega), ← wA2, ← (show q34 + 48 = wDg v 100 from by unfold wDg; omega), ← (show q34b + 48 = wDg v 10 from by unfold wDg; omega), ← (show q34bb + 48 = wDg v 1 from by unfold wDg; omega)]
         exact p39bbbbhP2)
      | (rw [wWh_2 (by omega) (by omega), ← wA1, ← (show q34 + 48 = wDg v 10 from by unfold wDg; omega), ← (show q34b + 48 = wDg v 1 from by unfold wDg; omega)]
         exact p39bbhP2)
      | (rw [wWh_1 (by omega), ← (show q34 + 48 = wDg v 1 from by unfold wDg; omega)]
         exact p39hP2)
  · refine ⟨_, _, ⟨(zW6i (by omega)), (zW6i (zRL rfl)), (by decide)⟩, (zdv (by omega) (fun q4b e4b => ?_))⟩
    refine ⟨_, _, ⟨zW6i (by omega), zW6i (zRL rfl)⟩, fun z8b c8b => ?_⟩
    refine And.intro c8b.2.2 ⟨fun h9b => ?_, fun h9b => ?_⟩
    · refine ⟨_, _, ⟨zW6i (zRL rfl), zW6i (zRL rfl)⟩, fun z23 c23 => ?_⟩
      refine And.intro c23.2.2 ⟨(fun h24 => False.elim (by omega)), fun h24 => ?_⟩
      refine ⟨_, _, ⟨(zW6i (by omega)), (zW6i (zRL rfl)), (by decide)⟩, (zdv (by omega) (fun q30 e30 => ?_))⟩
      refine ⟨_, _, ⟨(zW6i (by omega)), (zW6i (zRL rfl)), (by decide)⟩, (zdv (by omega) (fun q34 e34 => ?_))⟩
      refine ⟨_, (zWi (by omega)), ?_⟩
      refine And.intro (zDX hD 0 rfl) ⟨_, sn_V_say.up (by decide), ?_⟩
      refine ⟨_, _, ((q34 + 48) : Int), rfl, hD, (by first | exact p39bbbbhP2 | exact p39bbhP2 | exact p39hP2 | exact hP), (by first | omega | (simp only [List.length_append, List.length_cons, List.length_nil]; omega)), (by omega), ?_⟩
      intro I39o p39hP2 p39bfr
      refine ⟨_, _, ⟨(zW6i (zRL rfl)), (zW6i (zRL rfl)), (by decide)⟩, (zdv (by omega) (fun q46 e46 => ?_))⟩
      obtain rfl : q46 = 1 := (by omega)
      refine ⟨_, _, ⟨zW6i (zRL rfl), zW6i (zRL rfl)⟩, fun z23b c23b => ?_⟩
      refine And.intro c23b.2.2 ⟨(fun h24b => False.elim (by omega)), fun h24b => ?_⟩
      refine ⟨_, _, ⟨(zW6i (by omega)), (zW6i (zRL rfl)), (by decide)⟩, (zdv (by omega) (fun q30b e30b => ?_))⟩
      refine ⟨_, _, ⟨(zW6i (by omega)), (zW6i (zRL rfl)), (by decide)⟩, (zdv (by omega) (fun q34b e34b => ?_))⟩
      refine ⟨_, (zWi (by omega)), ?_⟩
      refine And.intro (zDX hD 0 rfl) ⟨_, sn_V_say.up (by decide), ?_⟩
      refine ⟨_, _, ((q34b + 48) : Int), rfl, hD, (by first | exact p39bbbbhP2 | exact p39bbhP2 | exact p39hP2 | exact hP), (by first | omega | (simp only [List.length_append, List.length_cons, List.length_nil]; omega)), (by omega), ?_⟩
      intro I39bo p39bbhP2 p39bbbfr
      refine ⟨_, _, ⟨(zW6i (zRL rfl)), (zW6i (zRL rfl)), (by decide)⟩, (zdv (by omega) (fun q46b e46b => ?_))⟩
      obtain rfl : q46b = 0 := (by omega)
      refine ⟨_, _, ⟨zW6i (zRL rfl), zW6i (zRL rfl)⟩, fun z23bb c23bb => ?_⟩
      refine And.intro c23bb.2.2 ⟨fun h24bb => ?_, (fun h24bb => False.elim (by omega))⟩
      refine hQ _ ?_ (fun c j h0 h1 => ((p39bbbfr c j h0 h1).trans ((p39bfr c j h0 h1).trans rfl)))
      · first
        | (rw [wWh_4 (by omega), ← wA3, ← (show q34 + 48 = wDg v 1000 from by unfold wDg; omega), ← (show q34b + 48 = wDg v 100 from by unfold wDg; omega), ← (show q34bb + 48 = wDg v 10 from by unfold wDg; omega), ← (show q34bbb + 48 = wDg v 1 from by unfold wDg; omega)]
           exact p39bbbbbbhP2)
        | (rw [wWh_3 (by omega) (by omega), ← wA2, ← (show q34 + 48 = wDg v 100 from by unfold wDg; omega), ← (show q34b + 48 = wDg v 10 from by unfold wDg; omega), ← (show q34bb + 48 = wDg v 1 from by unfold wDg; omega)]
           exact p39bbbbhP2)
        | (rw [wWh_2 (by omega) (by omega), ← wA1, ← (show q34 + 48 = wDg v 10 from by unfold wDg; omega), ← (show q34b + 48 = wDg v 1 from by unfold wDg; omega)]
           exact p39bbhP2)
        | (rw [wWh_1 (by omega), ← (show q34 + 48 = wDg v 1 from by unfold wDg; omega)]
           exact p39hP2)
    · refine ⟨_, _, ⟨(zW6i (by omega)), (zW6i (zRL rfl)), (by decide)⟩, (zdv (by omega) (fun q4bb e4bb => ?_))⟩
      refine ⟨_, _, ⟨zW6i (by omega), zW6i (zRL rfl)⟩, fun z8bb c8bb => ?_⟩
      refine And.intro c8bb.2.2 ⟨fun h9bb => ?_, fun h9bb => ?_⟩
      · refine ⟨_, _, ⟨zW6i (zRL rfl), zW6i (zRL rfl)⟩, fun z23 c23 => ?_⟩
        refine And.intro c23.2.2 ⟨(fun h24 => False.elim (by omega)), fun h24 => ?_⟩
        refine ⟨_, _, ⟨(zW6i (by omega)), (zW6i (zRL rfl)), (by decide)⟩, (zdv (by omega) (fun q30 e30 => ?_))⟩
        refine ⟨_, _, ⟨(zW6i (by omega)), (zW6i (zRL rfl)), (by decide)⟩, (zdv (by omega) (fun q34 e34 => ?_))⟩
        refine ⟨_, (zWi (by omega)), ?_⟩
        refine And.intro (zDX hD 0 rfl) ⟨_, sn_V_say.up (by decide), ?_⟩
        refine ⟨_, _, ((q34 + 48) : Int), rfl, hD, (by first | exact p39bbbbhP2 | exact p39bbhP2 | exact p39hP2 | exact hP), (by first | omega | (simp only [List.length_append, List.length_cons, List.length_nil]; omega)), (by omega), ?_⟩
        intro I39o p39hP2 p39bfr
        refine ⟨_, _, ⟨(zW6i (zRL rfl)), (zW6i (zRL rfl)), (by decide)⟩, (zdv (by omega) (fun q46 e46 => ?_))⟩
        obtain rfl : q46 = 10 := (by omega)
        refine ⟨_, _, ⟨zW6i (zRL rfl), zW6i (zRL rfl)⟩, fun z23b c23b => ?_⟩
        refine And.intro c23b.2.2 ⟨(fun h24b => False.elim (by omega)), fun h24b => ?_⟩
        refine ⟨_, _, ⟨(zW6i (by omega)), (zW6i (zRL rfl)), (by decide)⟩, (zdv (by omega) (fun q30b e30b => ?_))⟩
        refine ⟨_, _, ⟨(zW6i (by omega)), (zW6i (zRL rfl)), (by decide)⟩, (zdv (by omega) (fun q34b e34b => ?_))⟩
        refine ⟨_, (zWi (by omega)), ?_⟩
        refine And.intro (zDX hD 0 rfl) ⟨_, sn_V_say.up (by decide), ?_⟩
        refine ⟨_, _, ((q34b + 48) : Int), rfl, hD, (by first | exact p39bbbbhP2 | exact p39bbhP2 | exact p39hP2 | exact hP), (by first | omega | (simp only [List.length_append, List.length_cons, List.length_nil]; omega)), (by omega), ?_⟩
        intro I39bo p39bbhP2 p39bbbfr
        refine ⟨_, _, ⟨(zW6i (zRL rfl)), (zW6i (zRL rfl)), (by decide)⟩, (zdv (by omega) (fun q46b e46b => ?_))⟩
        obtain rfl : q46b = 1 := (by omega)
        refine ⟨_, _, ⟨zW6i (zRL rfl), zW6i (zRL rfl)⟩, fun z23bb c23bb => ?_⟩
        refine And.intro c23bb.2.2 ⟨(fun h24bb => False.elim (by omega)), fun h24bb => ?_⟩
        refine ⟨_, _, ⟨(zW6i (by omega)), (zW6i (zRL rfl)), (by decide)⟩, (zdv (by omega) (fun q30bb e30bb => ?_))⟩
        refine ⟨_, _, ⟨(zW6i (by omega)), (zW6i (zRL rfl)), (by decide)⟩, (zdv (by omega) (fun q34bb e34bb => ?_))⟩
        refine ⟨_, (zWi (by omega)), ?_⟩
        refine And.intro (zDX hD 0 rfl) ⟨_, sn_V_say.up (by decide), ?_⟩
        refine ⟨_, _, ((q34bb + 48) : Int), rfl, hD, (by first | exact p39bbbbhP2 | exact p39bbhP2 | exact p39hP2 | exact hP), (by first | omega | (simp only [List.length_append, List.length_cons, List.length_nil]; omega)), (by omega), ?_⟩
        intro I39bbo p39bbbbhP2 p39bbbbbfr
        refine ⟨_, _, ⟨(zW6i (zRL rfl)), (zW6i (zRL rfl)), (by decide)⟩, (zdv (by omega) (fun q46bb e46bb => ?_))⟩
        obtain rfl : q46bb = 0 := (by omega)
        refine ⟨_, _, ⟨zW6i (zRL rfl), zW6i (zRL rfl)⟩, fun z23bbb c23bbb => ?_⟩
        refine And.intro c23bbb.2.2 ⟨fun h24bbb => ?_, (fun h24bbb => False.elim (by omega))⟩
        refine hQ _ ?_ (fun c j h0 h1 => ((p39bbbbbfr c j h0 h1).trans ((p39bbbfr c j h0 h1).trans ((p39bfr c j h0 h1).trans rfl))))
        · first
          | (rw [wWh_4 (by omega), ← wA3, ← (show q34 + 48 = wDg v 1000 from by unfold wDg; omega), ← (show q34b + 48 = wDg v 100 from by unfold wDg; omega), ← (show q34bb + 48 = wDg v 10 from by unfold wDg; omega), ← (show q34bbb + 48 = wDg v 1 from by unfold wDg; omega)]
             exact p39bbbbbbhP2)
          | (rw [wWh_3 (by omega) (by omega), ← wA2, ← (show q34 + 48 = wDg v 100 from by unfold wDg; omega), ← (show q34b + 48 = wDg v 10 from by unfold wDg; omega), ← (show q34bb + 48 = wDg v 1 from by unfold wDg; omega)]
             exact p39bbbbhP2)
          | (rw [wWh_2 (by omega) (by omega), ← wA1, ← (show q34 + 48 = wDg v 10 from by unfold wDg; omega), ← (show q34b + 48 = wDg v 1 from by unfold wDg; omega)]
             exact p39bbhP2)
          | (rw [wWh_1 (by omega), ← (show q34 + 48 = wDg v 1 from by unfold wDg; omega)]
             exact p39hP2)
      · refine ⟨_, _, ⟨(zW6i (by omega)), (zW6i (zRL rfl)), (by decide)⟩, (zdv (by omega) (fun q4bbb e4bbb => ?_))⟩
        refine ⟨_, _, ⟨zW6i (by omega), zW6i (zRL rfl)⟩, fun z8bbb c8bbb => ?_⟩
        refine And.intro c8bbb.2.2 ⟨fun h9bbb => ?_, (fun h9bbb => False.elim (by omega))⟩
        refine ⟨_, _, ⟨zW6i (zRL rfl), zW6i (zRL rfl)⟩, fun z23 c23 => ?_⟩
        refine And.intro c23.2.2 ⟨(fun h24 => False.elim (by omega)), fun h24 => ?_⟩
        refine ⟨_, _, ⟨(zW6i (by omega)), (zW6i (zRL rfl)), (by decide)⟩, (zdv (by omega) (fun q30 e30 => ?_))⟩
        refine ⟨_, _, ⟨(zW6i (by omega)), (zW6i (zRL rfl)), (by decide)⟩, (zdv (by omega) (fun q34 e34 => ?_))⟩
        refine ⟨_, (zWi (by omega)), ?_⟩
        refine And.intro (zDX hD 0 rfl) ⟨_, sn_V_say.up (by decide), ?_⟩
        refine ⟨_, _, ((q34 + 48) : Int), rfl, hD, (by first | exact p39bbbbhP2 | exact p39bbhP2 | exact p39hP2 | exact hP), (by first | omega | (simp only [List.length_append, List.length_cons, List.length_nil]; omega)), (by omega), ?_⟩
        intro I39o p39hP2 p39bfr
        refine ⟨_, _, ⟨(zW6i (zRL rfl)), (zW6i (zRL rfl)), (by decide)⟩, (zdv (by omega) (fun q46 e46 => ?_))⟩
        obtain rfl : q46 = 100 := (by omega)
        refine ⟨_, _, ⟨zW6i (zRL rfl), zW6i (zRL rfl)⟩, fun z23b c23b => ?_⟩
        refine And.intro c23b.2.2 ⟨(fun h24b => False.elim (by omega)), fun h24b => ?_⟩
        refine ⟨_, _, ⟨(zW6i (by omega)), (zW6i (zRL rfl)), (by decide)⟩, (zdv (by omega) (fun q30b e30b => ?_))⟩
        refine ⟨_, _, ⟨(zW6i (by omega)), (zW6i (zRL rfl)), (by decide)⟩, (zdv (by omega) (fun q34b e34b => ?_))⟩
        refine ⟨_, (zWi (by omega)), ?_⟩
        refine And.intro (zDX hD 0 rfl) ⟨_, sn_V_say.up (by decide), ?_⟩
        refine ⟨_, _, ((q34b + 48) : Int), rfl, hD, (by first | exact p39bbbbhP2 | exact p39bbhP2 | exact p39hP2 | exact hP), (by first | omega | (simp only [List.length_append, List.length_cons, List.length_nil]; omega)), (by omega), ?_⟩
        intro I39bo p39bbhP2 p39bbbfr
        refine ⟨_, _, ⟨(zW6i (zRL rfl)), (zW6i (zRL rfl)), (by decide)⟩, (zdv (by omega) (fun q46b e46b => ?_))⟩
        obtain rfl : q46b = 10 := (by omega)
        refine ⟨_, _, ⟨zW6i (zRL rfl), zW6i (zRL rfl)⟩, fun z23bb c23bb => ?_⟩
        refine And.intro c23bb.2.2 ⟨(fun h24bb => False.elim (by omega)), fun h24bb => ?_⟩
        refine ⟨_, _, ⟨(zW6i (by omega)), (zW6i (zRL rfl)), (by decide)⟩, (zdv (by omega) (fun q30bb e30bb => ?_))⟩
        refine ⟨_, _, ⟨(zW6i (by omega)), (zW6i (zRL rfl)), (by decide)⟩, (zdv (by omega) (fun q34bb e34bb => ?_))⟩
        refine ⟨_, (zWi (by omega)), ?_⟩
        refine And.intro (zDX hD 0 rfl) ⟨_, sn_V_say.up (by decide), ?_⟩
        refine ⟨_, _, ((q34bb + 48) : Int), rfl, hD, (by first | exact p39bbbbhP2 | exact p39bbhP2 | exact p39hP2 | exact hP), (by first | omega | (simp only [List.length_append, List.length_cons, List.length_nil]; omega)), (by omega), ?_⟩
        intro I39bbo p39bbbbhP2 p39bbbbbfr
        refine ⟨_, _, ⟨(zW6i (zRL rfl)), (zW6i (zRL rfl)), (by decide)⟩, (zdv (by omega) (fun q46bb e46bb => ?_))⟩
        obtain rfl : q46bb = 1 := (by omega)
        refine ⟨_, _, ⟨zW6i (zRL rfl), zW6i (zRL rfl)⟩, fun z23bbb c23bbb => ?_⟩
        refine And.intro c23bbb.2.2 ⟨(fun h24bbb => False.elim (by omega)), fun h24bbb => ?_⟩
        refine ⟨_, _, ⟨(zW6i (by omega)), (zW6i (zRL rfl)), (by decide)⟩, (zdv (by omega) (fun q30bbb e30bbb => ?_))⟩
        refine ⟨_, _, ⟨(zW6i (by omega)), (zW6i (zRL rfl)), (by decide)⟩, (zdv (by omega) (fun q34bbb e34bbb => ?_))⟩
        refine ⟨_, (zWi (by omega)), ?_⟩
        refine And.intro (zDX hD 0 rfl) ⟨_, sn_V_say.up (by decide), ?_⟩
        refine ⟨_, _, ((q34bbb + 48) : Int), rfl, hD, (by first | exact p39bbbbhP2 | exact p39bbhP2 | exact p39hP2 | exact hP), (by first | omega | (simp only [List.length_append, List.length_cons, List.length_nil]; omega)), (by omega), ?_⟩
        intro I39bbbo p39bbbbbbhP2 p39bbbbbbbfr
        refine ⟨_, _, ⟨(zW6i (zRL rfl)), (zW6i (zRL rfl)), (by decide)⟩, (zdv (by omega) (fun q46bbb e46bbb => ?_))⟩
        obtain rfl : q46bbb = 0 := (by omega)
        refine ⟨_, _, ⟨zW6i (zRL rfl), zW6i (zRL rfl)⟩, fun z23bbbb c23bbbb => ?_⟩
        refine And.intro c23bbbb.2.2 ⟨fun h24bbbb => ?_, (fun h24bbbb => False.elim (by omega))⟩
        refine hQ _ ?_ (fun c j h0 h1 => ((p39bbbbbbbfr c j h0 h1).trans ((p39bbbbbfr c j h0 h1).trans ((p39bbbfr c j h0 h1).trans ((p39bfr c j h0 h1).trans rfl)))))
        · first
          | (rw [wWh_4 (by omega), ← wA3, ← (show q34 + 48 = wDg v 1000 from by unfold wDg; omega), ← (show q34b + 48 = wDg v 100 from by unfold wDg; omega), ← (show q34bb + 48 = wDg v 10 from by unfold wDg; omega), ← (show q34bbb + 48 = wDg v 1 from by unfold wDg; omega)]
             exact p39bbbbbbhP2)
          | (rw [wWh_3 (by omega) (by omega), ← wA2, ← (show q34 + 48 = wDg v 100 from by unfold wDg; omega), ← (show q34b + 48 = wDg v 10 from by unfold wDg; omega), ← (show q34bb + 48 = wDg v 1 from by unfold wDg; omega)]
             exact p39bbbbhP2)
          | (rw [wWh_2 (by omega) (by omega), ← wA1, ← (show q34 + 48 = wDg v 10 from by unfold wDg; omega), ← (show q34b + 48 = wDg v 1 from by unfold wDg; omega)]
             exact p39bbhP2)
          | (rw [wWh_1 (by omega), ← (show q34 + 48 = wDg v 1 from by unfold wDg; omega)]
             exact p39hP2))
